theorem mlRX12_466 : Cond.methodLink RX12 466 yX12_goesIn ∈ ab_G ∧ Cond.instanceMethod yX12_goesIn ∈ ab_G ∧ Cond.selects RX12 yX12_goesIn yX12_goesIn ∈ ab_G := ⟨ab_in 2431 (by decide +kernel) (by decide +kernel), ab_in 2433 (by decide +kernel) (by decide +kernel), ab_in 40 (by decide +kernel) (by decide +kernel)⟩
theorem mlRX12_469 : Cond.methodLink RX12 469 yX12_sums ∈ ab_G ∧ Cond.instanceMethod yX12_sums ∈ ab_G ∧ Cond.selects RX12 yX12_sums yX12_sums ∈ ab_G := ⟨ab_in 2443 (by decide +kernel) (by decide +kernel), ab_in 2445 (by decide +kernel) (by decide +kernel), ab_in 43 (by decide +kernel) (by decide +kernel)⟩
theorem mlRX12_472 : Cond.methodLink RX12 472 yX12_takes ∈ ab_G ∧ Cond.instanceMethod yX12_takes ∈ ab_G ∧ Cond.selects RX12 yX12_takes yX12_takes ∈ ab_G := ⟨ab_in 2439 (by decide +kernel) (by decide +kernel), ab_in 2441 (by decide +kernel) (by decide +kernel), ab_in 42 (by decide +kernel) (by decide +kernel)⟩
theorem mlRX12_463 : Cond.methodLink RX12 463 yX12_number ∈ ab_G ∧ Cond.instanceMethod yX12_number ∈ ab_G ∧ Cond.selects RX12 yX12_number yX12_number ∈ ab_G := ⟨ab_in 2456 (by decide +kernel) (by decide +kernel), ab_in 2458 (by decide +kernel) (by decide +kernel), ab_in 46 (by decide +kernel) (by decide +kernel)⟩
theorem gfRX12_210 : ab_L RX12 210 12 77 := ⟨by decide, by decide, ab_in 1926 (by decide +kernel) (by decide +kernel)⟩
theorem mlRX12_458 : Cond.methodLink RX12 458 yJ0_indexOf_0f7a4 ∈ ab_G ∧ Cond.instanceMethod yJ0_indexOf_0f7a4 ∈ ab_G ∧ Cond.selects RJ0 yJ0_indexOf_0f7a4 yJ0_indexOf_0f7a4 ∈ ab_G := ⟨ab_in 2455 (by decide +kernel) (by decide +kernel), ab_in 1232 (by decide +kernel) (by decide +kernel), ab_in 1233 (by decide +kernel) (by decide +kernel)⟩
theorem gfRX12_192 : ab_L RX12 192 12 67 := ⟨by decide, by decide, ab_in 1916 (by decide +kernel) (by decide +kernel)⟩
theorem mlRX12_478 : Cond.methodLink RX12 478 yX12_bound ∈ ab_G ∧ Cond.static yX12_bound ∈ ab_G := ⟨ab_in 2464 (by decide +kernel) (by decide +kernel), ab_in 2465 (by decide +kernel) (by decide +kernel)⟩
theorem mlRX12_482 : Cond.methodLink RX12 482 yX12_term ∈ ab_G ∧ Cond.instanceMethod yX12_term ∈ ab_G ∧ Cond.selects RX12 yX12_term yX12_term ∈ ab_G := ⟨ab_in 2447 (by decide +kernel) (by decide +kernel), ab_in 2449 (by decide +kernel) (by decide +kernel), ab_in 44 (by decide +kernel) (by decide +kernel)⟩
theorem mlRX12_475 : Cond.methodLink RX12 475 yX12_atom ∈ ab_G ∧ Cond.instanceMethod yX12_atom ∈ ab_G ∧ Cond.selects RX12 yX12_atom yX12_atom ∈ ab_G := ⟨ab_in 2451 (by decide +kernel) (by decide +kernel), ab_in 2453 (by decide +kernel) (by decide +kernel), ab_in 45 (by decide +kernel) (by decide +kernel)⟩
abbrev MX12_atom : ab_M := (yX12_atom, cX12_atom, 3, (some .int))
theorem dX12_atom_0 : decode cX12_atom 0 = .ok (.aload_n 0, 1) := by decide +kernel
theorem dX12_atom_1 : decode cX12_atom 1 = .ok (.invokevirtual 442, 3) := by decide +kernel
theorem dX12_atom_4 : decode cX12_atom 4 = .ok (.istore_n 1, 1) := by decide +kernel
theorem dX12_atom_5 : decode cX12_atom 5 = .ok (.iload_n 1, 1) := by decide +kernel
theorem dX12_atom_6 : decode cX12_atom 6 = .ok (.iconst (-1), 1) := by decide +kernel
theorem dX12_atom_7 : decode cX12_atom 7 = .ok (.if_icmp .eq 31, 3) := by decide +kernel
theorem dX12_atom_10 : decode cX12_atom 10 = .ok (.aload_n 0, 1) := by decide +kernel
theorem dX12_atom_11 : decode cX12_atom 11 = .ok (.getfield 210, 3) := by decide +kernel
theorem dX12_atom_14 : decode cX12_atom 14 = .ok (.iload_n 1, 1) := by decide +kernel
theorem dX12_atom_15 : decode cX12_atom 15 = .ok (.invokevirtual 458, 3) := by decide +kernel
theorem dX12_atom_18 : decode cX12_atom 18 = .ok (.ifCond .lt 20, 3) := by decide +kernel
theorem dX12_atom_21 : decode cX12_atom 21 = .ok (.aload_n 0, 1) := by decide +kernel
theorem dX12_atom_22 : decode cX12_atom 22 = .ok (.dup, 1) := by decide +kernel
theorem dX12_atom_23 : decode cX12_atom 23 = .ok (.getfield 423, 3) := by decide +kernel
theorem dX12_atom_26 : decode cX12_atom 26 = .ok (.iconst 1, 1) := by decide +kernel
theorem dX12_atom_27 : decode cX12_atom 27 = .ok (.iadd, 1) := by decide +kernel
theorem dX12_atom_28 : decode cX12_atom 28 = .ok (.putfield 423, 3) := by decide +kernel
theorem dX12_atom_31 : decode cX12_atom 31 = .ok (.aload_n 0, 1) := by decide +kernel
theorem dX12_atom_32 : decode cX12_atom 32 = .ok (.getfield 192, 3) := by decide +kernel
theorem dX12_atom_35 : decode cX12_atom 35 = .ok (.iload_n 1, 1) := by decide +kernel
theorem dX12_atom_36 : decode cX12_atom 36 = .ok (.iaload, 1) := by decide +kernel
theorem dX12_atom_37 : decode cX12_atom 37 = .ok (.ireturn, 1) := by decide +kernel
theorem dX12_atom_38 : decode cX12_atom 38 = .ok (.iload_n 1, 1) := by decide +kernel
theorem dX12_atom_39 : decode cX12_atom 39 = .ok (.bipush 91, 2) := by decide +kernel
theorem dX12_atom_41 : decode cX12_atom 41 = .ok (.if_icmp .eq 9, 3) := by decide +kernel
theorem dX12_atom_44 : decode cX12_atom 44 = .ok (.aload_n 0, 1) := by decide +kernel
theorem dX12_atom_45 : decode cX12_atom 45 = .ok (.iconst 4, 1) := by decide +kernel
theorem dX12_atom_46 : decode cX12_atom 46 = .ok (.invokevirtual 463, 3) := by decide +kernel
theorem dX12_atom_49 : decode cX12_atom 49 = .ok (.ireturn, 1) := by decide +kernel
theorem dX12_atom_50 : decode cX12_atom 50 = .ok (.aload_n 0, 1) := by decide +kernel
theorem dX12_atom_51 : decode cX12_atom 51 = .ok (.invokevirtual 466, 3) := by decide +kernel
theorem dX12_atom_54 : decode cX12_atom 54 = .ok (.ifCond .ne 5, 3) := by decide +kernel
theorem dX12_atom_57 : decode cX12_atom 57 = .ok (.iconst 0, 1) := by decide +kernel
theorem dX12_atom_58 : decode cX12_atom 58 = .ok (.ireturn, 1) := by decide +kernel
theorem dX12_atom_59 : decode cX12_atom 59 = .ok (.aload_n 0, 1) := by decide +kernel
theorem dX12_atom_60 : decode cX12_atom 60 = .ok (.invokevirtual 469, 3) := by decide +kernel
theorem dX12_atom_63 : decode cX12_atom 63 = .ok (.istore_n 2, 1) := by decide +kernel
theorem dX12_atom_64 : decode cX12_atom 64 = .ok (.aload_n 0, 1) := by decide +kernel
theorem dX12_atom_65 : decode cX12_atom 65 = .ok (.bipush 93, 2) := by decide +kernel
theorem dX12_atom_67 : decode cX12_atom 67 = .ok (.invokevirtual 472, 3) := by decide +kernel
theorem dX12_atom_70 : decode cX12_atom 70 = .ok (.ifCond .ne 5, 3) := by decide +kernel
theorem dX12_atom_73 : decode cX12_atom 73 = .ok (.iconst 0, 1) := by decide +kernel
theorem dX12_atom_74 : decode cX12_atom 74 = .ok (.ireturn, 1) := by decide +kernel
theorem dX12_atom_75 : decode cX12_atom 75 = .ok (.aload_n 0, 1) := by decide +kernel
theorem dX12_atom_76 : decode cX12_atom 76 = .ok (.dup, 1) := by decide +kernel
theorem dX12_atom_77 : decode cX12_atom 77 = .ok (.getfield 435, 3) := by decide +kernel
theorem dX12_atom_80 : decode cX12_atom 80 = .ok (.iconst 1, 1) := by decide +kernel
theorem dX12_atom_81 : decode cX12_atom 81 = .ok (.isub, 1) := by decide +kernel
theorem dX12_atom_82 : decode cX12_atom 82 = .ok (.putfield 435, 3) := by decide +kernel
theorem dX12_atom_85 : decode cX12_atom 85 = .ok (.iload_n 2, 1) := by decide +kernel
theorem dX12_atom_86 : decode cX12_atom 86 = .ok (.ireturn, 1) := by decide +kernel
theorem okX12_atom : ab_okM MX12_atom 0 := ⟨by decide, ⟨by decide, by decide⟩, ab_in 2454 (by decide +kernel) (by decide +kernel), ab_in 99 (by decide +kernel) (by decide +kernel), by decide +kernel, by decide⟩
abbrev MX12_sums : ab_M := (yX12_sums, cX12_sums, 5, (some .int))
theorem dX12_sums_0 : decode cX12_sums 0 = .ok (.aload_n 0, 1) := by decide +kernel
theorem dX12_sums_1 : decode cX12_sums 1 = .ok (.invokevirtual 482, 3) := by decide +kernel
theorem dX12_sums_4 : decode cX12_sums 4 = .ok (.istore_n 1, 1) := by decide +kernel
theorem dX12_sums_5 : decode cX12_sums 5 = .ok (.aload_n 0, 1) := by decide +kernel
theorem dX12_sums_6 : decode cX12_sums 6 = .ok (.getfield 432, 3) := by decide +kernel
theorem dX12_sums_9 : decode cX12_sums 9 = .ok (.iconst (-1), 1) := by decide +kernel
theorem dX12_sums_10 : decode cX12_sums 10 = .ok (.if_icmp .ne 74, 3) := by decide +kernel
theorem dX12_sums_13 : decode cX12_sums 13 = .ok (.aload_n 0, 1) := by decide +kernel
theorem dX12_sums_14 : decode cX12_sums 14 = .ok (.invokevirtual 442, 3) := by decide +kernel
theorem dX12_sums_17 : decode cX12_sums 17 = .ok (.bipush 43, 2) := by decide +kernel
theorem dX12_sums_19 : decode cX12_sums 19 = .ok (.if_icmp .eq 12, 3) := by decide +kernel
theorem dX12_sums_22 : decode cX12_sums 22 = .ok (.aload_n 0, 1) := by decide +kernel
theorem dX12_sums_23 : decode cX12_sums 23 = .ok (.invokevirtual 442, 3) := by decide +kernel
theorem dX12_sums_26 : decode cX12_sums 26 = .ok (.bipush 45, 2) := by decide +kernel
theorem dX12_sums_28 : decode cX12_sums 28 = .ok (.if_icmp .ne 56, 3) := by decide +kernel
theorem dX12_sums_31 : decode cX12_sums 31 = .ok (.aload_n 0, 1) := by decide +kernel
theorem dX12_sums_32 : decode cX12_sums 32 = .ok (.invokevirtual 442, 3) := by decide +kernel
theorem dX12_sums_35 : decode cX12_sums 35 = .ok (.bipush 43, 2) := by decide +kernel
theorem dX12_sums_37 : decode cX12_sums 37 = .ok (.if_icmp .ne 7, 3) := by decide +kernel
theorem dX12_sums_40 : decode cX12_sums 40 = .ok (.iconst 1, 1) := by decide +kernel
theorem dX12_sums_41 : decode cX12_sums 41 = .ok (.goto 4, 3) := by decide +kernel
theorem dX12_sums_44 : decode cX12_sums 44 = .ok (.iconst 0, 1) := by decide +kernel
theorem dX12_sums_45 : decode cX12_sums 45 = .ok (.istore_n 2, 1) := by decide +kernel
theorem dX12_sums_46 : decode cX12_sums 46 = .ok (.aload_n 0, 1) := by decide +kernel
theorem dX12_sums_47 : decode cX12_sums 47 = .ok (.dup, 1) := by decide +kernel
theorem dX12_sums_48 : decode cX12_sums 48 = .ok (.getfield 423, 3) := by decide +kernel
theorem dX12_sums_51 : decode cX12_sums 51 = .ok (.iconst 1, 1) := by decide +kernel
theorem dX12_sums_52 : decode cX12_sums 52 = .ok (.iadd, 1) := by decide +kernel
theorem dX12_sums_53 : decode cX12_sums 53 = .ok (.putfield 423, 3) := by decide +kernel
theorem dX12_sums_56 : decode cX12_sums 56 = .ok (.aload_n 0, 1) := by decide +kernel
theorem dX12_sums_57 : decode cX12_sums 57 = .ok (.invokevirtual 482, 3) := by decide +kernel
theorem dX12_sums_60 : decode cX12_sums 60 = .ok (.i2l, 1) := by decide +kernel
theorem dX12_sums_61 : decode cX12_sums 61 = .ok (.lstore_n 3, 1) := by decide +kernel
theorem dX12_sums_62 : decode cX12_sums 62 = .ok (.iload_n 2, 1) := by decide +kernel
theorem dX12_sums_63 : decode cX12_sums 63 = .ok (.ifCond .eq 10, 3) := by decide +kernel
theorem dX12_sums_66 : decode cX12_sums 66 = .ok (.iload_n 1, 1) := by decide +kernel
theorem dX12_sums_67 : decode cX12_sums 67 = .ok (.i2l, 1) := by decide +kernel
theorem dX12_sums_68 : decode cX12_sums 68 = .ok (.lload_n 3, 1) := by decide +kernel
theorem dX12_sums_69 : decode cX12_sums 69 = .ok (.ladd, 1) := by decide +kernel
theorem dX12_sums_70 : decode cX12_sums 70 = .ok (.goto 7, 3) := by decide +kernel
theorem dX12_sums_73 : decode cX12_sums 73 = .ok (.iload_n 1, 1) := by decide +kernel
theorem dX12_sums_74 : decode cX12_sums 74 = .ok (.i2l, 1) := by decide +kernel
theorem dX12_sums_75 : decode cX12_sums 75 = .ok (.lload_n 3, 1) := by decide +kernel
theorem dX12_sums_76 : decode cX12_sums 76 = .ok (.lsub, 1) := by decide +kernel
theorem dX12_sums_77 : decode cX12_sums 77 = .ok (.invokestatic 478, 3) := by decide +kernel
theorem dX12_sums_80 : decode cX12_sums 80 = .ok (.istore_n 1, 1) := by decide +kernel
theorem dX12_sums_81 : decode cX12_sums 81 = .ok (.goto (-76), 3) := by decide +kernel
theorem dX12_sums_84 : decode cX12_sums 84 = .ok (.iload_n 1, 1) := by decide +kernel
theorem dX12_sums_85 : decode cX12_sums 85 = .ok (.ireturn, 1) := by decide +kernel
theorem okX12_sums : ab_okM MX12_sums 0 := ⟨by decide, ⟨by decide, by decide⟩, ab_in 2446 (by decide +kernel) (by decide +kernel), ab_in 99 (by decide +kernel) (by decide +kernel), by decide +kernel, by decide⟩
abbrev MX12_term : ab_M := (yX12_term, cX12_term, 4, (some .int))
theorem dX12_term_0 : decode cX12_term 0 = .ok (.aload_n 0, 1) := by decide +kernel
theorem dX12_term_1 : decode cX12_term 1 = .ok (.invokevirtual 475, 3) := by decide +kernel
theorem dX12_term_4 : decode cX12_term 4 = .ok (.istore_n 1, 1) := by decide +kernel
theorem dX12_term_5 : decode cX12_term 5 = .ok (.aload_n 0, 1) := by decide +kernel
theorem dX12_term_6 : decode cX12_term 6 = .ok (.getfield 432, 3) := by decide +kernel
theorem dX12_term_9 : decode cX12_term 9 = .ok (.iconst (-1), 1) := by decide +kernel
theorem dX12_term_10 : decode cX12_term 10 = .ok (.if_icmp .ne 39, 3) := by decide +kernel
theorem dX12_term_13 : decode cX12_term 13 = .ok (.aload_n 0, 1) := by decide +kernel
theorem dX12_term_14 : decode cX12_term 14 = .ok (.invokevirtual 442, 3) := by decide +kernel
theorem dX12_term_17 : decode cX12_term 17 = .ok (.bipush 42, 2) := by decide +kernel
theorem dX12_term_19 : decode cX12_term 19 = .ok (.if_icmp .ne 30, 3) := by decide +kernel
theorem dX12_term_22 : decode cX12_term 22 = .ok (.aload_n 0, 1) := by decide +kernel
theorem dX12_term_23 : decode cX12_term 23 = .ok (.dup, 1) := by decide +kernel
theorem dX12_term_24 : decode cX12_term 24 = .ok (.getfield 423, 3) := by decide +kernel
theorem dX12_term_27 : decode cX12_term 27 = .ok (.iconst 1, 1) := by decide +kernel
theorem dX12_term_28 : decode cX12_term 28 = .ok (.iadd, 1) := by decide +kernel
theorem dX12_term_29 : decode cX12_term 29 = .ok (.putfield 423, 3) := by decide +kernel
theorem dX12_term_32 : decode cX12_term 32 = .ok (.aload_n 0, 1) := by decide +kernel
theorem dX12_term_33 : decode cX12_term 33 = .ok (.invokevirtual 475, 3) := by decide +kernel
theorem dX12_term_36 : decode cX12_term 36 = .ok (.i2l, 1) := by decide +kernel
theorem dX12_term_37 : decode cX12_term 37 = .ok (.lstore_n 2, 1) := by decide +kernel
theorem dX12_term_38 : decode cX12_term 38 = .ok (.iload_n 1, 1) := by decide +kernel
theorem dX12_term_39 : decode cX12_term 39 = .ok (.i2l, 1) := by decide +kernel
theorem dX12_term_40 : decode cX12_term 40 = .ok (.lload_n 2, 1) := by decide +kernel
theorem dX12_term_41 : decode cX12_term 41 = .ok (.lmul, 1) := by decide +kernel
theorem dX12_term_42 : decode cX12_term 42 = .ok (.invokestatic 478, 3) := by decide +kernel
theorem dX12_term_45 : decode cX12_term 45 = .ok (.istore_n 1, 1) := by decide +kernel
theorem dX12_term_46 : decode cX12_term 46 = .ok (.goto (-41), 3) := by decide +kernel
theorem dX12_term_49 : decode cX12_term 49 = .ok (.iload_n 1, 1) := by decide +kernel
theorem dX12_term_50 : decode cX12_term 50 = .ok (.ireturn, 1) := by decide +kernel
theorem okX12_term : ab_okM MX12_term 0 := ⟨by decide, ⟨by decide, by decide⟩, ab_in 2450 (by decide +kernel) (by decide +kernel), ab_in 99 (by decide +kernel) (by decide +kernel), by decide +kernel, by decide⟩
set_option maxHeartbeats 4000000 in
set_option maxRecDepth 100000 in
theorem sX12_atom_38 (RX12_atom : ab_X → (Int32 → ab_X → Prop) → Prop) (RX12_sums : ab_X → (Int32 → ab_X → Prop) → Prop) (RX12_term : ab_X → (Int32 → ab_X → Prop) → Prop) (v1 : Int32)  (x : ab_X) (K : Int32 → ab_X → Prop)  (d bc bs : Nat) (hdp : 4 ≤ d) (dr : Nat) (hRX12_atom : ∀   (x : ab_X) (K : Int32 → ab_X → Prop), RX12_atom  x K → EW MX12_atom 0 [(0, .ref 246)] [] (aS x) dr 0 0 (liI K)) (hRX12_sums : ∀   (x : ab_X) (K : Int32 → ab_X → Prop), RX12_sums  x K → EW MX12_sums 0 [(0, .ref 246)] [] (aS x) dr 0 0 (liI K)) (hRX12_term : ∀   (x : ab_X) (K : Int32 → ab_X → Prop), RX12_term  x K → EW MX12_term 0 [(0, .ref 246)] [] (aS x) dr 0 0 (liI K)) (hdr : dr + 1 ≤ d)  (h : wX12_atom_38 RX12_atom RX12_sums RX12_term v1 x K ) : EW MX12_atom 38 [(0, .ref 246), (1, .int v1)] [] (aS x) d bc bs (liI K) := by
  unfold wX12_atom_38 at h
  refine EW_iload_n (pc2 := 39) rfl dX12_atom_38 1 rfl ?_
  refine EW_bipush (pc2 := 41) (v := 91) rfl dX12_atom_39 (by decide) ?_
  refine EW_icmp_eq (tgt := 50) (pc2 := 44) rfl dX12_atom_41 (by decide) (fun q => ?_) (fun q => ?_)
  · replace h := h.1 q
    refine EW_aload_n (pc2 := 51) rfl dX12_atom_50 0 rfl ?_
    refine AW_invV (M' := MX12_goesIn) [] (rest := []) mlRX12_466 okX12_goesIn (pc2 := 54) rfl dX12_atom_51 rfl rfl (Nat.le_of_ble_eq_true rfl) (Nat.le_of_ble_eq_true rfl) (d' := 1) (by omega) q246 ⟨by decide, rfl⟩ (EW_mono (fun _ _ hr => ?_) (sX12_goesIn   x _ _ 0 0 (Nat.le_refl _) h))
    obtain ⟨r6, x7, rfl, rfl, h⟩ := hr
    refine EW_if_ne (tgt := 59) (pc2 := 57) rfl dX12_atom_54 (by decide) (fun q => ?_) (fun q => ?_)
    · replace h := h.1 q
      refine EW_aload_n (pc2 := 60) rfl dX12_atom_59 0 rfl ?_
      refine AW_invV (M' := MX12_sums) [] (rest := []) mlRX12_469 okX12_sums (pc2 := 63) rfl dX12_atom_60 rfl rfl (Nat.le_of_ble_eq_true rfl) (Nat.le_of_ble_eq_true rfl) (d' := dr) (by omega) q246 ⟨by decide, rfl⟩ (EW_mono (fun _ _ hr => ?_) (hRX12_sums   x7 _  h))
      obtain ⟨r8, x9, rfl, rfl, h⟩ := hr
      refine EW_istore_n (pc2 := 64) rfl dX12_atom_63 (by decide) [1, 2, 0] [(0, .ref 246), (1, .int v1), (2, .int r8)] rfl ?_
      refine EW_aload_n (pc2 := 65) rfl dX12_atom_64 0 rfl ?_
      refine EW_bipush (pc2 := 67) (v := 93) rfl dX12_atom_65 (by decide) ?_
      refine AW_invV (M' := MX12_takes) [.int 93] (rest := []) mlRX12_472 okX12_takes (pc2 := 70) rfl dX12_atom_67 rfl rfl (Nat.le_of_ble_eq_true rfl) (Nat.le_of_ble_eq_true rfl) (d' := 1) (by omega) q246 ⟨by decide, rfl⟩ (EW_mono (fun _ _ hr => ?_) (sX12_takes 93  x9 _ _ 0 0 (Nat.le_refl _) h))
      obtain ⟨r10, x11, rfl, rfl, h⟩ := hr
      refine EW_if_ne (tgt := 75) (pc2 := 73) rfl dX12_atom_70 (by decide) (fun q => ?_) (fun q => ?_)
      · replace h := h.1 q
        refine EW_aload_n (pc2 := 76) rfl dX12_atom_75 0 rfl ?_
        refine EW_dup (pc2 := 77) rfl dX12_atom_76 rfl ?_
        refine AW_geti ⟨gfRX12_435, rfl⟩ (pc2 := 80) rfl dX12_atom_77 q246 ?_
        refine EW_iconst (pc2 := 81) (v := 1) rfl dX12_atom_80 (by decide) ?_
        refine EW_isub (pc2 := 82) rfl dX12_atom_81 ?_
        refine AW_puti ⟨gfRX12_435, rfl, rfl⟩ (pc2 := 85) rfl dX12_atom_82 q246 ?_
        refine EW_iload_n (pc2 := 86) rfl dX12_atom_85 2 rfl ?_
        exact AW_iret rfl dX12_atom_86 ⟨_, _, rfl, rfl, h⟩
      · replace h := h.2 q
        refine EW_iconst (pc2 := 74) (v := 0) rfl dX12_atom_73 (by decide) ?_
        exact AW_iret rfl dX12_atom_74 ⟨_, _, rfl, rfl, h⟩
    · replace h := h.2 q
      refine EW_iconst (pc2 := 58) (v := 0) rfl dX12_atom_57 (by decide) ?_
      exact AW_iret rfl dX12_atom_58 ⟨_, _, rfl, rfl, h⟩
  · replace h := h.2 q
    refine EW_aload_n (pc2 := 45) rfl dX12_atom_44 0 rfl ?_
    refine EW_iconst (pc2 := 46) (v := 4) rfl dX12_atom_45 (by decide) ?_
    refine AW_invV (M' := MX12_number) [.int 4] (rest := []) mlRX12_463 okX12_number (pc2 := 49) rfl dX12_atom_46 rfl rfl (Nat.le_of_ble_eq_true rfl) (Nat.le_of_ble_eq_true rfl) (d' := 1) (by omega) q246 ⟨by decide, rfl⟩ (EW_mono (fun _ _ hr => ?_) (sX12_number 4  x _ _ 0 0 (Nat.le_refl _) h))
    obtain ⟨r12, x13, rfl, rfl, h⟩ := hr
    exact AW_iret rfl dX12_atom_49 ⟨_, _, rfl, rfl, h⟩
set_option maxHeartbeats 4000000 in
set_option maxRecDepth 100000 in
theorem bsX12_atom (RX12_atom : ab_X → (Int32 → ab_X → Prop) → Prop) (RX12_sums : ab_X → (Int32 → ab_X → Prop) → Prop) (RX12_term : ab_X → (Int32 → ab_X → Prop) → Prop)   (x : ab_X) (K : Int32 → ab_X → Prop) (d bc bs : Nat) (hdp : 4 ≤ d) (dr : Nat) (hRX12_atom : ∀   (x : ab_X) (K : Int32 → ab_X → Prop), RX12_atom  x K → EW MX12_atom 0 [(0, .ref 246)] [] (aS x) dr 0 0 (liI K)) (hRX12_sums : ∀   (x : ab_X) (K : Int32 → ab_X → Prop), RX12_sums  x K → EW MX12_sums 0 [(0, .ref 246)] [] (aS x) dr 0 0 (liI K)) (hRX12_term : ∀   (x : ab_X) (K : Int32 → ab_X → Prop), RX12_term  x K → EW MX12_term 0 [(0, .ref 246)] [] (aS x) dr 0 0 (liI K)) (hdr : dr + 1 ≤ d) (h : bX12_atom RX12_atom RX12_sums RX12_term  x K) : EW MX12_atom 0 [(0, .ref 246)] [] (aS x) d bc bs (liI K) := by
  unfold bX12_atom at h
  refine EW_aload_n (pc2 := 1) rfl dX12_atom_0 0 rfl ?_
  refine AW_invV (M' := MX12_look) [] (rest := []) mlRX12_442 okX12_look (pc2 := 4) rfl dX12_atom_1 rfl rfl (Nat.le_of_ble_eq_true rfl) (Nat.le_of_ble_eq_true rfl) (d' := 0) (by omega) q246 ⟨by decide, rfl⟩ (EW_mono (fun _ _ hr => ?_) (sX12_look   x _ _ 0 0 (Nat.le_refl _) h))
  obtain ⟨r1, x2, rfl, rfl, h⟩ := hr
  refine EW_istore_n (pc2 := 5) rfl dX12_atom_4 (by decide) [1, 0] [(0, .ref 246), (1, .int r1)] rfl ?_
  refine EW_iload_n (pc2 := 6) rfl dX12_atom_5 1 rfl ?_
  refine EW_iconst (pc2 := 7) (v := (-1)) rfl dX12_atom_6 (by decide) ?_
  refine EW_icmp_eq (tgt := 38) (pc2 := 10) rfl dX12_atom_7 (by decide) (fun q => ?_) (fun q => ?_)
  · replace h := h.1 q
    exact sX12_atom_38 RX12_atom RX12_sums RX12_term r1 x2 K d bc bs hdp dr hRX12_atom hRX12_sums hRX12_term hdr h
  · replace h := h.2 q
    refine EW_aload_n (pc2 := 11) rfl dX12_atom_10 0 rfl ?_
    refine AW_getr (r := x2.2.2.2.2.2) ⟨gfRX12_210, rfl⟩ (pc2 := 14) rfl dX12_atom_11 q246 rfl ?_
    refine EW_iload_n (pc2 := 15) rfl dX12_atom_14 1 rfl ?_
    obtain ⟨z3, h⟩ := h
    refine AW_invVS (M' := MJ0_indexOf_0f7a4) [.int r1] (rest := []) mlRX12_458 okJ0_indexOf_0f7a4 (pc2 := 18) rfl dX12_atom_15 rfl rfl (Nat.le_of_ble_eq_true rfl) (Nat.le_of_ble_eq_true rfl) (d' := 3) (by omega) z3 rfl (EW_mono (fun _ _ hr => ?_) (sJ0_indexOf_0f7a4 x2.2.2.2.2.2 r1 z3 x2 _ _ 0 0 (Nat.le_refl _) h))
    obtain ⟨r4, rfl, rfl, h⟩ := hr
    refine EW_if_lt (tgt := 38) (pc2 := 21) rfl dX12_atom_18 (by decide) (fun q => ?_) (fun q => ?_)
    · replace h := h.1 q
      exact sX12_atom_38 RX12_atom RX12_sums RX12_term r1 x2 K d bc bs hdp dr hRX12_atom hRX12_sums hRX12_term hdr h
    · replace h := h.2 q
      refine EW_aload_n (pc2 := 22) rfl dX12_atom_21 0 rfl ?_
      refine EW_dup (pc2 := 23) rfl dX12_atom_22 rfl ?_
      refine AW_geti ⟨gfRX12_423, rfl⟩ (pc2 := 26) rfl dX12_atom_23 q246 ?_
      refine EW_iconst (pc2 := 27) (v := 1) rfl dX12_atom_26 (by decide) ?_
      refine EW_iadd (pc2 := 28) rfl dX12_atom_27 ?_
      refine AW_puti ⟨gfRX12_423, rfl, rfl⟩ (pc2 := 31) rfl dX12_atom_28 q246 ?_
      refine EW_aload_n (pc2 := 32) rfl dX12_atom_31 0 rfl ?_
      refine AW_getr (r := 307) ⟨gfRX12_192, rfl⟩ (pc2 := 35) rfl dX12_atom_32 q246 rfl ?_
      refine EW_iload_n (pc2 := 36) rfl dX12_atom_35 1 rfl ?_
      obtain ⟨b5, h⟩ := h
      refine AW_iald (pc2 := 37) rfl dX12_atom_36 q307 b5 ?_
      exact AW_iret rfl dX12_atom_37 ⟨_, _, rfl, rfl, h⟩
set_option maxHeartbeats 4000000 in
set_option maxRecDepth 100000 in
theorem sX12_sums_77 (RX12_atom : ab_X → (Int32 → ab_X → Prop) → Prop) (RX12_sums : ab_X → (Int32 → ab_X → Prop) → Prop) (RX12_term : ab_X → (Int32 → ab_X → Prop) → Prop) (s0 : Int64)  (x : ab_X) (K : Int32 → ab_X → Prop) (L5 : Int32 → ab_X → Prop) (d bc bs : Nat) (hdp : 2 ≤ d) (dr : Nat) (hRX12_atom : ∀   (x : ab_X) (K : Int32 → ab_X → Prop), RX12_atom  x K → EW MX12_atom 0 [(0, .ref 246)] [] (aS x) dr 0 0 (liI K)) (hRX12_sums : ∀   (x : ab_X) (K : Int32 → ab_X → Prop), RX12_sums  x K → EW MX12_sums 0 [(0, .ref 246)] [] (aS x) dr 0 0 (liI K)) (hRX12_term : ∀   (x : ab_X) (K : Int32 → ab_X → Prop), RX12_term  x K → EW MX12_term 0 [(0, .ref 246)] [] (aS x) dr 0 0 (liI K)) (hdr : dr + 1 ≤ d) (hL5 : ∀ (v1 : Int32) (x : ab_X), L5 v1 x → EW MX12_sums 5 [(0, .ref 246), (1, .int v1)] [] (aS x) d bc bs (liI K)) (h : wX12_sums_77 RX12_atom RX12_sums RX12_term s0 x K L5) : EW MX12_sums 77 [(0, .ref 246)] [.long s0] (aS x) d bc bs (liI K) := by
  unfold wX12_sums_77 at h
  refine AW_invS (M' := MX12_bound) [.long s0] (rest := []) mlRX12_478 okX12_bound (pc2 := 80) rfl dX12_sums_77 rfl rfl (Nat.le_of_ble_eq_true rfl) (Nat.le_of_ble_eq_true rfl) (d' := 1) (by omega) (EW_mono (fun _ _ hr => ?_) (sX12_bound s0  x _ _ 0 0 (Nat.le_refl _) h))
  obtain ⟨r11, rfl, rfl, h⟩ := hr
  refine EW_istore_n (pc2 := 81) rfl dX12_sums_80 (by decide) [1, 0] [(0, .ref 246), (1, .int r11)] rfl ?_
  refine EW_goto (tgt := 5) dX12_sums_81 (by decide) ?_
  exact hL5 r11 x h
set_option maxHeartbeats 4000000 in
set_option maxRecDepth 100000 in
theorem sX12_sums_45 (RX12_atom : ab_X → (Int32 → ab_X → Prop) → Prop) (RX12_sums : ab_X → (Int32 → ab_X → Prop) → Prop) (RX12_term : ab_X → (Int32 → ab_X → Prop) → Prop) (v1 : Int32) (s0 : Int32)  (x : ab_X) (K : Int32 → ab_X → Prop) (L5 : Int32 → ab_X → Prop) (d bc bs : Nat) (hdp : 2 ≤ d) (dr : Nat) (hRX12_atom : ∀   (x : ab_X) (K : Int32 → ab_X → Prop), RX12_atom  x K → EW MX12_atom 0 [(0, .ref 246)] [] (aS x) dr 0 0 (liI K)) (hRX12_sums : ∀   (x : ab_X) (K : Int32 → ab_X → Prop), RX12_sums  x K → EW MX12_sums 0 [(0, .ref 246)] [] (aS x) dr 0 0 (liI K)) (hRX12_term : ∀   (x : ab_X) (K : Int32 → ab_X → Prop), RX12_term  x K → EW MX12_term 0 [(0, .ref 246)] [] (aS x) dr 0 0 (liI K)) (hdr : dr + 1 ≤ d) (hL5 : ∀ (v1 : Int32) (x : ab_X), L5 v1 x → EW MX12_sums 5 [(0, .ref 246), (1, .int v1)] [] (aS x) d bc bs (liI K)) (h : wX12_sums_45 RX12_atom RX12_sums RX12_term v1 s0 x K L5) : EW MX12_sums 45 [(0, .ref 246), (1, .int v1)] [.int s0] (aS x) d bc bs (liI K) := by
  unfold wX12_sums_45 at h
  refine EW_istore_n (pc2 := 46) rfl dX12_sums_45 (by decide) [1, 2, 0] [(0, .ref 246), (1, .int v1), (2, .int s0)] rfl ?_
  refine EW_aload_n (pc2 := 47) rfl dX12_sums_46 0 rfl ?_
  refine EW_dup (pc2 := 48) rfl dX12_sums_47 rfl ?_
  refine AW_geti ⟨gfRX12_423, rfl⟩ (pc2 := 51) rfl dX12_sums_48 q246 ?_
  refine EW_iconst (pc2 := 52) (v := 1) rfl dX12_sums_51 (by decide) ?_
  refine EW_iadd (pc2 := 53) rfl dX12_sums_52 ?_
  refine AW_puti ⟨gfRX12_423, rfl, rfl⟩ (pc2 := 56) rfl dX12_sums_53 q246 ?_
  refine EW_aload_n (pc2 := 57) rfl dX12_sums_56 0 rfl ?_
  refine AW_invV (M' := MX12_term) [] (rest := []) mlRX12_482 okX12_term (pc2 := 60) rfl dX12_sums_57 rfl rfl (Nat.le_of_ble_eq_true rfl) (Nat.le_of_ble_eq_true rfl) (d' := dr) (by omega) q246 ⟨by decide, rfl⟩ (EW_mono (fun _ _ hr => ?_) (hRX12_term   (wr x 246 80 ((x.1 246 80) + 1)) _  h))
  obtain ⟨r9, x10, rfl, rfl, h⟩ := hr
  refine EW_i2l (pc2 := 61) (v := (Int32.toInt64 r9)) rfl dX12_sums_60 rfl ?_
  refine EW_lstore_n (pc2 := 62) rfl dX12_sums_61 (by decide) [1, 2, 3, 0] [(0, .ref 246), (1, .int v1), (2, .int s0), (3, .long (Int32.toInt64 r9))] rfl ?_
  refine EW_iload_n (pc2 := 63) rfl dX12_sums_62 2 rfl ?_
  refine EW_if_eq (tgt := 73) (pc2 := 66) rfl dX12_sums_63 (by decide) (fun q => ?_) (fun q => ?_)
  · replace h := h.1 q
    refine EW_iload_n (pc2 := 74) rfl dX12_sums_73 1 rfl ?_
    refine EW_i2l (pc2 := 75) (v := (Int32.toInt64 v1)) rfl dX12_sums_74 rfl ?_
    refine EW_lload_n (pc2 := 76) rfl dX12_sums_75 3 rfl ?_
    refine EW_lsub (pc2 := 77) rfl dX12_sums_76 ?_
    refine EW_ls [0] rfl ?_
    exact sX12_sums_77 RX12_atom RX12_sums RX12_term ((Int32.toInt64 v1) - (Int32.toInt64 r9)) x10 K L5 d bc bs hdp dr hRX12_atom hRX12_sums hRX12_term hdr hL5 h
  · replace h := h.2 q
    refine EW_iload_n (pc2 := 67) rfl dX12_sums_66 1 rfl ?_
    refine EW_i2l (pc2 := 68) (v := (Int32.toInt64 v1)) rfl dX12_sums_67 rfl ?_
    refine EW_lload_n (pc2 := 69) rfl dX12_sums_68 3 rfl ?_
    refine EW_ladd (pc2 := 70) rfl dX12_sums_69 ?_
    refine EW_goto (tgt := 77) dX12_sums_70 (by decide) ?_
    refine EW_ls [0] rfl ?_
    exact sX12_sums_77 RX12_atom RX12_sums RX12_term ((Int32.toInt64 v1) + (Int32.toInt64 r9)) x10 K L5 d bc bs hdp dr hRX12_atom hRX12_sums hRX12_term hdr hL5 h
set_option maxHeartbeats 4000000 in
set_option maxRecDepth 100000 in
theorem sX12_sums_31 (RX12_atom : ab_X → (Int32 → ab_X → Prop) → Prop) (RX12_sums : ab_X → (Int32 → ab_X → Prop) → Prop) (RX12_term : ab_X → (Int32 → ab_X → Prop) → Prop) (v1 : Int32)  (x : ab_X) (K : Int32 → ab_X → Prop) (L5 : Int32 → ab_X → Prop) (d bc bs : Nat) (hdp : 2 ≤ d) (dr : Nat) (hRX12_atom : ∀   (x : ab_X) (K : Int32 → ab_X → Prop), RX12_atom  x K → EW MX12_atom 0 [(0, .ref 246)] [] (aS x) dr 0 0 (liI K)) (hRX12_sums : ∀   (x : ab_X) (K : Int32 → ab_X → Prop), RX12_sums  x K → EW MX12_sums 0 [(0, .ref 246)] [] (aS x) dr 0 0 (liI K)) (hRX12_term : ∀   (x : ab_X) (K : Int32 → ab_X → Prop), RX12_term  x K → EW MX12_term 0 [(0, .ref 246)] [] (aS x) dr 0 0 (liI K)) (hdr : dr + 1 ≤ d) (hL5 : ∀ (v1 : Int32) (x : ab_X), L5 v1 x → EW MX12_sums 5 [(0, .ref 246), (1, .int v1)] [] (aS x) d bc bs (liI K)) (h : wX12_sums_31 RX12_atom RX12_sums RX12_term v1 x K L5) : EW MX12_sums 31 [(0, .ref 246), (1, .int v1)] [] (aS x) d bc bs (liI K) := by
  unfold wX12_sums_31 at h
  refine EW_aload_n (pc2 := 32) rfl dX12_sums_31 0 rfl ?_
  refine AW_invV (M' := MX12_look) [] (rest := []) mlRX12_442 okX12_look (pc2 := 35) rfl dX12_sums_32 rfl rfl (Nat.le_of_ble_eq_true rfl) (Nat.le_of_ble_eq_true rfl) (d' := 0) (by omega) q246 ⟨by decide, rfl⟩ (EW_mono (fun _ _ hr => ?_) (sX12_look   x _ _ 0 0 (Nat.le_refl _) h))
  obtain ⟨r7, x8, rfl, rfl, h⟩ := hr
  refine EW_bipush (pc2 := 37) (v := 43) rfl dX12_sums_35 (by decide) ?_
  refine EW_icmp_ne (tgt := 44) (pc2 := 40) rfl dX12_sums_37 (by decide) (fun q => ?_) (fun q => ?_)
  · replace h := h.1 q
    refine EW_iconst (pc2 := 45) (v := 0) rfl dX12_sums_44 (by decide) ?_
    exact sX12_sums_45 RX12_atom RX12_sums RX12_term v1 0 x8 K L5 d bc bs hdp dr hRX12_atom hRX12_sums hRX12_term hdr hL5 h
  · replace h := h.2 q
    refine EW_iconst (pc2 := 41) (v := 1) rfl dX12_sums_40 (by decide) ?_
    refine EW_goto (tgt := 45) dX12_sums_41 (by decide) ?_
    exact sX12_sums_45 RX12_atom RX12_sums RX12_term v1 1 x8 K L5 d bc bs hdp dr hRX12_atom hRX12_sums hRX12_term hdr hL5 h
set_option maxHeartbeats 4000000 in
set_option maxRecDepth 100000 in
theorem sX12_sums_5 (RX12_atom : ab_X → (Int32 → ab_X → Prop) → Prop) (RX12_sums : ab_X → (Int32 → ab_X → Prop) → Prop) (RX12_term : ab_X → (Int32 → ab_X → Prop) → Prop) (v1 : Int32)  (x : ab_X) (K : Int32 → ab_X → Prop)  (d bc bs : Nat) (hdp : 2 ≤ d) (dr : Nat) (hRX12_atom : ∀   (x : ab_X) (K : Int32 → ab_X → Prop), RX12_atom  x K → EW MX12_atom 0 [(0, .ref 246)] [] (aS x) dr 0 0 (liI K)) (hRX12_sums : ∀   (x : ab_X) (K : Int32 → ab_X → Prop), RX12_sums  x K → EW MX12_sums 0 [(0, .ref 246)] [] (aS x) dr 0 0 (liI K)) (hRX12_term : ∀   (x : ab_X) (K : Int32 → ab_X → Prop), RX12_term  x K → EW MX12_term 0 [(0, .ref 246)] [] (aS x) dr 0 0 (liI K)) (hdr : dr + 1 ≤ d)  (h : Lp2 (lX12_sums_5 RX12_atom RX12_sums RX12_term  K ) v1 x) : EW MX12_sums 5 [(0, .ref 246), (1, .int v1)] [] (aS x) d bc bs (liI K) := by
  refine Lp2.use (P := fun v1 x => EW MX12_sums 5 [(0, .ref 246), (1, .int v1)] [] (aS x) d bc bs (liI K)) (fun L5 v1 x hL5 h => ?_) v1 x h
  unfold lX12_sums_5 at h
  refine EW_aload_n (pc2 := 6) rfl dX12_sums_5 0 rfl ?_
  refine AW_geti ⟨gfRX12_432, rfl⟩ (pc2 := 9) rfl dX12_sums_6 q246 ?_
  refine EW_iconst (pc2 := 10) (v := (-1)) rfl dX12_sums_9 (by decide) ?_
  refine EW_icmp_ne (tgt := 84) (pc2 := 13) rfl dX12_sums_10 (by decide) (fun q => ?_) (fun q => ?_)
  · replace h := h.1 q
    refine EW_iload_n (pc2 := 85) rfl dX12_sums_84 1 rfl ?_
    exact AW_iret rfl dX12_sums_85 ⟨_, _, rfl, rfl, h⟩
  · replace h := h.2 q
    refine EW_aload_n (pc2 := 14) rfl dX12_sums_13 0 rfl ?_
    refine AW_invV (M' := MX12_look) [] (rest := []) mlRX12_442 okX12_look (pc2 := 17) rfl dX12_sums_14 rfl rfl (Nat.le_of_ble_eq_true rfl) (Nat.le_of_ble_eq_true rfl) (d' := 0) (by omega) q246 ⟨by decide, rfl⟩ (EW_mono (fun _ _ hr => ?_) (sX12_look   x _ _ 0 0 (Nat.le_refl _) h))
    obtain ⟨r3, x4, rfl, rfl, h⟩ := hr
    refine EW_bipush (pc2 := 19) (v := 43) rfl dX12_sums_17 (by decide) ?_
    refine EW_icmp_eq (tgt := 31) (pc2 := 22) rfl dX12_sums_19 (by decide) (fun q => ?_) (fun q => ?_)
    · replace h := h.1 q
      exact sX12_sums_31 RX12_atom RX12_sums RX12_term v1 x4 K L5 d bc bs hdp dr hRX12_atom hRX12_sums hRX12_term hdr hL5 h
    · replace h := h.2 q
      refine EW_aload_n (pc2 := 23) rfl dX12_sums_22 0 rfl ?_
      refine AW_invV (M' := MX12_look) [] (rest := []) mlRX12_442 okX12_look (pc2 := 26) rfl dX12_sums_23 rfl rfl (Nat.le_of_ble_eq_true rfl) (Nat.le_of_ble_eq_true rfl) (d' := 0) (by omega) q246 ⟨by decide, rfl⟩ (EW_mono (fun _ _ hr => ?_) (sX12_look   x4 _ _ 0 0 (Nat.le_refl _) h))
      obtain ⟨r5, x6, rfl, rfl, h⟩ := hr
      refine EW_bipush (pc2 := 28) (v := 45) rfl dX12_sums_26 (by decide) ?_
      refine EW_icmp_ne (tgt := 84) (pc2 := 31) rfl dX12_sums_28 (by decide) (fun q => ?_) (fun q => ?_)
      · replace h := h.1 q
        refine EW_iload_n (pc2 := 85) rfl dX12_sums_84 1 rfl ?_
        exact AW_iret rfl dX12_sums_85 ⟨_, _, rfl, rfl, h⟩
      · replace h := h.2 q
        exact sX12_sums_31 RX12_atom RX12_sums RX12_term v1 x6 K L5 d bc bs hdp dr hRX12_atom hRX12_sums hRX12_term hdr hL5 h
set_option maxHeartbeats 4000000 in
set_option maxRecDepth 100000 in
theorem bsX12_sums (RX12_atom : ab_X → (Int32 → ab_X → Prop) → Prop) (RX12_sums : ab_X → (Int32 → ab_X → Prop) → Prop) (RX12_term : ab_X → (Int32 → ab_X → Prop) → Prop)   (x : ab_X) (K : Int32 → ab_X → Prop) (d bc bs : Nat) (hdp : 2 ≤ d) (dr : Nat) (hRX12_atom : ∀   (x : ab_X) (K : Int32 → ab_X → Prop), RX12_atom  x K → EW MX12_atom 0 [(0, .ref 246)] [] (aS x) dr 0 0 (liI K)) (hRX12_sums : ∀   (x : ab_X) (K : Int32 → ab_X → Prop), RX12_sums  x K → EW MX12_sums 0 [(0, .ref 246)] [] (aS x) dr 0 0 (liI K)) (hRX12_term : ∀   (x : ab_X) (K : Int32 → ab_X → Prop), RX12_term  x K → EW MX12_term 0 [(0, .ref 246)] [] (aS x) dr 0 0 (liI K)) (hdr : dr + 1 ≤ d) (h : bX12_sums RX12_atom RX12_sums RX12_term  x K) : EW MX12_sums 0 [(0, .ref 246)] [] (aS x) d bc bs (liI K) := by
  unfold bX12_sums at h
  refine EW_aload_n (pc2 := 1) rfl dX12_sums_0 0 rfl ?_
  refine AW_invV (M' := MX12_term) [] (rest := []) mlRX12_482 okX12_term (pc2 := 4) rfl dX12_sums_1 rfl rfl (Nat.le_of_ble_eq_true rfl) (Nat.le_of_ble_eq_true rfl) (d' := dr) (by omega) q246 ⟨by decide, rfl⟩ (EW_mono (fun _ _ hr => ?_) (hRX12_term   x _  h))
  obtain ⟨r1, x2, rfl, rfl, h⟩ := hr
  refine EW_istore_n (pc2 := 5) rfl dX12_sums_4 (by decide) [1, 0] [(0, .ref 246), (1, .int r1)] rfl ?_
  exact sX12_sums_5 RX12_atom RX12_sums RX12_term r1 x2 K d bc bs hdp dr hRX12_atom hRX12_sums hRX12_term hdr h
set_option maxHeartbeats 4000000 in
set_option maxRecDepth 100000 in
theorem sX12_term_5 (RX12_atom : ab_X → (Int32 → ab_X → Prop) → Prop) (RX12_sums : ab_X → (Int32 → ab_X → Prop) → Prop) (RX12_term : ab_X → (Int32 → ab_X → Prop) → Prop) (v1 : Int32)  (x : ab_X) (K : Int32 → ab_X → Prop)  (d bc bs : Nat) (hdp : 2 ≤ d) (dr : Nat) (hRX12_atom : ∀   (x : ab_X) (K : Int32 → ab_X → Prop), RX12_atom  x K → EW MX12_atom 0 [(0, .ref 246)] [] (aS x) dr 0 0 (liI K)) (hRX12_sums : ∀   (x : ab_X) (K : Int32 → ab_X → Prop), RX12_sums  x K → EW MX12_sums 0 [(0, .ref 246)] [] (aS x) dr 0 0 (liI K)) (hRX12_term : ∀   (x : ab_X) (K : Int32 → ab_X → Prop), RX12_term  x K → EW MX12_term 0 [(0, .ref 246)] [] (aS x) dr 0 0 (liI K)) (hdr : dr + 1 ≤ d)  (h : Lp2 (lX12_term_5 RX12_atom RX12_sums RX12_term  K ) v1 x) : EW MX12_term 5 [(0, .ref 246), (1, .int v1)] [] (aS x) d bc bs (liI K) := by
  refine Lp2.use (P := fun v1 x => EW MX12_term 5 [(0, .ref 246), (1, .int v1)] [] (aS x) d bc bs (liI K)) (fun L5 v1 x hL5 h => ?_) v1 x h
  unfold lX12_term_5 at h
  refine EW_aload_n (pc2 := 6) rfl dX12_term_5 0 rfl ?_
  refine AW_geti ⟨gfRX12_432, rfl⟩ (pc2 := 9) rfl dX12_term_6 q246 ?_
  refine EW_iconst (pc2 := 10) (v := (-1)) rfl dX12_term_9 (by decide) ?_
  refine EW_icmp_ne (tgt := 49) (pc2 := 13) rfl dX12_term_10 (by decide) (fun q => ?_) (fun q => ?_)
  · replace h := h.1 q
    refine EW_iload_n (pc2 := 50) rfl dX12_term_49 1 rfl ?_
    exact AW_iret rfl dX12_term_50 ⟨_, _, rfl, rfl, h⟩
  · replace h := h.2 q
    refine EW_aload_n (pc2 := 14) rfl dX12_term_13 0 rfl ?_
    refine AW_invV (M' := MX12_look) [] (rest := []) mlRX12_442 okX12_look (pc2 := 17) rfl dX12_term_14 rfl rfl (Nat.le_of_ble_eq_true rfl) (Nat.le_of_ble_eq_true rfl) (d' := 0) (by omega) q246 ⟨by decide, rfl⟩ (EW_mono (fun _ _ hr => ?_) (sX12_look   x _ _ 0 0 (Nat.le_refl _) h))
    obtain ⟨r3, x4, rfl, rfl, h⟩ := hr
    refine EW_bipush (pc2 := 19) (v := 42) rfl dX12_term_17 (by decide) ?_
    refine EW_icmp_ne (tgt := 49) (pc2 := 22) rfl dX12_term_19 (by decide) (fun q => ?_) (fun q => ?_)
    · replace h := h.1 q
      refine EW_iload_n (pc2 := 50) rfl dX12_term_49 1 rfl ?_
      exact AW_iret rfl dX12_term_50 ⟨_, _, rfl, rfl, h⟩
    · replace h := h.2 q
      refine EW_aload_n (pc2 := 23) rfl dX12_term_22 0 rfl ?_
      refine EW_dup (pc2 := 24) rfl dX12_term_23 rfl ?_
      refine AW_geti ⟨gfRX12_423, rfl⟩ (pc2 := 27) rfl dX12_term_24 q246 ?_
      refine EW_iconst (pc2 := 28) (v := 1) rfl dX12_term_27 (by decide) ?_
      refine EW_iadd (pc2 := 29) rfl dX12_term_28 ?_
      refine AW_puti ⟨gfRX12_423, rfl, rfl⟩ (pc2 := 32) rfl dX12_term_29 q246 ?_
      refine EW_aload_n (pc2 := 33) rfl dX12_term_32 0 rfl ?_
      refine AW_invV (M' := MX12_atom) [] (rest := []) mlRX12_475 okX12_atom (pc2 := 36) rfl dX12_term_33 rfl rfl (Nat.le_of_ble_eq_true rfl) (Nat.le_of_ble_eq_true rfl) (d' := dr) (by omega) q246 ⟨by decide, rfl⟩ (EW_mono (fun _ _ hr => ?_) (hRX12_atom   (wr x4 246 80 ((x4.1 246 80) + 1)) _  h))
      obtain ⟨r5, x6, rfl, rfl, h⟩ := hr
      refine EW_i2l (pc2 := 37) (v := (Int32.toInt64 r5)) rfl dX12_term_36 rfl ?_
      refine EW_lstore_n (pc2 := 38) rfl dX12_term_37 (by decide) [1, 2, 0] [(0, .ref 246), (1, .int v1), (2, .long (Int32.toInt64 r5))] rfl ?_
      refine EW_iload_n (pc2 := 39) rfl dX12_term_38 1 rfl ?_
      refine EW_i2l (pc2 := 40) (v := (Int32.toInt64 v1)) rfl dX12_term_39 rfl ?_
      refine EW_lload_n (pc2 := 41) rfl dX12_term_40 2 rfl ?_
      refine EW_lmul (pc2 := 42) rfl dX12_term_41 ?_
      refine AW_invS (M' := MX12_bound) [.long ((Int32.toInt64 v1) * (Int32.toInt64 r5))] (rest := []) mlRX12_478 okX12_bound (pc2 := 45) rfl dX12_term_42 rfl rfl (Nat.le_of_ble_eq_true rfl) (Nat.le_of_ble_eq_true rfl) (d' := 1) (by omega) (EW_mono (fun _ _ hr => ?_) (sX12_bound ((Int32.toInt64 v1) * (Int32.toInt64 r5))  x6 _ _ 0 0 (Nat.le_refl _) h))
      obtain ⟨r7, rfl, rfl, h⟩ := hr
      refine EW_istore_n (pc2 := 46) rfl dX12_term_45 (by decide) [1, 0, 2] [(0, .ref 246), (1, .int r7), (2, .long (Int32.toInt64 r5))] rfl ?_
      refine EW_goto (tgt := 5) dX12_term_46 (by decide) ?_
      refine EW_ls [0, 1] rfl ?_
      exact hL5 r7 x6 h
set_option maxHeartbeats 4000000 in
set_option maxRecDepth 100000 in
theorem bsX12_term (RX12_atom : ab_X → (Int32 → ab_X → Prop) → Prop) (RX12_sums : ab_X → (Int32 → ab_X → Prop) → Prop) (RX12_term : ab_X → (Int32 → ab_X → Prop) → Prop)   (x : ab_X) (K : Int32 → ab_X → Prop) (d bc bs : Nat) (hdp : 2 ≤ d) (dr : Nat) (hRX12_atom : ∀   (x : ab_X) (K : Int32 → ab_X → Prop), RX12_atom  x K → EW MX12_atom 0 [(0, .ref 246)] [] (aS x) dr 0 0 (liI K)) (hRX12_sums : ∀   (x : ab_X) (K : Int32 → ab_X → Prop), RX12_sums  x K → EW MX12_sums 0 [(0, .ref 246)] [] (aS x) dr 0 0 (liI K)) (hRX12_term : ∀   (x : ab_X) (K : Int32 → ab_X → Prop), RX12_term  x K → EW MX12_term 0 [(0, .ref 246)] [] (aS x) dr 0 0 (liI K)) (hdr : dr + 1 ≤ d) (h : bX12_term RX12_atom RX12_sums RX12_term  x K) : EW MX12_term 0 [(0, .ref 246)] [] (aS x) d bc bs (liI K) := by
  unfold bX12_term at h
  refine EW_aload_n (pc2 := 1) rfl dX12_term_0 0 rfl ?_
  refine AW_invV (M' := MX12_atom) [] (rest := []) mlRX12_475 okX12_atom (pc2 := 4) rfl dX12_term_1 rfl rfl (Nat.le_of_ble_eq_true rfl) (Nat.le_of_ble_eq_true rfl) (d' := dr) (by omega) q246 ⟨by decide, rfl⟩ (EW_mono (fun _ _ hr => ?_) (hRX12_atom   x _  h))
  obtain ⟨r1, x2, rfl, rfl, h⟩ := hr
  refine EW_istore_n (pc2 := 5) rfl dX12_term_4 (by decide) [1, 0] [(0, .ref 246), (1, .int r1)] rfl ?_
  exact sX12_term_5 RX12_atom RX12_sums RX12_term r1 x2 K d bc bs hdp dr hRX12_atom hRX12_sums hRX12_term hdr h
set_option maxHeartbeats 4000000 in
theorem famX12_atomS : ∀ n, (∀   (x : ab_X) (K : Int32 → ab_X → Prop), (famX12_atom n).1  x K → EW MX12_atom 0 [(0, .ref 246)] [] (aS x) (4 + n) 0 0 (liI K)) ∧ (∀   (x : ab_X) (K : Int32 → ab_X → Prop), (famX12_atom n).2.1  x K → EW MX12_sums 0 [(0, .ref 246)] [] (aS x) (4 + n) 0 0 (liI K)) ∧ (∀   (x : ab_X) (K : Int32 → ab_X → Prop), (famX12_atom n).2.2  x K → EW MX12_term 0 [(0, .ref 246)] [] (aS x) (4 + n) 0 0 (liI K)) := by
  intro n
  induction n with
  | zero => exact ⟨fun   x K h => False.elim h, fun   x K h => False.elim h, fun   x K h => False.elim h⟩
  | succ n ih =>
    obtain ⟨i0, i1, i2⟩ := ih
    exact ⟨fun   x K h => bsX12_atom _ _ _   x K (4 + (n + 1)) 0 0 (by omega) (4 + n) i0 i1 i2 (by omega) h, fun   x K h => bsX12_sums _ _ _   x K (4 + (n + 1)) 0 0 (by omega) (4 + n) i0 i1 i2 (by omega) h, fun   x K h => bsX12_term _ _ _   x K (4 + (n + 1)) 0 0 (by omega) (4 + n) i0 i1 i2 (by omega) h⟩
theorem sX12_atom   (x : ab_X) (K : Int32 → ab_X → Prop) (d bc bs : Nat) (hdp : 105 ≤ d) (h : wX12_atom  x K) : EW MX12_atom 0 [(0, .ref 246)] [] (aS x) d bc bs (liI K) := by
  obtain ⟨n, hn, h⟩ := h
  cases n with
  | zero => exact False.elim h
  | succ n =>
    obtain ⟨i0, i1, i2⟩ := famX12_atomS n
    exact bsX12_atom _ _ _   x K d bc bs (by omega) (4 + n) i0 i1 i2 (by omega) h
theorem sX12_sums   (x : ab_X) (K : Int32 → ab_X → Prop) (d bc bs : Nat) (hdp : 105 ≤ d) (h : wX12_sums  x K) : EW MX12_sums 0 [(0, .ref 246)] [] (aS x) d bc bs (liI K) := by
  obtain ⟨n, hn, h⟩ := h
  cases n with
  | zero => exact False.elim h
  | succ n =>
    obtain ⟨i0, i1, i2⟩ := famX12_atomS n
    exact bsX12_sums _ _ _   x K d bc bs (by omega) (4 + n) i0 i1 i2 (by omega) h
theorem sX12_term   (x : ab_X) (K : Int32 → ab_X → Prop) (d bc bs : Nat) (hdp : 105 ≤ d) (h : wX12_term  x K) : EW MX12_term 0 [(0, .ref 246)] [] (aS x) d bc bs (liI K) := by
  obtain ⟨n, hn, h⟩ := h
  cases n with
  | zero => exact False.elim h
  | succ n =>
    obtain ⟨i0, i1, i2⟩ := famX12_atomS n
    exact bsX12_term _ _ _   x K d bc bs (by omega) (4 + n) i0 i1 i2 (by omega) h
theorem mlRX12_491 : Cond.methodLink RX12 491 yX12_part ∈ ab_G ∧ Cond.instanceMethod yX12_part ∈ ab_G ∧ Cond.selects RX12 yX12_part yX12_part ∈ ab_G := ⟨ab_in 2419 (by decide +kernel) (by decide +kernel), ab_in 2421 (by decide +kernel) (by decide +kernel), ab_in 37 (by decide +kernel) (by decide +kernel)⟩
theorem mlRX12_485 : Cond.methodLink RX12 485 yX12_unit ∈ ab_G ∧ Cond.instanceMethod yX12_unit ∈ ab_G ∧ Cond.selects RX12 yX12_unit yX12_unit ∈ ab_G := ⟨ab_in 2423 (by decide +kernel) (by decide +kernel), ab_in 2425 (by decide +kernel) (by decide +kernel), ab_in 38 (by decide +kernel) (by decide +kernel)⟩
theorem mlRX12_488 : Cond.methodLink RX12 488 yX12_condition ∈ ab_G ∧ Cond.instanceMethod yX12_condition ∈ ab_G ∧ Cond.selects RX12 yX12_condition yX12_condition ∈ ab_G := ⟨ab_in 2415 (by decide +kernel) (by decide +kernel), ab_in 2417 (by decide +kernel) (by decide +kernel), ab_in 36 (by decide +kernel) (by decide +kernel)⟩
abbrev MX12_condition : ab_M := (yX12_condition, cX12_condition, 3, (some .boolean))
theorem dX12_condition_0 : decode cX12_condition 0 = .ok (.aload_n 0, 1) := by decide +kernel
theorem dX12_condition_1 : decode cX12_condition 1 = .ok (.invokevirtual 491, 3) := by decide +kernel
theorem dX12_condition_4 : decode cX12_condition 4 = .ok (.istore_n 1, 1) := by decide +kernel
theorem dX12_condition_5 : decode cX12_condition 5 = .ok (.aload_n 0, 1) := by decide +kernel
theorem dX12_condition_6 : decode cX12_condition 6 = .ok (.getfield 432, 3) := by decide +kernel
theorem dX12_condition_9 : decode cX12_condition 9 = .ok (.iconst (-1), 1) := by decide +kernel
theorem dX12_condition_10 : decode cX12_condition 10 = .ok (.if_icmp .ne 44, 3) := by decide +kernel
theorem dX12_condition_13 : decode cX12_condition 13 = .ok (.aload_n 0, 1) := by decide +kernel
theorem dX12_condition_14 : decode cX12_condition 14 = .ok (.invokevirtual 442, 3) := by decide +kernel
theorem dX12_condition_17 : decode cX12_condition 17 = .ok (.bipush 124, 2) := by decide +kernel
theorem dX12_condition_19 : decode cX12_condition 19 = .ok (.if_icmp .ne 35, 3) := by decide +kernel
theorem dX12_condition_22 : decode cX12_condition 22 = .ok (.aload_n 0, 1) := by decide +kernel
theorem dX12_condition_23 : decode cX12_condition 23 = .ok (.dup, 1) := by decide +kernel
theorem dX12_condition_24 : decode cX12_condition 24 = .ok (.getfield 423, 3) := by decide +kernel
theorem dX12_condition_27 : decode cX12_condition 27 = .ok (.iconst 1, 1) := by decide +kernel
theorem dX12_condition_28 : decode cX12_condition 28 = .ok (.iadd, 1) := by decide +kernel
theorem dX12_condition_29 : decode cX12_condition 29 = .ok (.putfield 423, 3) := by decide +kernel
theorem dX12_condition_32 : decode cX12_condition 32 = .ok (.aload_n 0, 1) := by decide +kernel
theorem dX12_condition_33 : decode cX12_condition 33 = .ok (.invokevirtual 491, 3) := by decide +kernel
theorem dX12_condition_36 : decode cX12_condition 36 = .ok (.istore_n 2, 1) := by decide +kernel
theorem dX12_condition_37 : decode cX12_condition 37 = .ok (.iload_n 1, 1) := by decide +kernel
theorem dX12_condition_38 : decode cX12_condition 38 = .ok (.ifCond .ne 7, 3) := by decide +kernel
theorem dX12_condition_41 : decode cX12_condition 41 = .ok (.iload_n 2, 1) := by decide +kernel
theorem dX12_condition_42 : decode cX12_condition 42 = .ok (.ifCond .eq 7, 3) := by decide +kernel
theorem dX12_condition_45 : decode cX12_condition 45 = .ok (.iconst 1, 1) := by decide +kernel
theorem dX12_condition_46 : decode cX12_condition 46 = .ok (.goto 4, 3) := by decide +kernel
theorem dX12_condition_49 : decode cX12_condition 49 = .ok (.iconst 0, 1) := by decide +kernel
theorem dX12_condition_50 : decode cX12_condition 50 = .ok (.istore_n 1, 1) := by decide +kernel
theorem dX12_condition_51 : decode cX12_condition 51 = .ok (.goto (-46), 3) := by decide +kernel
theorem dX12_condition_54 : decode cX12_condition 54 = .ok (.iload_n 1, 1) := by decide +kernel
theorem dX12_condition_55 : decode cX12_condition 55 = .ok (.ireturn, 1) := by decide +kernel
theorem okX12_condition : ab_okM MX12_condition 0 := ⟨by decide, ⟨by decide, by decide⟩, ab_in 2418 (by decide +kernel) (by decide +kernel), ab_in 99 (by decide +kernel) (by decide +kernel), by decide +kernel, by decide⟩
abbrev MX12_part : ab_M := (yX12_part, cX12_part, 3, (some .boolean))
theorem dX12_part_0 : decode cX12_part 0 = .ok (.aload_n 0, 1) := by decide +kernel
theorem dX12_part_1 : decode cX12_part 1 = .ok (.invokevirtual 485, 3) := by decide +kernel
theorem dX12_part_4 : decode cX12_part 4 = .ok (.istore_n 1, 1) := by decide +kernel
theorem dX12_part_5 : decode cX12_part 5 = .ok (.aload_n 0, 1) := by decide +kernel
theorem dX12_part_6 : decode cX12_part 6 = .ok (.getfield 432, 3) := by decide +kernel
theorem dX12_part_9 : decode cX12_part 9 = .ok (.iconst (-1), 1) := by decide +kernel
theorem dX12_part_10 : decode cX12_part 10 = .ok (.if_icmp .ne 44, 3) := by decide +kernel
theorem dX12_part_13 : decode cX12_part 13 = .ok (.aload_n 0, 1) := by decide +kernel
theorem dX12_part_14 : decode cX12_part 14 = .ok (.invokevirtual 442, 3) := by decide +kernel
theorem dX12_part_17 : decode cX12_part 17 = .ok (.bipush 38, 2) := by decide +kernel
theorem dX12_part_19 : decode cX12_part 19 = .ok (.if_icmp .ne 35, 3) := by decide +kernel
theorem dX12_part_22 : decode cX12_part 22 = .ok (.aload_n 0, 1) := by decide +kernel
theorem dX12_part_23 : decode cX12_part 23 = .ok (.dup, 1) := by decide +kernel
theorem dX12_part_24 : decode cX12_part 24 = .ok (.getfield 423, 3) := by decide +kernel
theorem dX12_part_27 : decode cX12_part 27 = .ok (.iconst 1, 1) := by decide +kernel
theorem dX12_part_28 : decode cX12_part 28 = .ok (.iadd, 1) := by decide +kernel
theorem dX12_part_29 : decode cX12_part 29 = .ok (.putfield 423, 3) := by decide +kernel
theorem dX12_part_32 : decode cX12_part 32 = .ok (.aload_n 0, 1) := by decide +kernel
theorem dX12_part_33 : decode cX12_part 33 = .ok (.invokevirtual 485, 3) := by decide +kernel
theorem dX12_part_36 : decode cX12_part 36 = .ok (.istore_n 2, 1) := by decide +kernel
theorem dX12_part_37 : decode cX12_part 37 = .ok (.iload_n 1, 1) := by decide +kernel
theorem dX12_part_38 : decode cX12_part 38 = .ok (.ifCond .eq 11, 3) := by decide +kernel
theorem dX12_part_41 : decode cX12_part 41 = .ok (.iload_n 2, 1) := by decide +kernel
theorem dX12_part_42 : decode cX12_part 42 = .ok (.ifCond .eq 7, 3) := by decide +kernel
theorem dX12_part_45 : decode cX12_part 45 = .ok (.iconst 1, 1) := by decide +kernel
theorem dX12_part_46 : decode cX12_part 46 = .ok (.goto 4, 3) := by decide +kernel
theorem dX12_part_49 : decode cX12_part 49 = .ok (.iconst 0, 1) := by decide +kernel
theorem dX12_part_50 : decode cX12_part 50 = .ok (.istore_n 1, 1) := by decide +kernel
theorem dX12_part_51 : decode cX12_part 51 = .ok (.goto (-46), 3) := by decide +kernel
theorem dX12_part_54 : decode cX12_part 54 = .ok (.iload_n 1, 1) := by decide +kernel
theorem dX12_part_55 : decode cX12_part 55 = .ok (.ireturn, 1) := by decide +kernel
theorem okX12_part : ab_okM MX12_part 0 := ⟨by decide, ⟨by decide, by decide⟩, ab_in 2422 (by decide +kernel) (by decide +kernel), ab_in 99 (by decide +kernel) (by decide +kernel), by decide +kernel, by decide⟩
abbrev MX12_unit : ab_M := (yX12_unit, cX12_unit, 5, (some .boolean))
theorem dX12_unit_0 : decode cX12_unit 0 = .ok (.aload_n 0, 1) := by decide +kernel
theorem dX12_unit_1 : decode cX12_unit 1 = .ok (.invokevirtual 442, 3) := by decide +kernel
theorem dX12_unit_4 : decode cX12_unit 4 = .ok (.istore_n 1, 1) := by decide +kernel
theorem dX12_unit_5 : decode cX12_unit 5 = .ok (.iload_n 1, 1) := by decide +kernel
theorem dX12_unit_6 : decode cX12_unit 6 = .ok (.bipush 33, 2) := by decide +kernel
theorem dX12_unit_8 : decode cX12_unit 8 = .ok (.if_icmp .ne 37, 3) := by decide +kernel
theorem dX12_unit_11 : decode cX12_unit 11 = .ok (.aload_n 0, 1) := by decide +kernel
theorem dX12_unit_12 : decode cX12_unit 12 = .ok (.invokevirtual 466, 3) := by decide +kernel
theorem dX12_unit_15 : decode cX12_unit 15 = .ok (.ifCond .ne 5, 3) := by decide +kernel
theorem dX12_unit_18 : decode cX12_unit 18 = .ok (.iconst 0, 1) := by decide +kernel
theorem dX12_unit_19 : decode cX12_unit 19 = .ok (.ireturn, 1) := by decide +kernel
theorem dX12_unit_20 : decode cX12_unit 20 = .ok (.aload_n 0, 1) := by decide +kernel
theorem dX12_unit_21 : decode cX12_unit 21 = .ok (.invokevirtual 485, 3) := by decide +kernel
theorem dX12_unit_24 : decode cX12_unit 24 = .ok (.istore_n 2, 1) := by decide +kernel
theorem dX12_unit_25 : decode cX12_unit 25 = .ok (.aload_n 0, 1) := by decide +kernel
theorem dX12_unit_26 : decode cX12_unit 26 = .ok (.dup, 1) := by decide +kernel
theorem dX12_unit_27 : decode cX12_unit 27 = .ok (.getfield 435, 3) := by decide +kernel
theorem dX12_unit_30 : decode cX12_unit 30 = .ok (.iconst 1, 1) := by decide +kernel
theorem dX12_unit_31 : decode cX12_unit 31 = .ok (.isub, 1) := by decide +kernel
theorem dX12_unit_32 : decode cX12_unit 32 = .ok (.putfield 435, 3) := by decide +kernel
theorem dX12_unit_35 : decode cX12_unit 35 = .ok (.iload_n 2, 1) := by decide +kernel
theorem dX12_unit_36 : decode cX12_unit 36 = .ok (.ifCond .ne 7, 3) := by decide +kernel
theorem dX12_unit_39 : decode cX12_unit 39 = .ok (.iconst 1, 1) := by decide +kernel
theorem dX12_unit_40 : decode cX12_unit 40 = .ok (.goto 4, 3) := by decide +kernel
theorem dX12_unit_43 : decode cX12_unit 43 = .ok (.iconst 0, 1) := by decide +kernel
theorem dX12_unit_44 : decode cX12_unit 44 = .ok (.ireturn, 1) := by decide +kernel
theorem dX12_unit_45 : decode cX12_unit 45 = .ok (.iload_n 1, 1) := by decide +kernel
theorem dX12_unit_46 : decode cX12_unit 46 = .ok (.bipush 40, 2) := by decide +kernel
theorem dX12_unit_48 : decode cX12_unit 48 = .ok (.if_icmp .ne 40, 3) := by decide +kernel
theorem dX12_unit_51 : decode cX12_unit 51 = .ok (.aload_n 0, 1) := by decide +kernel
theorem dX12_unit_52 : decode cX12_unit 52 = .ok (.invokevirtual 466, 3) := by decide +kernel
theorem dX12_unit_55 : decode cX12_unit 55 = .ok (.ifCond .ne 5, 3) := by decide +kernel
theorem dX12_unit_58 : decode cX12_unit 58 = .ok (.iconst 0, 1) := by decide +kernel
theorem dX12_unit_59 : decode cX12_unit 59 = .ok (.ireturn, 1) := by decide +kernel
theorem dX12_unit_60 : decode cX12_unit 60 = .ok (.aload_n 0, 1) := by decide +kernel
theorem dX12_unit_61 : decode cX12_unit 61 = .ok (.invokevirtual 488, 3) := by decide +kernel
theorem dX12_unit_64 : decode cX12_unit 64 = .ok (.istore_n 2, 1) := by decide +kernel
theorem dX12_unit_65 : decode cX12_unit 65 = .ok (.aload_n 0, 1) := by decide +kernel
theorem dX12_unit_66 : decode cX12_unit 66 = .ok (.bipush 41, 2) := by decide +kernel
theorem dX12_unit_68 : decode cX12_unit 68 = .ok (.invokevirtual 472, 3) := by decide +kernel
theorem dX12_unit_71 : decode cX12_unit 71 = .ok (.ifCond .ne 5, 3) := by decide +kernel
theorem dX12_unit_74 : decode cX12_unit 74 = .ok (.iconst 0, 1) := by decide +kernel
theorem dX12_unit_75 : decode cX12_unit 75 = .ok (.ireturn, 1) := by decide +kernel
theorem dX12_unit_76 : decode cX12_unit 76 = .ok (.aload_n 0, 1) := by decide +kernel
theorem dX12_unit_77 : decode cX12_unit 77 = .ok (.dup, 1) := by decide +kernel
theorem dX12_unit_78 : decode cX12_unit 78 = .ok (.getfield 435, 3) := by decide +kernel
theorem dX12_unit_81 : decode cX12_unit 81 = .ok (.iconst 1, 1) := by decide +kernel
theorem dX12_unit_82 : decode cX12_unit 82 = .ok (.isub, 1) := by decide +kernel
theorem dX12_unit_83 : decode cX12_unit 83 = .ok (.putfield 435, 3) := by decide +kernel
theorem dX12_unit_86 : decode cX12_unit 86 = .ok (.iload_n 2, 1) := by decide +kernel
theorem dX12_unit_87 : decode cX12_unit 87 = .ok (.ireturn, 1) := by decide +kernel
theorem dX12_unit_88 : decode cX12_unit 88 = .ok (.aload_n 0, 1) := by decide +kernel
theorem dX12_unit_89 : decode cX12_unit 89 = .ok (.invokevirtual 469, 3) := by decide +kernel
theorem dX12_unit_92 : decode cX12_unit 92 = .ok (.istore_n 2, 1) := by decide +kernel
theorem dX12_unit_93 : decode cX12_unit 93 = .ok (.aload_n 0, 1) := by decide +kernel
theorem dX12_unit_94 : decode cX12_unit 94 = .ok (.getfield 432, 3) := by decide +kernel
theorem dX12_unit_97 : decode cX12_unit 97 = .ok (.iconst (-1), 1) := by decide +kernel
theorem dX12_unit_98 : decode cX12_unit 98 = .ok (.if_icmp .eq 5, 3) := by decide +kernel
theorem dX12_unit_101 : decode cX12_unit 101 = .ok (.iconst 0, 1) := by decide +kernel
theorem dX12_unit_102 : decode cX12_unit 102 = .ok (.ireturn, 1) := by decide +kernel
theorem dX12_unit_103 : decode cX12_unit 103 = .ok (.aload_n 0, 1) := by decide +kernel
theorem dX12_unit_104 : decode cX12_unit 104 = .ok (.invokevirtual 442, 3) := by decide +kernel
theorem dX12_unit_107 : decode cX12_unit 107 = .ok (.istore_n 3, 1) := by decide +kernel
theorem dX12_unit_108 : decode cX12_unit 108 = .ok (.iload_n 3, 1) := by decide +kernel
theorem dX12_unit_109 : decode cX12_unit 109 = .ok (.bipush 61, 2) := by decide +kernel
theorem dX12_unit_111 : decode cX12_unit 111 = .ok (.if_icmp .eq 20, 3) := by decide +kernel
theorem dX12_unit_114 : decode cX12_unit 114 = .ok (.iload_n 3, 1) := by decide +kernel
theorem dX12_unit_115 : decode cX12_unit 115 = .ok (.bipush 60, 2) := by decide +kernel
theorem dX12_unit_117 : decode cX12_unit 117 = .ok (.if_icmp .eq 14, 3) := by decide +kernel
theorem dX12_unit_120 : decode cX12_unit 120 = .ok (.iload_n 3, 1) := by decide +kernel
theorem dX12_unit_121 : decode cX12_unit 121 = .ok (.bipush 62, 2) := by decide +kernel
theorem dX12_unit_123 : decode cX12_unit 123 = .ok (.if_icmp .eq 8, 3) := by decide +kernel
theorem dX12_unit_126 : decode cX12_unit 126 = .ok (.aload_n 0, 1) := by decide +kernel
theorem dX12_unit_127 : decode cX12_unit 127 = .ok (.invokevirtual 438, 3) := by decide +kernel
theorem dX12_unit_130 : decode cX12_unit 130 = .ok (.ireturn, 1) := by decide +kernel
theorem dX12_unit_131 : decode cX12_unit 131 = .ok (.aload_n 0, 1) := by decide +kernel
theorem dX12_unit_132 : decode cX12_unit 132 = .ok (.dup, 1) := by decide +kernel
theorem dX12_unit_133 : decode cX12_unit 133 = .ok (.getfield 423, 3) := by decide +kernel
theorem dX12_unit_136 : decode cX12_unit 136 = .ok (.iconst 1, 1) := by decide +kernel
theorem dX12_unit_137 : decode cX12_unit 137 = .ok (.iadd, 1) := by decide +kernel
theorem dX12_unit_138 : decode cX12_unit 138 = .ok (.putfield 423, 3) := by decide +kernel
theorem dX12_unit_141 : decode cX12_unit 141 = .ok (.aload_n 0, 1) := by decide +kernel
theorem dX12_unit_142 : decode cX12_unit 142 = .ok (.invokevirtual 469, 3) := by decide +kernel
theorem dX12_unit_145 : decode cX12_unit 145 = .ok (.istore 4, 2) := by decide +kernel
theorem dX12_unit_147 : decode cX12_unit 147 = .ok (.iload_n 3, 1) := by decide +kernel
theorem dX12_unit_148 : decode cX12_unit 148 = .ok (.bipush 61, 2) := by decide +kernel
theorem dX12_unit_150 : decode cX12_unit 150 = .ok (.if_icmp .ne 17, 3) := by decide +kernel
theorem dX12_unit_153 : decode cX12_unit 153 = .ok (.iload_n 2, 1) := by decide +kernel
theorem dX12_unit_154 : decode cX12_unit 154 = .ok (.iload 4, 2) := by decide +kernel
theorem dX12_unit_156 : decode cX12_unit 156 = .ok (.if_icmp .ne 7, 3) := by decide +kernel
theorem dX12_unit_159 : decode cX12_unit 159 = .ok (.iconst 1, 1) := by decide +kernel
theorem dX12_unit_160 : decode cX12_unit 160 = .ok (.goto 38, 3) := by decide +kernel
theorem dX12_unit_163 : decode cX12_unit 163 = .ok (.iconst 0, 1) := by decide +kernel
theorem dX12_unit_164 : decode cX12_unit 164 = .ok (.goto 34, 3) := by decide +kernel
theorem dX12_unit_167 : decode cX12_unit 167 = .ok (.iload_n 3, 1) := by decide +kernel
theorem dX12_unit_168 : decode cX12_unit 168 = .ok (.bipush 60, 2) := by decide +kernel
theorem dX12_unit_170 : decode cX12_unit 170 = .ok (.if_icmp .ne 17, 3) := by decide +kernel
theorem dX12_unit_173 : decode cX12_unit 173 = .ok (.iload_n 2, 1) := by decide +kernel
theorem dX12_unit_174 : decode cX12_unit 174 = .ok (.iload 4, 2) := by decide +kernel
theorem dX12_unit_176 : decode cX12_unit 176 = .ok (.if_icmp .ge 7, 3) := by decide +kernel
theorem dX12_unit_179 : decode cX12_unit 179 = .ok (.iconst 1, 1) := by decide +kernel
theorem dX12_unit_180 : decode cX12_unit 180 = .ok (.goto 18, 3) := by decide +kernel
theorem dX12_unit_183 : decode cX12_unit 183 = .ok (.iconst 0, 1) := by decide +kernel
theorem dX12_unit_184 : decode cX12_unit 184 = .ok (.goto 14, 3) := by decide +kernel
theorem dX12_unit_187 : decode cX12_unit 187 = .ok (.iload_n 2, 1) := by decide +kernel
theorem dX12_unit_188 : decode cX12_unit 188 = .ok (.iload 4, 2) := by decide +kernel
theorem dX12_unit_190 : decode cX12_unit 190 = .ok (.if_icmp .le 7, 3) := by decide +kernel
theorem dX12_unit_193 : decode cX12_unit 193 = .ok (.iconst 1, 1) := by decide +kernel
theorem dX12_unit_194 : decode cX12_unit 194 = .ok (.goto 4, 3) := by decide +kernel
theorem dX12_unit_197 : decode cX12_unit 197 = .ok (.iconst 0, 1) := by decide +kernel
theorem dX12_unit_198 : decode cX12_unit 198 = .ok (.ireturn, 1) := by decide +kernel
theorem okX12_unit : ab_okM MX12_unit 0 := ⟨by decide, ⟨by decide, by decide⟩, ab_in 2426 (by decide +kernel) (by decide +kernel), ab_in 99 (by decide +kernel) (by decide +kernel), by decide +kernel, by decide⟩
set_option maxHeartbeats 4000000 in
set_option maxRecDepth 100000 in
theorem sX12_condition_45 (RX12_condition : ab_X → (Int32 → ab_X → Prop) → Prop) (RX12_part : ab_X → (Int32 → ab_X → Prop) → Prop) (RX12_unit : ab_X → (Int32 → ab_X → Prop) → Prop)   (x : ab_X) (K : Int32 → ab_X → Prop) (L5 : Int32 → ab_X → Prop) (d bc bs : Nat) (hdp : 1 ≤ d) (dr : Nat) (hRX12_condition : ∀   (x : ab_X) (K : Int32 → ab_X → Prop), RX12_condition  x K → EW MX12_condition 0 [(0, .ref 246)] [] (aS x) dr 0 0 (liI K)) (hRX12_part : ∀   (x : ab_X) (K : Int32 → ab_X → Prop), RX12_part  x K → EW MX12_part 0 [(0, .ref 246)] [] (aS x) dr 0 0 (liI K)) (hRX12_unit : ∀   (x : ab_X) (K : Int32 → ab_X → Prop), RX12_unit  x K → EW MX12_unit 0 [(0, .ref 246)] [] (aS x) dr 0 0 (liI K)) (hdr : dr + 1 ≤ d) (hL5 : ∀ (v1 : Int32) (x : ab_X), L5 v1 x → EW MX12_condition 5 [(0, .ref 246), (1, .int v1)] [] (aS x) d bc bs (liI K)) (h : wX12_condition_45 RX12_condition RX12_part RX12_unit  x K L5) : EW MX12_condition 45 [(0, .ref 246)] [] (aS x) d bc bs (liI K) := by
  unfold wX12_condition_45 at h
  refine EW_iconst (pc2 := 46) (v := 1) rfl dX12_condition_45 (by decide) ?_
  refine EW_goto (tgt := 50) dX12_condition_46 (by decide) ?_
  refine EW_istore_n (pc2 := 51) rfl dX12_condition_50 (by decide) [1, 0] [(0, .ref 246), (1, .int 1)] rfl ?_
  refine EW_goto (tgt := 5) dX12_condition_51 (by decide) ?_
  exact hL5 1 x h
set_option maxHeartbeats 4000000 in
set_option maxRecDepth 100000 in
theorem sX12_condition_5 (RX12_condition : ab_X → (Int32 → ab_X → Prop) → Prop) (RX12_part : ab_X → (Int32 → ab_X → Prop) → Prop) (RX12_unit : ab_X → (Int32 → ab_X → Prop) → Prop) (v1 : Int32)  (x : ab_X) (K : Int32 → ab_X → Prop)  (d bc bs : Nat) (hdp : 1 ≤ d) (dr : Nat) (hRX12_condition : ∀   (x : ab_X) (K : Int32 → ab_X → Prop), RX12_condition  x K → EW MX12_condition 0 [(0, .ref 246)] [] (aS x) dr 0 0 (liI K)) (hRX12_part : ∀   (x : ab_X) (K : Int32 → ab_X → Prop), RX12_part  x K → EW MX12_part 0 [(0, .ref 246)] [] (aS x) dr 0 0 (liI K)) (hRX12_unit : ∀   (x : ab_X) (K : Int32 → ab_X → Prop), RX12_unit  x K → EW MX12_unit 0 [(0, .ref 246)] [] (aS x) dr 0 0 (liI K)) (hdr : dr + 1 ≤ d)  (h : Lp2 (lX12_condition_5 RX12_condition RX12_part RX12_unit  K ) v1 x) : EW MX12_condition 5 [(0, .ref 246), (1, .int v1)] [] (aS x) d bc bs (liI K) := by
  refine Lp2.use (P := fun v1 x => EW MX12_condition 5 [(0, .ref 246), (1, .int v1)] [] (aS x) d bc bs (liI K)) (fun L5 v1 x hL5 h => ?_) v1 x h
  unfold lX12_condition_5 at h
  refine EW_aload_n (pc2 := 6) rfl dX12_condition_5 0 rfl ?_
  refine AW_geti ⟨gfRX12_432, rfl⟩ (pc2 := 9) rfl dX12_condition_6 q246 ?_
  refine EW_iconst (pc2 := 10) (v := (-1)) rfl dX12_condition_9 (by decide) ?_
  refine EW_icmp_ne (tgt := 54) (pc2 := 13) rfl dX12_condition_10 (by decide) (fun q => ?_) (fun q => ?_)
  · replace h := h.1 q
    refine EW_iload_n (pc2 := 55) rfl dX12_condition_54 1 rfl ?_
    obtain ⟨z3, h⟩ := h
    exact AW_zret rfl z3 dX12_condition_55 ⟨_, _, rfl, rfl, h⟩
  · replace h := h.2 q
    refine EW_aload_n (pc2 := 14) rfl dX12_condition_13 0 rfl ?_
    refine AW_invV (M' := MX12_look) [] (rest := []) mlRX12_442 okX12_look (pc2 := 17) rfl dX12_condition_14 rfl rfl (Nat.le_of_ble_eq_true rfl) (Nat.le_of_ble_eq_true rfl) (d' := 0) (by omega) q246 ⟨by decide, rfl⟩ (EW_mono (fun _ _ hr => ?_) (sX12_look   x _ _ 0 0 (Nat.le_refl _) h))
    obtain ⟨r4, x5, rfl, rfl, h⟩ := hr
    refine EW_bipush (pc2 := 19) (v := 124) rfl dX12_condition_17 (by decide) ?_
    refine EW_icmp_ne (tgt := 54) (pc2 := 22) rfl dX12_condition_19 (by decide) (fun q => ?_) (fun q => ?_)
    · replace h := h.1 q
      refine EW_iload_n (pc2 := 55) rfl dX12_condition_54 1 rfl ?_
      obtain ⟨z6, h⟩ := h
      exact AW_zret rfl z6 dX12_condition_55 ⟨_, _, rfl, rfl, h⟩
    · replace h := h.2 q
      refine EW_aload_n (pc2 := 23) rfl dX12_condition_22 0 rfl ?_
      refine EW_dup (pc2 := 24) rfl dX12_condition_23 rfl ?_
      refine AW_geti ⟨gfRX12_423, rfl⟩ (pc2 := 27) rfl dX12_condition_24 q246 ?_
      refine EW_iconst (pc2 := 28) (v := 1) rfl dX12_condition_27 (by decide) ?_
      refine EW_iadd (pc2 := 29) rfl dX12_condition_28 ?_
      refine AW_puti ⟨gfRX12_423, rfl, rfl⟩ (pc2 := 32) rfl dX12_condition_29 q246 ?_
      refine EW_aload_n (pc2 := 33) rfl dX12_condition_32 0 rfl ?_
      refine AW_invV (M' := MX12_part) [] (rest := []) mlRX12_491 okX12_part (pc2 := 36) rfl dX12_condition_33 rfl rfl (Nat.le_of_ble_eq_true rfl) (Nat.le_of_ble_eq_true rfl) (d' := dr) (by omega) q246 ⟨by decide, rfl⟩ (EW_mono (fun _ _ hr => ?_) (hRX12_part   (wr x5 246 80 ((x5.1 246 80) + 1)) _  h))
      obtain ⟨r7, x8, rfl, rfl, h⟩ := hr
      refine EW_istore_n (pc2 := 37) rfl dX12_condition_36 (by decide) [1, 2, 0] [(0, .ref 246), (1, .int v1), (2, .int r7)] rfl ?_
      refine EW_iload_n (pc2 := 38) rfl dX12_condition_37 1 rfl ?_
      refine EW_if_ne (tgt := 45) (pc2 := 41) rfl dX12_condition_38 (by decide) (fun q => ?_) (fun q => ?_)
      · replace h := h.1 q
        refine EW_ls [0] rfl ?_
        exact sX12_condition_45 RX12_condition RX12_part RX12_unit  x8 K L5 d bc bs hdp dr hRX12_condition hRX12_part hRX12_unit hdr hL5 h
      · replace h := h.2 q
        refine EW_iload_n (pc2 := 42) rfl dX12_condition_41 2 rfl ?_
        refine EW_if_eq (tgt := 49) (pc2 := 45) rfl dX12_condition_42 (by decide) (fun q => ?_) (fun q => ?_)
        · replace h := h.1 q
          refine EW_iconst (pc2 := 50) (v := 0) rfl dX12_condition_49 (by decide) ?_
          refine EW_istore_n (pc2 := 51) rfl dX12_condition_50 (by decide) [1, 0, 2] [(0, .ref 246), (1, .int 0), (2, .int r7)] rfl ?_
          refine EW_goto (tgt := 5) dX12_condition_51 (by decide) ?_
          refine EW_ls [0, 1] rfl ?_
          exact hL5 0 x8 h
        · replace h := h.2 q
          refine EW_ls [0] rfl ?_
          exact sX12_condition_45 RX12_condition RX12_part RX12_unit  x8 K L5 d bc bs hdp dr hRX12_condition hRX12_part hRX12_unit hdr hL5 h
set_option maxHeartbeats 4000000 in
set_option maxRecDepth 100000 in
theorem bsX12_condition (RX12_condition : ab_X → (Int32 → ab_X → Prop) → Prop) (RX12_part : ab_X → (Int32 → ab_X → Prop) → Prop) (RX12_unit : ab_X → (Int32 → ab_X → Prop) → Prop)   (x : ab_X) (K : Int32 → ab_X → Prop) (d bc bs : Nat) (hdp : 1 ≤ d) (dr : Nat) (hRX12_condition : ∀   (x : ab_X) (K : Int32 → ab_X → Prop), RX12_condition  x K → EW MX12_condition 0 [(0, .ref 246)] [] (aS x) dr 0 0 (liI K)) (hRX12_part : ∀   (x : ab_X) (K : Int32 → ab_X → Prop), RX12_part  x K → EW MX12_part 0 [(0, .ref 246)] [] (aS x) dr 0 0 (liI K)) (hRX12_unit : ∀   (x : ab_X) (K : Int32 → ab_X → Prop), RX12_unit  x K → EW MX12_unit 0 [(0, .ref 246)] [] (aS x) dr 0 0 (liI K)) (hdr : dr + 1 ≤ d) (h : bX12_condition RX12_condition RX12_part RX12_unit  x K) : EW MX12_condition 0 [(0, .ref 246)] [] (aS x) d bc bs (liI K) := by
  unfold bX12_condition at h
  refine EW_aload_n (pc2 := 1) rfl dX12_condition_0 0 rfl ?_
  refine AW_invV (M' := MX12_part) [] (rest := []) mlRX12_491 okX12_part (pc2 := 4) rfl dX12_condition_1 rfl rfl (Nat.le_of_ble_eq_true rfl) (Nat.le_of_ble_eq_true rfl) (d' := dr) (by omega) q246 ⟨by decide, rfl⟩ (EW_mono (fun _ _ hr => ?_) (hRX12_part   x _  h))
  obtain ⟨r1, x2, rfl, rfl, h⟩ := hr
  refine EW_istore_n (pc2 := 5) rfl dX12_condition_4 (by decide) [1, 0] [(0, .ref 246), (1, .int r1)] rfl ?_
  exact sX12_condition_5 RX12_condition RX12_part RX12_unit r1 x2 K d bc bs hdp dr hRX12_condition hRX12_part hRX12_unit hdr h
set_option maxHeartbeats 4000000 in
set_option maxRecDepth 100000 in
theorem sX12_part_5 (RX12_condition : ab_X → (Int32 → ab_X → Prop) → Prop) (RX12_part : ab_X → (Int32 → ab_X → Prop) → Prop) (RX12_unit : ab_X → (Int32 → ab_X → Prop) → Prop) (v1 : Int32)  (x : ab_X) (K : Int32 → ab_X → Prop)  (d bc bs : Nat) (hdp : 1 ≤ d) (dr : Nat) (hRX12_condition : ∀   (x : ab_X) (K : Int32 → ab_X → Prop), RX12_condition  x K → EW MX12_condition 0 [(0, .ref 246)] [] (aS x) dr 0 0 (liI K)) (hRX12_part : ∀   (x : ab_X) (K : Int32 → ab_X → Prop), RX12_part  x K → EW MX12_part 0 [(0, .ref 246)] [] (aS x) dr 0 0 (liI K)) (hRX12_unit : ∀   (x : ab_X) (K : Int32 → ab_X → Prop), RX12_unit  x K → EW MX12_unit 0 [(0, .ref 246)] [] (aS x) dr 0 0 (liI K)) (hdr : dr + 1 ≤ d)  (h : Lp2 (lX12_part_5 RX12_condition RX12_part RX12_unit  K ) v1 x) : EW MX12_part 5 [(0, .ref 246), (1, .int v1)] [] (aS x) d bc bs (liI K) := by
  refine Lp2.use (P := fun v1 x => EW MX12_part 5 [(0, .ref 246), (1, .int v1)] [] (aS x) d bc bs (liI K)) (fun L5 v1 x hL5 h => ?_) v1 x h
  unfold lX12_part_5 at h
  refine EW_aload_n (pc2 := 6) rfl dX12_part_5 0 rfl ?_
  refine AW_geti ⟨gfRX12_432, rfl⟩ (pc2 := 9) rfl dX12_part_6 q246 ?_
  refine EW_iconst (pc2 := 10) (v := (-1)) rfl dX12_part_9 (by decide) ?_
  refine EW_icmp_ne (tgt := 54) (pc2 := 13) rfl dX12_part_10 (by decide) (fun q => ?_) (fun q => ?_)
  · replace h := h.1 q
    refine EW_iload_n (pc2 := 55) rfl dX12_part_54 1 rfl ?_
    obtain ⟨z3, h⟩ := h
    exact AW_zret rfl z3 dX12_part_55 ⟨_, _, rfl, rfl, h⟩
  · replace h := h.2 q
    refine EW_aload_n (pc2 := 14) rfl dX12_part_13 0 rfl ?_
    refine AW_invV (M' := MX12_look) [] (rest := []) mlRX12_442 okX12_look (pc2 := 17) rfl dX12_part_14 rfl rfl (Nat.le_of_ble_eq_true rfl) (Nat.le_of_ble_eq_true rfl) (d' := 0) (by omega) q246 ⟨by decide, rfl⟩ (EW_mono (fun _ _ hr => ?_) (sX12_look   x _ _ 0 0 (Nat.le_refl _) h))
    obtain ⟨r4, x5, rfl, rfl, h⟩ := hr
    refine EW_bipush (pc2 := 19) (v := 38) rfl dX12_part_17 (by decide) ?_
    refine EW_icmp_ne (tgt := 54) (pc2 := 22) rfl dX12_part_19 (by decide) (fun q => ?_) (fun q => ?_)
    · replace h := h.1 q
      refine EW_iload_n (pc2 := 55) rfl dX12_part_54 1 rfl ?_
      obtain ⟨z6, h⟩ := h
      exact AW_zret rfl z6 dX12_part_55 ⟨_, _, rfl, rfl, h⟩
    · replace h := h.2 q
      refine EW_aload_n (pc2 := 23) rfl dX12_part_22 0 rfl ?_
      refine EW_dup (pc2 := 24) rfl dX12_part_23 rfl ?_
      refine AW_geti ⟨gfRX12_423, rfl⟩ (pc2 := 27) rfl dX12_part_24 q246 ?_
      refine EW_iconst (pc2 := 28) (v := 1) rfl dX12_part_27 (by decide) ?_
      refine EW_iadd (pc2 := 29) rfl dX12_part_28 ?_
      refine AW_puti ⟨gfRX12_423, rfl, rfl⟩ (pc2 := 32) rfl dX12_part_29 q246 ?_
      refine EW_aload_n (pc2 := 33) rfl dX12_part_32 0 rfl ?_
      refine AW_invV (M' := MX12_unit) [] (rest := []) mlRX12_485 okX12_unit (pc2 := 36) rfl dX12_part_33 rfl rfl (Nat.le_of_ble_eq_true rfl) (Nat.le_of_ble_eq_true rfl) (d' := dr) (by omega) q246 ⟨by decide, rfl⟩ (EW_mono (fun _ _ hr => ?_) (hRX12_unit   (wr x5 246 80 ((x5.1 246 80) + 1)) _  h))
      obtain ⟨r7, x8, rfl, rfl, h⟩ := hr
      refine EW_istore_n (pc2 := 37) rfl dX12_part_36 (by decide) [1, 2, 0] [(0, .ref 246), (1, .int v1), (2, .int r7)] rfl ?_
      refine EW_iload_n (pc2 := 38) rfl dX12_part_37 1 rfl ?_
      refine EW_if_eq (tgt := 49) (pc2 := 41) rfl dX12_part_38 (by decide) (fun q => ?_) (fun q => ?_)
      · replace h := h.1 q
        refine EW_iconst (pc2 := 50) (v := 0) rfl dX12_part_49 (by decide) ?_
        refine EW_istore_n (pc2 := 51) rfl dX12_part_50 (by decide) [1, 0, 2] [(0, .ref 246), (1, .int 0), (2, .int r7)] rfl ?_
        refine EW_goto (tgt := 5) dX12_part_51 (by decide) ?_
        refine EW_ls [0, 1] rfl ?_
        exact hL5 0 x8 h
      · replace h := h.2 q
        refine EW_iload_n (pc2 := 42) rfl dX12_part_41 2 rfl ?_
        refine EW_if_eq (tgt := 49) (pc2 := 45) rfl dX12_part_42 (by decide) (fun q => ?_) (fun q => ?_)
        · replace h := h.1 q
          refine EW_iconst (pc2 := 50) (v := 0) rfl dX12_part_49 (by decide) ?_
          refine EW_istore_n (pc2 := 51) rfl dX12_part_50 (by decide) [1, 0, 2] [(0, .ref 246), (1, .int 0), (2, .int r7)] rfl ?_
          refine EW_goto (tgt := 5) dX12_part_51 (by decide) ?_
          refine EW_ls [0, 1] rfl ?_
          exact hL5 0 x8 h
        · replace h := h.2 q
          refine EW_iconst (pc2 := 46) (v := 1) rfl dX12_part_45 (by decide) ?_
          refine EW_goto (tgt := 50) dX12_part_46 (by decide) ?_
          refine EW_istore_n (pc2 := 51) rfl dX12_part_50 (by decide) [1, 0, 2] [(0, .ref 246), (1, .int 1), (2, .int r7)] rfl ?_
          refine EW_goto (tgt := 5) dX12_part_51 (by decide) ?_
          refine EW_ls [0, 1] rfl ?_
          exact hL5 1 x8 h
set_option maxHeartbeats 4000000 in
set_option maxRecDepth 100000 in
theorem bsX12_part (RX12_condition : ab_X → (Int32 → ab_X → Prop) → Prop) (RX12_part : ab_X → (Int32 → ab_X → Prop) → Prop) (RX12_unit : ab_X → (Int32 → ab_X → Prop) → Prop)   (x : ab_X) (K : Int32 → ab_X → Prop) (d bc bs : Nat) (hdp : 1 ≤ d) (dr : Nat) (hRX12_condition : ∀   (x : ab_X) (K : Int32 → ab_X → Prop), RX12_condition  x K → EW MX12_condition 0 [(0, .ref 246)] [] (aS x) dr 0 0 (liI K)) (hRX12_part : ∀   (x : ab_X) (K : Int32 → ab_X → Prop), RX12_part  x K → EW MX12_part 0 [(0, .ref 246)] [] (aS x) dr 0 0 (liI K)) (hRX12_unit : ∀   (x : ab_X) (K : Int32 → ab_X → Prop), RX12_unit  x K → EW MX12_unit 0 [(0, .ref 246)] [] (aS x) dr 0 0 (liI K)) (hdr : dr + 1 ≤ d) (h : bX12_part RX12_condition RX12_part RX12_unit  x K) : EW MX12_part 0 [(0, .ref 246)] [] (aS x) d bc bs (liI K) := by
  unfold bX12_part at h
  refine EW_aload_n (pc2 := 1) rfl dX12_part_0 0 rfl ?_
  refine AW_invV (M' := MX12_unit) [] (rest := []) mlRX12_485 okX12_unit (pc2 := 4) rfl dX12_part_1 rfl rfl (Nat.le_of_ble_eq_true rfl) (Nat.le_of_ble_eq_true rfl) (d' := dr) (by omega) q246 ⟨by decide, rfl⟩ (EW_mono (fun _ _ hr => ?_) (hRX12_unit   x _  h))
  obtain ⟨r1, x2, rfl, rfl, h⟩ := hr
  refine EW_istore_n (pc2 := 5) rfl dX12_part_4 (by decide) [1, 0] [(0, .ref 246), (1, .int r1)] rfl ?_
  exact sX12_part_5 RX12_condition RX12_part RX12_unit r1 x2 K d bc bs hdp dr hRX12_condition hRX12_part hRX12_unit hdr h
set_option maxHeartbeats 4000000 in
set_option maxRecDepth 100000 in
theorem sX12_unit_131 (RX12_condition : ab_X → (Int32 → ab_X → Prop) → Prop) (RX12_part : ab_X → (Int32 → ab_X → Prop) → Prop) (RX12_unit : ab_X → (Int32 → ab_X → Prop) → Prop) (v2 : Int32) (v3 : Int32)  (x : ab_X) (K : Int32 → ab_X → Prop)  (d bc bs : Nat) (hdp : 106 ≤ d) (dr : Nat) (hRX12_condition : ∀   (x : ab_X) (K : Int32 → ab_X → Prop), RX12_condition  x K → EW MX12_condition 0 [(0, .ref 246)] [] (aS x) dr 0 0 (liI K)) (hRX12_part : ∀   (x : ab_X) (K : Int32 → ab_X → Prop), RX12_part  x K → EW MX12_part 0 [(0, .ref 246)] [] (aS x) dr 0 0 (liI K)) (hRX12_unit : ∀   (x : ab_X) (K : Int32 → ab_X → Prop), RX12_unit  x K → EW MX12_unit 0 [(0, .ref 246)] [] (aS x) dr 0 0 (liI K)) (hdr : dr + 1 ≤ d)  (h : wX12_unit_131 RX12_condition RX12_part RX12_unit v2 v3 x K ) : EW MX12_unit 131 [(0, .ref 246), (2, .int v2), (3, .int v3)] [] (aS x) d bc bs (liI K) := by
  unfold wX12_unit_131 at h
  refine EW_aload_n (pc2 := 132) rfl dX12_unit_131 0 rfl ?_
  refine EW_dup (pc2 := 133) rfl dX12_unit_132 rfl ?_
  refine AW_geti ⟨gfRX12_423, rfl⟩ (pc2 := 136) rfl dX12_unit_133 q246 ?_
  refine EW_iconst (pc2 := 137) (v := 1) rfl dX12_unit_136 (by decide) ?_
  refine EW_iadd (pc2 := 138) rfl dX12_unit_137 ?_
  refine AW_puti ⟨gfRX12_423, rfl, rfl⟩ (pc2 := 141) rfl dX12_unit_138 q246 ?_
  refine EW_aload_n (pc2 := 142) rfl dX12_unit_141 0 rfl ?_
  refine AW_invV (M' := MX12_sums) [] (rest := []) mlRX12_469 okX12_sums (pc2 := 145) rfl dX12_unit_142 rfl rfl (Nat.le_of_ble_eq_true rfl) (Nat.le_of_ble_eq_true rfl) (d' := 105) (by omega) q246 ⟨by decide, rfl⟩ (EW_mono (fun _ _ hr => ?_) (sX12_sums   (wr x 246 80 ((x.1 246 80) + 1)) _ _ 0 0 (Nat.le_refl _) h))
  obtain ⟨r21, x22, rfl, rfl, h⟩ := hr
  refine EW_istore (pc2 := 147) rfl dX12_unit_145 (by decide) [1, 2, 3, 0] [(0, .ref 246), (2, .int v2), (3, .int v3), (4, .int r21)] rfl ?_
  refine EW_iload_n (pc2 := 148) rfl dX12_unit_147 2 rfl ?_
  refine EW_bipush (pc2 := 150) (v := 61) rfl dX12_unit_148 (by decide) ?_
  refine EW_icmp_ne (tgt := 167) (pc2 := 153) rfl dX12_unit_150 (by decide) (fun q => ?_) (fun q => ?_)
  · replace h := h.1 q
    refine EW_iload_n (pc2 := 168) rfl dX12_unit_167 2 rfl ?_
    refine EW_bipush (pc2 := 170) (v := 60) rfl dX12_unit_168 (by decide) ?_
    refine EW_icmp_ne (tgt := 187) (pc2 := 173) rfl dX12_unit_170 (by decide) (fun q => ?_) (fun q => ?_)
    · replace h := h.1 q
      refine EW_iload_n (pc2 := 188) rfl dX12_unit_187 1 rfl ?_
      refine EW_iload (pc2 := 190) rfl dX12_unit_188 3 rfl ?_
      refine EW_icmp_le (tgt := 197) (pc2 := 193) rfl dX12_unit_190 (by decide) (fun q => ?_) (fun q => ?_)
      · replace h := h.1 q
        refine EW_iconst (pc2 := 198) (v := 0) rfl dX12_unit_197 (by decide) ?_
        exact AW_zret rfl isB0 dX12_unit_198 ⟨_, _, rfl, rfl, h⟩
      · replace h := h.2 q
        refine EW_iconst (pc2 := 194) (v := 1) rfl dX12_unit_193 (by decide) ?_
        refine EW_goto (tgt := 198) dX12_unit_194 (by decide) ?_
        exact AW_zret rfl isB1 dX12_unit_198 ⟨_, _, rfl, rfl, h⟩
    · replace h := h.2 q
      refine EW_iload_n (pc2 := 174) rfl dX12_unit_173 1 rfl ?_
      refine EW_iload (pc2 := 176) rfl dX12_unit_174 3 rfl ?_
      refine EW_icmp_ge (tgt := 183) (pc2 := 179) rfl dX12_unit_176 (by decide) (fun q => ?_) (fun q => ?_)
      · replace h := h.1 q
        refine EW_iconst (pc2 := 184) (v := 0) rfl dX12_unit_183 (by decide) ?_
        refine EW_goto (tgt := 198) dX12_unit_184 (by decide) ?_
        exact AW_zret rfl isB0 dX12_unit_198 ⟨_, _, rfl, rfl, h⟩
      · replace h := h.2 q
        refine EW_iconst (pc2 := 180) (v := 1) rfl dX12_unit_179 (by decide) ?_
        refine EW_goto (tgt := 198) dX12_unit_180 (by decide) ?_
        exact AW_zret rfl isB1 dX12_unit_198 ⟨_, _, rfl, rfl, h⟩
  · replace h := h.2 q
    refine EW_iload_n (pc2 := 154) rfl dX12_unit_153 1 rfl ?_
    refine EW_iload (pc2 := 156) rfl dX12_unit_154 3 rfl ?_
    refine EW_icmp_ne (tgt := 163) (pc2 := 159) rfl dX12_unit_156 (by decide) (fun q => ?_) (fun q => ?_)
    · replace h := h.1 q
      refine EW_iconst (pc2 := 164) (v := 0) rfl dX12_unit_163 (by decide) ?_
      refine EW_goto (tgt := 198) dX12_unit_164 (by decide) ?_
      exact AW_zret rfl isB0 dX12_unit_198 ⟨_, _, rfl, rfl, h⟩
    · replace h := h.2 q
      refine EW_iconst (pc2 := 160) (v := 1) rfl dX12_unit_159 (by decide) ?_
      refine EW_goto (tgt := 198) dX12_unit_160 (by decide) ?_
      exact AW_zret rfl isB1 dX12_unit_198 ⟨_, _, rfl, rfl, h⟩
set_option maxHeartbeats 4000000 in
set_option maxRecDepth 100000 in
theorem bsX12_unit (RX12_condition : ab_X → (Int32 → ab_X → Prop) → Prop) (RX12_part : ab_X → (Int32 → ab_X → Prop) → Prop) (RX12_unit : ab_X → (Int32 → ab_X → Prop) → Prop)   (x : ab_X) (K : Int32 → ab_X → Prop) (d bc bs : Nat) (hdp : 106 ≤ d) (dr : Nat) (hRX12_condition : ∀   (x : ab_X) (K : Int32 → ab_X → Prop), RX12_condition  x K → EW MX12_condition 0 [(0, .ref 246)] [] (aS x) dr 0 0 (liI K)) (hRX12_part : ∀   (x : ab_X) (K : Int32 → ab_X → Prop), RX12_part  x K → EW MX12_part 0 [(0, .ref 246)] [] (aS x) dr 0 0 (liI K)) (hRX12_unit : ∀   (x : ab_X) (K : Int32 → ab_X → Prop), RX12_unit  x K → EW MX12_unit 0 [(0, .ref 246)] [] (aS x) dr 0 0 (liI K)) (hdr : dr + 1 ≤ d) (h : bX12_unit RX12_condition RX12_part RX12_unit  x K) : EW MX12_unit 0 [(0, .ref 246)] [] (aS x) d bc bs (liI K) := by
  unfold bX12_unit at h
  refine EW_aload_n (pc2 := 1) rfl dX12_unit_0 0 rfl ?_
  refine AW_invV (M' := MX12_look) [] (rest := []) mlRX12_442 okX12_look (pc2 := 4) rfl dX12_unit_1 rfl rfl (Nat.le_of_ble_eq_true rfl) (Nat.le_of_ble_eq_true rfl) (d' := 0) (by omega) q246 ⟨by decide, rfl⟩ (EW_mono (fun _ _ hr => ?_) (sX12_look   x _ _ 0 0 (Nat.le_refl _) h))
  obtain ⟨r1, x2, rfl, rfl, h⟩ := hr
  refine EW_istore_n (pc2 := 5) rfl dX12_unit_4 (by decide) [1, 0] [(0, .ref 246), (1, .int r1)] rfl ?_
  refine EW_iload_n (pc2 := 6) rfl dX12_unit_5 1 rfl ?_
  refine EW_bipush (pc2 := 8) (v := 33) rfl dX12_unit_6 (by decide) ?_
  refine EW_icmp_ne (tgt := 45) (pc2 := 11) rfl dX12_unit_8 (by decide) (fun q => ?_) (fun q => ?_)
  · replace h := h.1 q
    refine EW_iload_n (pc2 := 46) rfl dX12_unit_45 1 rfl ?_
    refine EW_bipush (pc2 := 48) (v := 40) rfl dX12_unit_46 (by decide) ?_
    refine EW_icmp_ne (tgt := 88) (pc2 := 51) rfl dX12_unit_48 (by decide) (fun q => ?_) (fun q => ?_)
    · replace h := h.1 q
      refine EW_aload_n (pc2 := 89) rfl dX12_unit_88 0 rfl ?_
      refine AW_invV (M' := MX12_sums) [] (rest := []) mlRX12_469 okX12_sums (pc2 := 92) rfl dX12_unit_89 rfl rfl (Nat.le_of_ble_eq_true rfl) (Nat.le_of_ble_eq_true rfl) (d' := 105) (by omega) q246 ⟨by decide, rfl⟩ (EW_mono (fun _ _ hr => ?_) (sX12_sums   x2 _ _ 0 0 (Nat.le_refl _) h))
      obtain ⟨r3, x4, rfl, rfl, h⟩ := hr
      refine EW_istore_n (pc2 := 93) rfl dX12_unit_92 (by decide) [1, 2, 0] [(0, .ref 246), (1, .int r1), (2, .int r3)] rfl ?_
      refine EW_aload_n (pc2 := 94) rfl dX12_unit_93 0 rfl ?_
      refine AW_geti ⟨gfRX12_432, rfl⟩ (pc2 := 97) rfl dX12_unit_94 q246 ?_
      refine EW_iconst (pc2 := 98) (v := (-1)) rfl dX12_unit_97 (by decide) ?_
      refine EW_icmp_eq (tgt := 103) (pc2 := 101) rfl dX12_unit_98 (by decide) (fun q => ?_) (fun q => ?_)
      · replace h := h.1 q
        refine EW_aload_n (pc2 := 104) rfl dX12_unit_103 0 rfl ?_
        refine AW_invV (M' := MX12_look) [] (rest := []) mlRX12_442 okX12_look (pc2 := 107) rfl dX12_unit_104 rfl rfl (Nat.le_of_ble_eq_true rfl) (Nat.le_of_ble_eq_true rfl) (d' := 0) (by omega) q246 ⟨by decide, rfl⟩ (EW_mono (fun _ _ hr => ?_) (sX12_look   x4 _ _ 0 0 (Nat.le_refl _) h))
        obtain ⟨r5, x6, rfl, rfl, h⟩ := hr
        refine EW_istore_n (pc2 := 108) rfl dX12_unit_107 (by decide) [1, 2, 3, 0] [(0, .ref 246), (1, .int r1), (2, .int r3), (3, .int r5)] rfl ?_
        refine EW_iload_n (pc2 := 109) rfl dX12_unit_108 3 rfl ?_
        refine EW_bipush (pc2 := 111) (v := 61) rfl dX12_unit_109 (by decide) ?_
        refine EW_icmp_eq (tgt := 131) (pc2 := 114) rfl dX12_unit_111 (by decide) (fun q => ?_) (fun q => ?_)
        · replace h := h.1 q
          refine EW_ls [0, 2, 3] rfl ?_
          exact sX12_unit_131 RX12_condition RX12_part RX12_unit r3 r5 x6 K d bc bs hdp dr hRX12_condition hRX12_part hRX12_unit hdr h
        · replace h := h.2 q
          refine EW_iload_n (pc2 := 115) rfl dX12_unit_114 3 rfl ?_
          refine EW_bipush (pc2 := 117) (v := 60) rfl dX12_unit_115 (by decide) ?_
          refine EW_icmp_eq (tgt := 131) (pc2 := 120) rfl dX12_unit_117 (by decide) (fun q => ?_) (fun q => ?_)
          · replace h := h.1 q
            refine EW_ls [0, 2, 3] rfl ?_
            exact sX12_unit_131 RX12_condition RX12_part RX12_unit r3 r5 x6 K d bc bs hdp dr hRX12_condition hRX12_part hRX12_unit hdr h
          · replace h := h.2 q
            refine EW_iload_n (pc2 := 121) rfl dX12_unit_120 3 rfl ?_
            refine EW_bipush (pc2 := 123) (v := 62) rfl dX12_unit_121 (by decide) ?_
            refine EW_icmp_eq (tgt := 131) (pc2 := 126) rfl dX12_unit_123 (by decide) (fun q => ?_) (fun q => ?_)
            · replace h := h.1 q
              refine EW_ls [0, 2, 3] rfl ?_
              exact sX12_unit_131 RX12_condition RX12_part RX12_unit r3 r5 x6 K d bc bs hdp dr hRX12_condition hRX12_part hRX12_unit hdr h
            · replace h := h.2 q
              refine EW_aload_n (pc2 := 127) rfl dX12_unit_126 0 rfl ?_
              refine AW_invV (M' := MX12_stop) [] (rest := []) mlRX12_438 okX12_stop (pc2 := 130) rfl dX12_unit_127 rfl rfl (Nat.le_of_ble_eq_true rfl) (Nat.le_of_ble_eq_true rfl) (d' := 0) (by omega) q246 ⟨by decide, rfl⟩ (EW_mono (fun _ _ hr => ?_) (sX12_stop   x6 _ _ 0 0 (Nat.le_refl _) h))
              obtain ⟨r7, x8, rfl, rfl, h⟩ := hr
              obtain ⟨z9, h⟩ := h
              exact AW_zret rfl z9 dX12_unit_130 ⟨_, _, rfl, rfl, h⟩
      · replace h := h.2 q
        refine EW_iconst (pc2 := 102) (v := 0) rfl dX12_unit_101 (by decide) ?_
        exact AW_zret rfl isB0 dX12_unit_102 ⟨_, _, rfl, rfl, h⟩
    · replace h := h.2 q
      refine EW_aload_n (pc2 := 52) rfl dX12_unit_51 0 rfl ?_
      refine AW_invV (M' := MX12_goesIn) [] (rest := []) mlRX12_466 okX12_goesIn (pc2 := 55) rfl dX12_unit_52 rfl rfl (Nat.le_of_ble_eq_true rfl) (Nat.le_of_ble_eq_true rfl) (d' := 1) (by omega) q246 ⟨by decide, rfl⟩ (EW_mono (fun _ _ hr => ?_) (sX12_goesIn   x2 _ _ 0 0 (Nat.le_refl _) h))
      obtain ⟨r10, x11, rfl, rfl, h⟩ := hr
      refine EW_if_ne (tgt := 60) (pc2 := 58) rfl dX12_unit_55 (by decide) (fun q => ?_) (fun q => ?_)
      · replace h := h.1 q
        refine EW_aload_n (pc2 := 61) rfl dX12_unit_60 0 rfl ?_
        refine AW_invV (M' := MX12_condition) [] (rest := []) mlRX12_488 okX12_condition (pc2 := 64) rfl dX12_unit_61 rfl rfl (Nat.le_of_ble_eq_true rfl) (Nat.le_of_ble_eq_true rfl) (d' := dr) (by omega) q246 ⟨by decide, rfl⟩ (EW_mono (fun _ _ hr => ?_) (hRX12_condition   x11 _  h))
        obtain ⟨r12, x13, rfl, rfl, h⟩ := hr
        refine EW_istore_n (pc2 := 65) rfl dX12_unit_64 (by decide) [1, 2, 0] [(0, .ref 246), (1, .int r1), (2, .int r12)] rfl ?_
        refine EW_aload_n (pc2 := 66) rfl dX12_unit_65 0 rfl ?_
        refine EW_bipush (pc2 := 68) (v := 41) rfl dX12_unit_66 (by decide) ?_
        refine AW_invV (M' := MX12_takes) [.int 41] (rest := []) mlRX12_472 okX12_takes (pc2 := 71) rfl dX12_unit_68 rfl rfl (Nat.le_of_ble_eq_true rfl) (Nat.le_of_ble_eq_true rfl) (d' := 1) (by omega) q246 ⟨by decide, rfl⟩ (EW_mono (fun _ _ hr => ?_) (sX12_takes 41  x13 _ _ 0 0 (Nat.le_refl _) h))
        obtain ⟨r14, x15, rfl, rfl, h⟩ := hr
        refine EW_if_ne (tgt := 76) (pc2 := 74) rfl dX12_unit_71 (by decide) (fun q => ?_) (fun q => ?_)
        · replace h := h.1 q
          refine EW_aload_n (pc2 := 77) rfl dX12_unit_76 0 rfl ?_
          refine EW_dup (pc2 := 78) rfl dX12_unit_77 rfl ?_
          refine AW_geti ⟨gfRX12_435, rfl⟩ (pc2 := 81) rfl dX12_unit_78 q246 ?_
          refine EW_iconst (pc2 := 82) (v := 1) rfl dX12_unit_81 (by decide) ?_
          refine EW_isub (pc2 := 83) rfl dX12_unit_82 ?_
          refine AW_puti ⟨gfRX12_435, rfl, rfl⟩ (pc2 := 86) rfl dX12_unit_83 q246 ?_
          refine EW_iload_n (pc2 := 87) rfl dX12_unit_86 2 rfl ?_
          obtain ⟨z16, h⟩ := h
          exact AW_zret rfl z16 dX12_unit_87 ⟨_, _, rfl, rfl, h⟩
        · replace h := h.2 q
          refine EW_iconst (pc2 := 75) (v := 0) rfl dX12_unit_74 (by decide) ?_
          exact AW_zret rfl isB0 dX12_unit_75 ⟨_, _, rfl, rfl, h⟩
      · replace h := h.2 q
        refine EW_iconst (pc2 := 59) (v := 0) rfl dX12_unit_58 (by decide) ?_
        exact AW_zret rfl isB0 dX12_unit_59 ⟨_, _, rfl, rfl, h⟩
  · replace h := h.2 q
    refine EW_aload_n (pc2 := 12) rfl dX12_unit_11 0 rfl ?_
    refine AW_invV (M' := MX12_goesIn) [] (rest := []) mlRX12_466 okX12_goesIn (pc2 := 15) rfl dX12_unit_12 rfl rfl (Nat.le_of_ble_eq_true rfl) (Nat.le_of_ble_eq_true rfl) (d' := 1) (by omega) q246 ⟨by decide, rfl⟩ (EW_mono (fun _ _ hr => ?_) (sX12_goesIn   x2 _ _ 0 0 (Nat.le_refl _) h))
    obtain ⟨r17, x18, rfl, rfl, h⟩ := hr
    refine EW_if_ne (tgt := 20) (pc2 := 18) rfl dX12_unit_15 (by decide) (fun q => ?_) (fun q => ?_)
    · replace h := h.1 q
      refine EW_aload_n (pc2 := 21) rfl dX12_unit_20 0 rfl ?_
      refine AW_invV (M' := MX12_unit) [] (rest := []) mlRX12_485 okX12_unit (pc2 := 24) rfl dX12_unit_21 rfl rfl (Nat.le_of_ble_eq_true rfl) (Nat.le_of_ble_eq_true rfl) (d' := dr) (by omega) q246 ⟨by decide, rfl⟩ (EW_mono (fun _ _ hr => ?_) (hRX12_unit   x18 _  h))
      obtain ⟨r19, x20, rfl, rfl, h⟩ := hr
      refine EW_istore_n (pc2 := 25) rfl dX12_unit_24 (by decide) [1, 2, 0] [(0, .ref 246), (1, .int r1), (2, .int r19)] rfl ?_
      refine EW_aload_n (pc2 := 26) rfl dX12_unit_25 0 rfl ?_
      refine EW_dup (pc2 := 27) rfl dX12_unit_26 rfl ?_
      refine AW_geti ⟨gfRX12_435, rfl⟩ (pc2 := 30) rfl dX12_unit_27 q246 ?_
      refine EW_iconst (pc2 := 31) (v := 1) rfl dX12_unit_30 (by decide) ?_
      refine EW_isub (pc2 := 32) rfl dX12_unit_31 ?_
      refine AW_puti ⟨gfRX12_435, rfl, rfl⟩ (pc2 := 35) rfl dX12_unit_32 q246 ?_
      refine EW_iload_n (pc2 := 36) rfl dX12_unit_35 2 rfl ?_
      refine EW_if_ne (tgt := 43) (pc2 := 39) rfl dX12_unit_36 (by decide) (fun q => ?_) (fun q => ?_)
      · replace h := h.1 q
        refine EW_iconst (pc2 := 44) (v := 0) rfl dX12_unit_43 (by decide) ?_
        exact AW_zret rfl isB0 dX12_unit_44 ⟨_, _, rfl, rfl, h⟩
      · replace h := h.2 q
        refine EW_iconst (pc2 := 40) (v := 1) rfl dX12_unit_39 (by decide) ?_
        refine EW_goto (tgt := 44) dX12_unit_40 (by decide) ?_
        exact AW_zret rfl isB1 dX12_unit_44 ⟨_, _, rfl, rfl, h⟩
    · replace h := h.2 q
      refine EW_iconst (pc2 := 19) (v := 0) rfl dX12_unit_18 (by decide) ?_
      exact AW_zret rfl isB0 dX12_unit_19 ⟨_, _, rfl, rfl, h⟩
set_option maxHeartbeats 4000000 in
theorem famX12_conditionS : ∀ n, (∀   (x : ab_X) (K : Int32 → ab_X → Prop), (famX12_condition n).1  x K → EW MX12_condition 0 [(0, .ref 246)] [] (aS x) (106 + n) 0 0 (liI K)) ∧ (∀   (x : ab_X) (K : Int32 → ab_X → Prop), (famX12_condition n).2.1  x K → EW MX12_part 0 [(0, .ref 246)] [] (aS x) (106 + n) 0 0 (liI K)) ∧ (∀   (x : ab_X) (K : Int32 → ab_X → Prop), (famX12_condition n).2.2  x K → EW MX12_unit 0 [(0, .ref 246)] [] (aS x) (106 + n) 0 0 (liI K)) := by
  intro n
  induction n with
  | zero => exact ⟨fun   x K h => False.elim h, fun   x K h => False.elim h, fun   x K h => False.elim h⟩
  | succ n ih =>
    obtain ⟨i0, i1, i2⟩ := ih
    exact ⟨fun   x K h => bsX12_condition _ _ _   x K (106 + (n + 1)) 0 0 (by omega) (106 + n) i0 i1 i2 (by omega) h, fun   x K h => bsX12_part _ _ _   x K (106 + (n + 1)) 0 0 (by omega) (106 + n) i0 i1 i2 (by omega) h, fun   x K h => bsX12_unit _ _ _   x K (106 + (n + 1)) 0 0 (by omega) (106 + n) i0 i1 i2 (by omega) h⟩
theorem sX12_condition   (x : ab_X) (K : Int32 → ab_X → Prop) (d bc bs : Nat) (hdp : 207 ≤ d) (h : wX12_condition  x K) : EW MX12_condition 0 [(0, .ref 246)] [] (aS x) d bc bs (liI K) := by
  obtain ⟨n, hn, h⟩ := h
  cases n with
  | zero => exact False.elim h
  | succ n =>
    obtain ⟨i0, i1, i2⟩ := famX12_conditionS n
    exact bsX12_condition _ _ _   x K d bc bs (by omega) (106 + n) i0 i1 i2 (by omega) h
theorem sX12_part   (x : ab_X) (K : Int32 → ab_X → Prop) (d bc bs : Nat) (hdp : 207 ≤ d) (h : wX12_part  x K) : EW MX12_part 0 [(0, .ref 246)] [] (aS x) d bc bs (liI K) := by
  obtain ⟨n, hn, h⟩ := h
  cases n with
  | zero => exact False.elim h
  | succ n =>
    obtain ⟨i0, i1, i2⟩ := famX12_conditionS n
    exact bsX12_part _ _ _   x K d bc bs (by omega) (106 + n) i0 i1 i2 (by omega) h
theorem sX12_unit   (x : ab_X) (K : Int32 → ab_X → Prop) (d bc bs : Nat) (hdp : 207 ≤ d) (h : wX12_unit  x K) : EW MX12_unit 0 [(0, .ref 246)] [] (aS x) d bc bs (liI K) := by
  obtain ⟨n, hn, h⟩ := h
  cases n with
  | zero => exact False.elim h
  | succ n =>
    obtain ⟨i0, i1, i2⟩ := famX12_conditionS n
    exact bsX12_unit _ _ _   x K d bc bs (by omega) (106 + n) i0 i1 i2 (by omega) h
theorem mlRX12_500 : Cond.methodLink RX12 500 yX12_actionOf ∈ ab_G ∧ Cond.static yX12_actionOf ∈ ab_G := ⟨ab_in 2475 (by decide +kernel) (by decide +kernel), ab_in 2476 (by decide +kernel) (by decide +kernel)⟩
theorem gfRX12_195 : ab_L RX12 195 12 68 := ⟨by decide, by decide, ab_in 1917 (by decide +kernel) (by decide +kernel)⟩
theorem mmRX12_311 : Cond.methodLink RX12 311 Lib.Math.min.name ∈ ab_G ∧ Cond.static Lib.Math.min.name ∈ ab_G ∧ Cond.initialized "java/lang/Math" ∈ ab_G ∧ Cond.code Lib.Math.min.name Lib.Math.min.code 2 (some .int) ∈ ab_G := ⟨ab_in 2228 (by decide +kernel) (by decide +kernel), ab_in 787 (by decide +kernel) (by decide +kernel), ab_in 100 (by decide +kernel) (by decide +kernel), ab_in 788 (by decide +kernel) (by decide +kernel)⟩
theorem gfRX12_198 : ab_L RX12 198 12 69 := ⟨by decide, by decide, ab_in 1918 (by decide +kernel) (by decide +kernel)⟩
theorem gfRX12_497 : ab_L RX12 497 12 74 := ⟨by decide, by decide, ab_in 1923 (by decide +kernel) (by decide +kernel)⟩
theorem gfRX12_494 : ab_L RX12 494 12 75 := ⟨by decide, by decide, ab_in 1924 (by decide +kernel) (by decide +kernel)⟩
abbrev MX12_clause : ab_M := (yX12_clause, cX12_clause, 6, none)
theorem dX12_clause_0 : decode cX12_clause 0 = .ok (.aload_n 0, 1) := by decide +kernel
theorem dX12_clause_1 : decode cX12_clause 1 = .ok (.invokevirtual 488, 3) := by decide +kernel
theorem dX12_clause_4 : decode cX12_clause 4 = .ok (.istore_n 3, 1) := by decide +kernel
theorem dX12_clause_5 : decode cX12_clause 5 = .ok (.aload_n 0, 1) := by decide +kernel
theorem dX12_clause_6 : decode cX12_clause 6 = .ok (.bipush 63, 2) := by decide +kernel
theorem dX12_clause_8 : decode cX12_clause 8 = .ok (.invokevirtual 472, 3) := by decide +kernel
theorem dX12_clause_11 : decode cX12_clause 11 = .ok (.ifCond .ne 4, 3) := by decide +kernel
theorem dX12_clause_14 : decode cX12_clause 14 = .ok (.return_, 1) := by decide +kernel
theorem dX12_clause_15 : decode cX12_clause 15 = .ok (.iload_n 3, 1) := by decide +kernel
theorem dX12_clause_16 : decode cX12_clause 16 = .ok (.ifCond .eq 21, 3) := by decide +kernel
theorem dX12_clause_19 : decode cX12_clause 19 = .ok (.iload_n 2, 1) := by decide +kernel
theorem dX12_clause_20 : decode cX12_clause 20 = .ok (.bipush 30, 2) := by decide +kernel
theorem dX12_clause_22 : decode cX12_clause 22 = .ok (.if_icmp .ge 15, 3) := by decide +kernel
theorem dX12_clause_25 : decode cX12_clause 25 = .ok (.aload_n 0, 1) := by decide +kernel
theorem dX12_clause_26 : decode cX12_clause 26 = .ok (.dup, 1) := by decide +kernel
theorem dX12_clause_27 : decode cX12_clause 27 = .ok (.getfield 494, 3) := by decide +kernel
theorem dX12_clause_30 : decode cX12_clause 30 = .ok (.iconst 1, 1) := by decide +kernel
theorem dX12_clause_31 : decode cX12_clause 31 = .ok (.iload_n 2, 1) := by decide +kernel
theorem dX12_clause_32 : decode cX12_clause 32 = .ok (.ishl, 1) := by decide +kernel
theorem dX12_clause_33 : decode cX12_clause 33 = .ok (.ior, 1) := by decide +kernel
theorem dX12_clause_34 : decode cX12_clause 34 = .ok (.putfield 494, 3) := by decide +kernel
theorem dX12_clause_37 : decode cX12_clause 37 = .ok (.iload_n 1, 1) := by decide +kernel
theorem dX12_clause_38 : decode cX12_clause 38 = .ok (.ifCond .eq 45, 3) := by decide +kernel
theorem dX12_clause_41 : decode cX12_clause 41 = .ok (.aload_n 0, 1) := by decide +kernel
theorem dX12_clause_42 : decode cX12_clause 42 = .ok (.iconst 3, 1) := by decide +kernel
theorem dX12_clause_43 : decode cX12_clause 43 = .ok (.invokevirtual 463, 3) := by decide +kernel
theorem dX12_clause_46 : decode cX12_clause 46 = .ok (.istore 4, 2) := by decide +kernel
theorem dX12_clause_48 : decode cX12_clause 48 = .ok (.aload_n 0, 1) := by decide +kernel
theorem dX12_clause_49 : decode cX12_clause 49 = .ok (.getfield 432, 3) := by decide +kernel
theorem dX12_clause_52 : decode cX12_clause 52 = .ok (.iconst (-1), 1) := by decide +kernel
theorem dX12_clause_53 : decode cX12_clause 53 = .ok (.if_icmp .ne 7, 3) := by decide +kernel
theorem dX12_clause_56 : decode cX12_clause 56 = .ok (.iload_n 3, 1) := by decide +kernel
theorem dX12_clause_57 : decode cX12_clause 57 = .ok (.ifCond .ne 4, 3) := by decide +kernel
theorem dX12_clause_60 : decode cX12_clause 60 = .ok (.return_, 1) := by decide +kernel
theorem dX12_clause_61 : decode cX12_clause 61 = .ok (.aload_n 0, 1) := by decide +kernel
theorem dX12_clause_62 : decode cX12_clause 62 = .ok (.getfield 198, 3) := by decide +kernel
theorem dX12_clause_65 : decode cX12_clause 65 = .ok (.aload_n 0, 1) := by decide +kernel
theorem dX12_clause_66 : decode cX12_clause 66 = .ok (.getfield 497, 3) := by decide +kernel
theorem dX12_clause_69 : decode cX12_clause 69 = .ok (.iload 4, 2) := by decide +kernel
theorem dX12_clause_71 : decode cX12_clause 71 = .ok (.iastore, 1) := by decide +kernel
theorem dX12_clause_72 : decode cX12_clause 72 = .ok (.aload_n 0, 1) := by decide +kernel
theorem dX12_clause_73 : decode cX12_clause 73 = .ok (.dup, 1) := by decide +kernel
theorem dX12_clause_74 : decode cX12_clause 74 = .ok (.getfield 497, 3) := by decide +kernel
theorem dX12_clause_77 : decode cX12_clause 77 = .ok (.iconst 1, 1) := by decide +kernel
theorem dX12_clause_78 : decode cX12_clause 78 = .ok (.iadd, 1) := by decide +kernel
theorem dX12_clause_79 : decode cX12_clause 79 = .ok (.putfield 497, 3) := by decide +kernel
theorem dX12_clause_82 : decode cX12_clause 82 = .ok (.return_, 1) := by decide +kernel
theorem dX12_clause_83 : decode cX12_clause 83 = .ok (.aload_n 0, 1) := by decide +kernel
theorem dX12_clause_84 : decode cX12_clause 84 = .ok (.invokevirtual 442, 3) := by decide +kernel
theorem dX12_clause_87 : decode cX12_clause 87 = .ok (.invokestatic 500, 3) := by decide +kernel
theorem dX12_clause_90 : decode cX12_clause 90 = .ok (.istore 4, 2) := by decide +kernel
theorem dX12_clause_92 : decode cX12_clause 92 = .ok (.iload 4, 2) := by decide +kernel
theorem dX12_clause_94 : decode cX12_clause 94 = .ok (.iconst (-1), 1) := by decide +kernel
theorem dX12_clause_95 : decode cX12_clause 95 = .ok (.if_icmp .ne 8, 3) := by decide +kernel
theorem dX12_clause_98 : decode cX12_clause 98 = .ok (.aload_n 0, 1) := by decide +kernel
theorem dX12_clause_99 : decode cX12_clause 99 = .ok (.invokevirtual 438, 3) := by decide +kernel
theorem dX12_clause_102 : decode cX12_clause 102 = .ok (.pop, 1) := by decide +kernel
theorem dX12_clause_103 : decode cX12_clause 103 = .ok (.aload_n 0, 1) := by decide +kernel
theorem dX12_clause_104 : decode cX12_clause 104 = .ok (.getfield 432, 3) := by decide +kernel
theorem dX12_clause_107 : decode cX12_clause 107 = .ok (.iconst (-1), 1) := by decide +kernel
theorem dX12_clause_108 : decode cX12_clause 108 = .ok (.if_icmp .ne 89, 3) := by decide +kernel
theorem dX12_clause_111 : decode cX12_clause 111 = .ok (.iload 4, 2) := by decide +kernel
theorem dX12_clause_113 : decode cX12_clause 113 = .ok (.iconst (-1), 1) := by decide +kernel
theorem dX12_clause_114 : decode cX12_clause 114 = .ok (.if_icmp .eq 83, 3) := by decide +kernel
theorem dX12_clause_117 : decode cX12_clause 117 = .ok (.aload_n 0, 1) := by decide +kernel
theorem dX12_clause_118 : decode cX12_clause 118 = .ok (.dup, 1) := by decide +kernel
theorem dX12_clause_119 : decode cX12_clause 119 = .ok (.getfield 423, 3) := by decide +kernel
theorem dX12_clause_122 : decode cX12_clause 122 = .ok (.iconst 1, 1) := by decide +kernel
theorem dX12_clause_123 : decode cX12_clause 123 = .ok (.iadd, 1) := by decide +kernel
theorem dX12_clause_124 : decode cX12_clause 124 = .ok (.putfield 423, 3) := by decide +kernel
theorem dX12_clause_127 : decode cX12_clause 127 = .ok (.aload_n 0, 1) := by decide +kernel
theorem dX12_clause_128 : decode cX12_clause 128 = .ok (.invokevirtual 442, 3) := by decide +kernel
theorem dX12_clause_131 : decode cX12_clause 131 = .ok (.istore 5, 2) := by decide +kernel
theorem dX12_clause_133 : decode cX12_clause 133 = .ok (.aload_n 0, 1) := by decide +kernel
theorem dX12_clause_134 : decode cX12_clause 134 = .ok (.invokevirtual 446, 3) := by decide +kernel
theorem dX12_clause_137 : decode cX12_clause 137 = .ok (.ifCond .ne 9, 3) := by decide +kernel
theorem dX12_clause_140 : decode cX12_clause 140 = .ok (.aload_n 0, 1) := by decide +kernel
theorem dX12_clause_141 : decode cX12_clause 141 = .ok (.invokevirtual 438, 3) := by decide +kernel
theorem dX12_clause_144 : decode cX12_clause 144 = .ok (.pop, 1) := by decide +kernel
theorem dX12_clause_145 : decode cX12_clause 145 = .ok (.return_, 1) := by decide +kernel
theorem dX12_clause_146 : decode cX12_clause 146 = .ok (.aload_n 0, 1) := by decide +kernel
theorem dX12_clause_147 : decode cX12_clause 147 = .ok (.dup, 1) := by decide +kernel
theorem dX12_clause_148 : decode cX12_clause 148 = .ok (.getfield 423, 3) := by decide +kernel
theorem dX12_clause_151 : decode cX12_clause 151 = .ok (.iconst 1, 1) := by decide +kernel
theorem dX12_clause_152 : decode cX12_clause 152 = .ok (.iadd, 1) := by decide +kernel
theorem dX12_clause_153 : decode cX12_clause 153 = .ok (.putfield 423, 3) := by decide +kernel
theorem dX12_clause_156 : decode cX12_clause 156 = .ok (.iload_n 3, 1) := by decide +kernel
theorem dX12_clause_157 : decode cX12_clause 157 = .ok (.ifCond .eq 28, 3) := by decide +kernel
theorem dX12_clause_160 : decode cX12_clause 160 = .ok (.aload_n 0, 1) := by decide +kernel
theorem dX12_clause_161 : decode cX12_clause 161 = .ok (.getfield 195, 3) := by decide +kernel
theorem dX12_clause_164 : decode cX12_clause 164 = .ok (.iload 4, 2) := by decide +kernel
theorem dX12_clause_166 : decode cX12_clause 166 = .ok (.bipush 9, 2) := by decide +kernel
theorem dX12_clause_168 : decode cX12_clause 168 = .ok (.aload_n 0, 1) := by decide +kernel
theorem dX12_clause_169 : decode cX12_clause 169 = .ok (.getfield 195, 3) := by decide +kernel
theorem dX12_clause_172 : decode cX12_clause 172 = .ok (.iload 4, 2) := by decide +kernel
theorem dX12_clause_174 : decode cX12_clause 174 = .ok (.iaload, 1) := by decide +kernel
theorem dX12_clause_175 : decode cX12_clause 175 = .ok (.iload 5, 2) := by decide +kernel
theorem dX12_clause_177 : decode cX12_clause 177 = .ok (.iadd, 1) := by decide +kernel
theorem dX12_clause_178 : decode cX12_clause 178 = .ok (.bipush 48, 2) := by decide +kernel
theorem dX12_clause_180 : decode cX12_clause 180 = .ok (.isub, 1) := by decide +kernel
theorem dX12_clause_181 : decode cX12_clause 181 = .ok (.invokestatic 311, 3) := by decide +kernel
theorem dX12_clause_184 : decode cX12_clause 184 = .ok (.iastore, 1) := by decide +kernel
theorem dX12_clause_185 : decode cX12_clause 185 = .ok (.aload_n 0, 1) := by decide +kernel
theorem dX12_clause_186 : decode cX12_clause 186 = .ok (.invokevirtual 442, 3) := by decide +kernel
theorem dX12_clause_189 : decode cX12_clause 189 = .ok (.invokestatic 500, 3) := by decide +kernel
theorem dX12_clause_192 : decode cX12_clause 192 = .ok (.istore 4, 2) := by decide +kernel
theorem dX12_clause_194 : decode cX12_clause 194 = .ok (.goto (-91), 3) := by decide +kernel
theorem dX12_clause_197 : decode cX12_clause 197 = .ok (.return_, 1) := by decide +kernel
theorem okX12_clause : ab_okM MX12_clause 2 := ⟨by decide, ⟨by decide, by decide⟩, ab_in 2474 (by decide +kernel) (by decide +kernel), ab_in 99 (by decide +kernel) (by decide +kernel), by decide +kernel, by decide⟩
set_option maxHeartbeats 4000000 in
set_option maxRecDepth 100000 in
theorem sX12_clause_185 (v3 : Int32)  (x : ab_X) (K : ab_X → Prop) (L103 : Int32 → ab_X → Prop) (d bc bs : Nat) (hdp : 208 ≤ d) (hL103 : ∀ (v4 : Int32) (x : ab_X), L103 v4 x → EW MX12_clause 103 [(0, .ref 246), (3, .int v3), (4, .int v4)] [] (aS x) d bc bs (liV K)) (h : wX12_clause_185 v3 x K L103) : EW MX12_clause 185 [(0, .ref 246), (3, .int v3)] [] (aS x) d bc bs (liV K) := by
  unfold wX12_clause_185 at h
  refine EW_aload_n (pc2 := 186) rfl dX12_clause_185 0 rfl ?_
  refine AW_invV (M' := MX12_look) [] (rest := []) mlRX12_442 okX12_look (pc2 := 189) rfl dX12_clause_186 rfl rfl (Nat.le_of_ble_eq_true rfl) (Nat.le_of_ble_eq_true rfl) (d' := 0) (by omega) q246 ⟨by decide, rfl⟩ (EW_mono (fun _ _ hr => ?_) (sX12_look   x _ _ 0 0 (Nat.le_refl _) h))
  obtain ⟨r20, x21, rfl, rfl, h⟩ := hr
  refine AW_invS (M' := MX12_actionOf) [.int r20] (rest := []) mlRX12_500 okX12_actionOf (pc2 := 192) rfl dX12_clause_189 rfl rfl (Nat.le_of_ble_eq_true rfl) (Nat.le_of_ble_eq_true rfl) (d' := 0) (by omega) (EW_mono (fun _ _ hr => ?_) (sX12_actionOf r20  x21 _ _ 0 0 (Nat.le_refl _) h))
  obtain ⟨r22, rfl, rfl, h⟩ := hr
  refine EW_istore (pc2 := 194) rfl dX12_clause_192 (by decide) [1, 2, 0] [(0, .ref 246), (3, .int v3), (4, .int r22)] rfl ?_
  refine EW_goto (tgt := 103) dX12_clause_194 (by decide) ?_
  exact hL103 r22 x21 h
set_option maxHeartbeats 4000000 in
set_option maxRecDepth 100000 in
theorem sX12_clause_103 (v3 : Int32) (v4 : Int32)  (x : ab_X) (K : ab_X → Prop)  (d bc bs : Nat) (hdp : 208 ≤ d)  (h : Lp2 (lX12_clause_103 v3 K ) v4 x) : EW MX12_clause 103 [(0, .ref 246), (3, .int v3), (4, .int v4)] [] (aS x) d bc bs (liV K) := by
  refine Lp2.use (P := fun v4 x => EW MX12_clause 103 [(0, .ref 246), (3, .int v3), (4, .int v4)] [] (aS x) d bc bs (liV K)) (fun L103 v4 x hL103 h => ?_) v4 x h
  unfold lX12_clause_103 at h
  refine EW_aload_n (pc2 := 104) rfl dX12_clause_103 0 rfl ?_
  refine AW_geti ⟨gfRX12_432, rfl⟩ (pc2 := 107) rfl dX12_clause_104 q246 ?_
  refine EW_iconst (pc2 := 108) (v := (-1)) rfl dX12_clause_107 (by decide) ?_
  refine EW_icmp_ne (tgt := 197) (pc2 := 111) rfl dX12_clause_108 (by decide) (fun q => ?_) (fun q => ?_)
  · replace h := h.1 q
    exact EW_vret rfl dX12_clause_197 ⟨_, rfl, rfl, h⟩
  · replace h := h.2 q
    refine EW_iload (pc2 := 113) rfl dX12_clause_111 2 rfl ?_
    refine EW_iconst (pc2 := 114) (v := (-1)) rfl dX12_clause_113 (by decide) ?_
    refine EW_icmp_eq (tgt := 197) (pc2 := 117) rfl dX12_clause_114 (by decide) (fun q => ?_) (fun q => ?_)
    · replace h := h.1 q
      exact EW_vret rfl dX12_clause_197 ⟨_, rfl, rfl, h⟩
    · replace h := h.2 q
      refine EW_aload_n (pc2 := 118) rfl dX12_clause_117 0 rfl ?_
      refine EW_dup (pc2 := 119) rfl dX12_clause_118 rfl ?_
      refine AW_geti ⟨gfRX12_423, rfl⟩ (pc2 := 122) rfl dX12_clause_119 q246 ?_
      refine EW_iconst (pc2 := 123) (v := 1) rfl dX12_clause_122 (by decide) ?_
      refine EW_iadd (pc2 := 124) rfl dX12_clause_123 ?_
      refine AW_puti ⟨gfRX12_423, rfl, rfl⟩ (pc2 := 127) rfl dX12_clause_124 q246 ?_
      refine EW_aload_n (pc2 := 128) rfl dX12_clause_127 0 rfl ?_
      refine AW_invV (M' := MX12_look) [] (rest := []) mlRX12_442 okX12_look (pc2 := 131) rfl dX12_clause_128 rfl rfl (Nat.le_of_ble_eq_true rfl) (Nat.le_of_ble_eq_true rfl) (d' := 0) (by omega) q246 ⟨by decide, rfl⟩ (EW_mono (fun _ _ hr => ?_) (sX12_look   (wr x 246 80 ((x.1 246 80) + 1)) _ _ 0 0 (Nat.le_refl _) h))
      obtain ⟨r13, x14, rfl, rfl, h⟩ := hr
      refine EW_istore (pc2 := 133) rfl dX12_clause_131 (by decide) [1, 2, 3, 0] [(0, .ref 246), (3, .int v3), (4, .int v4), (5, .int r13)] rfl ?_
      refine EW_aload_n (pc2 := 134) rfl dX12_clause_133 0 rfl ?_
      refine AW_invV (M' := MX12_isDigit) [] (rest := []) mlRX12_446 okX12_isDigit (pc2 := 137) rfl dX12_clause_134 rfl rfl (Nat.le_of_ble_eq_true rfl) (Nat.le_of_ble_eq_true rfl) (d' := 0) (by omega) q246 ⟨by decide, rfl⟩ (EW_mono (fun _ _ hr => ?_) (sX12_isDigit   x14 _ _ 0 0 (Nat.le_refl _) h))
      obtain ⟨r15, rfl, rfl, h⟩ := hr
      refine EW_if_ne (tgt := 146) (pc2 := 140) rfl dX12_clause_137 (by decide) (fun q => ?_) (fun q => ?_)
      · replace h := h.1 q
        refine EW_aload_n (pc2 := 147) rfl dX12_clause_146 0 rfl ?_
        refine EW_dup (pc2 := 148) rfl dX12_clause_147 rfl ?_
        refine AW_geti ⟨gfRX12_423, rfl⟩ (pc2 := 151) rfl dX12_clause_148 q246 ?_
        refine EW_iconst (pc2 := 152) (v := 1) rfl dX12_clause_151 (by decide) ?_
        refine EW_iadd (pc2 := 153) rfl dX12_clause_152 ?_
        refine AW_puti ⟨gfRX12_423, rfl, rfl⟩ (pc2 := 156) rfl dX12_clause_153 q246 ?_
        refine EW_iload_n (pc2 := 157) rfl dX12_clause_156 1 rfl ?_
        refine EW_if_eq (tgt := 185) (pc2 := 160) rfl dX12_clause_157 (by decide) (fun q => ?_) (fun q => ?_)
        · replace h := h.1 q
          refine EW_ls [0, 1] rfl ?_
          exact sX12_clause_185 v3 (wr x14 246 80 ((x14.1 246 80) + 1)) K L103 d bc bs hdp hL103 h
        · replace h := h.2 q
          refine EW_aload_n (pc2 := 161) rfl dX12_clause_160 0 rfl ?_
          refine AW_getr (r := 308) ⟨gfRX12_195, rfl⟩ (pc2 := 164) rfl dX12_clause_161 q246 rfl ?_
          refine EW_iload (pc2 := 166) rfl dX12_clause_164 2 rfl ?_
          refine EW_bipush (pc2 := 168) (v := 9) rfl dX12_clause_166 (by decide) ?_
          refine EW_aload_n (pc2 := 169) rfl dX12_clause_168 0 rfl ?_
          refine AW_getr (r := 308) ⟨gfRX12_195, rfl⟩ (pc2 := 172) rfl dX12_clause_169 q246 rfl ?_
          refine EW_iload (pc2 := 174) rfl dX12_clause_172 2 rfl ?_
          obtain ⟨b16, h⟩ := h
          refine AW_iald (pc2 := 175) rfl dX12_clause_174 q308 b16 ?_
          refine EW_iload (pc2 := 177) rfl dX12_clause_175 3 rfl ?_
          refine EW_iadd (pc2 := 178) rfl dX12_clause_177 ?_
          refine EW_bipush (pc2 := 180) (v := 48) rfl dX12_clause_178 (by decide) ?_
          refine EW_isub (pc2 := 181) rfl dX12_clause_180 ?_
          refine AW_mmin mmRX12_311 (pc2 := 184) rfl dX12_clause_181 (Nat.le_of_ble_eq_true rfl) (by omega) ?_
          obtain ⟨b17, h⟩ := h
          refine AW_iast (pc2 := 185) rfl dX12_clause_184 q308 b17 ?_
          refine EW_ls [0, 1] rfl ?_
          exact sX12_clause_185 v3 (wr (wr x14 246 80 ((x14.1 246 80) + 1)) 308 (Int32.toNatClampNeg v4) (imin 9 ((((wr x14 246 80 ((x14.1 246 80) + 1)).1 308 (Int32.toNatClampNeg v4)) + r13) - 48))) K L103 d bc bs hdp hL103 h
      · replace h := h.2 q
        refine EW_aload_n (pc2 := 141) rfl dX12_clause_140 0 rfl ?_
        refine AW_invV (M' := MX12_stop) [] (rest := []) mlRX12_438 okX12_stop (pc2 := 144) rfl dX12_clause_141 rfl rfl (Nat.le_of_ble_eq_true rfl) (Nat.le_of_ble_eq_true rfl) (d' := 0) (by omega) q246 ⟨by decide, rfl⟩ (EW_mono (fun _ _ hr => ?_) (sX12_stop   x14 _ _ 0 0 (Nat.le_refl _) h))
        obtain ⟨r18, x19, rfl, rfl, h⟩ := hr
        refine EW_pop (pc2 := 145) rfl dX12_clause_144 rfl ?_
        exact EW_vret rfl dX12_clause_145 ⟨_, rfl, rfl, h⟩
set_option maxHeartbeats 4000000 in
set_option maxRecDepth 100000 in
theorem sX12_clause_37 (v1 : Int32) (v3 : Int32)  (x : ab_X) (K : ab_X → Prop)  (d bc bs : Nat) (hdp : 208 ≤ d)  (h : wX12_clause_37 v1 v3 x K ) : EW MX12_clause 37 [(0, .ref 246), (1, .int v1), (3, .int v3)] [] (aS x) d bc bs (liV K) := by
  unfold wX12_clause_37 at h
  refine EW_iload_n (pc2 := 38) rfl dX12_clause_37 1 rfl ?_
  refine EW_if_eq (tgt := 83) (pc2 := 41) rfl dX12_clause_38 (by decide) (fun q => ?_) (fun q => ?_)
  · replace h := h.1 q
    refine EW_aload_n (pc2 := 84) rfl dX12_clause_83 0 rfl ?_
    refine AW_invV (M' := MX12_look) [] (rest := []) mlRX12_442 okX12_look (pc2 := 87) rfl dX12_clause_84 rfl rfl (Nat.le_of_ble_eq_true rfl) (Nat.le_of_ble_eq_true rfl) (d' := 0) (by omega) q246 ⟨by decide, rfl⟩ (EW_mono (fun _ _ hr => ?_) (sX12_look   x _ _ 0 0 (Nat.le_refl _) h))
    obtain ⟨r5, x6, rfl, rfl, h⟩ := hr
    refine AW_invS (M' := MX12_actionOf) [.int r5] (rest := []) mlRX12_500 okX12_actionOf (pc2 := 90) rfl dX12_clause_87 rfl rfl (Nat.le_of_ble_eq_true rfl) (Nat.le_of_ble_eq_true rfl) (d' := 0) (by omega) (EW_mono (fun _ _ hr => ?_) (sX12_actionOf r5  x6 _ _ 0 0 (Nat.le_refl _) h))
    obtain ⟨r7, rfl, rfl, h⟩ := hr
    refine EW_istore (pc2 := 92) rfl dX12_clause_90 (by decide) [1, 2, 3, 0] [(0, .ref 246), (1, .int v1), (3, .int v3), (4, .int r7)] rfl ?_
    refine EW_iload (pc2 := 94) rfl dX12_clause_92 3 rfl ?_
    refine EW_iconst (pc2 := 95) (v := (-1)) rfl dX12_clause_94 (by decide) ?_
    refine EW_icmp_ne (tgt := 103) (pc2 := 98) rfl dX12_clause_95 (by decide) (fun q => ?_) (fun q => ?_)
    · replace h := h.1 q
      refine EW_ls [0, 2, 3] rfl ?_
      exact sX12_clause_103 v3 r7 x6 K d bc bs hdp h
    · replace h := h.2 q
      refine EW_aload_n (pc2 := 99) rfl dX12_clause_98 0 rfl ?_
      refine AW_invV (M' := MX12_stop) [] (rest := []) mlRX12_438 okX12_stop (pc2 := 102) rfl dX12_clause_99 rfl rfl (Nat.le_of_ble_eq_true rfl) (Nat.le_of_ble_eq_true rfl) (d' := 0) (by omega) q246 ⟨by decide, rfl⟩ (EW_mono (fun _ _ hr => ?_) (sX12_stop   x6 _ _ 0 0 (Nat.le_refl _) h))
      obtain ⟨r8, x9, rfl, rfl, h⟩ := hr
      refine EW_pop (pc2 := 103) rfl dX12_clause_102 rfl ?_
      refine EW_ls [0, 2, 3] rfl ?_
      exact sX12_clause_103 v3 r7 x9 K d bc bs hdp h
  · replace h := h.2 q
    refine EW_aload_n (pc2 := 42) rfl dX12_clause_41 0 rfl ?_
    refine EW_iconst (pc2 := 43) (v := 3) rfl dX12_clause_42 (by decide) ?_
    refine AW_invV (M' := MX12_number) [.int 3] (rest := []) mlRX12_463 okX12_number (pc2 := 46) rfl dX12_clause_43 rfl rfl (Nat.le_of_ble_eq_true rfl) (Nat.le_of_ble_eq_true rfl) (d' := 1) (by omega) q246 ⟨by decide, rfl⟩ (EW_mono (fun _ _ hr => ?_) (sX12_number 3  x _ _ 0 0 (Nat.le_refl _) h))
    obtain ⟨r10, x11, rfl, rfl, h⟩ := hr
    refine EW_istore (pc2 := 48) rfl dX12_clause_46 (by decide) [1, 2, 3, 0] [(0, .ref 246), (1, .int v1), (3, .int v3), (4, .int r10)] rfl ?_
    refine EW_aload_n (pc2 := 49) rfl dX12_clause_48 0 rfl ?_
    refine AW_geti ⟨gfRX12_432, rfl⟩ (pc2 := 52) rfl dX12_clause_49 q246 ?_
    refine EW_iconst (pc2 := 53) (v := (-1)) rfl dX12_clause_52 (by decide) ?_
    refine EW_icmp_ne (tgt := 60) (pc2 := 56) rfl dX12_clause_53 (by decide) (fun q => ?_) (fun q => ?_)
    · replace h := h.1 q
      exact EW_vret rfl dX12_clause_60 ⟨_, rfl, rfl, h⟩
    · replace h := h.2 q
      refine EW_iload_n (pc2 := 57) rfl dX12_clause_56 2 rfl ?_
      refine EW_if_ne (tgt := 61) (pc2 := 60) rfl dX12_clause_57 (by decide) (fun q => ?_) (fun q => ?_)
      · replace h := h.1 q
        refine EW_aload_n (pc2 := 62) rfl dX12_clause_61 0 rfl ?_
        refine AW_getr (r := 309) ⟨gfRX12_198, rfl⟩ (pc2 := 65) rfl dX12_clause_62 q246 rfl ?_
        refine EW_aload_n (pc2 := 66) rfl dX12_clause_65 0 rfl ?_
        refine AW_geti ⟨gfRX12_497, rfl⟩ (pc2 := 69) rfl dX12_clause_66 q246 ?_
        refine EW_iload (pc2 := 71) rfl dX12_clause_69 3 rfl ?_
        obtain ⟨b12, h⟩ := h
        refine AW_iast (pc2 := 72) rfl dX12_clause_71 q309 b12 ?_
        refine EW_aload_n (pc2 := 73) rfl dX12_clause_72 0 rfl ?_
        refine EW_dup (pc2 := 74) rfl dX12_clause_73 rfl ?_
        refine AW_geti ⟨gfRX12_497, rfl⟩ (pc2 := 77) rfl dX12_clause_74 q246 ?_
        refine EW_iconst (pc2 := 78) (v := 1) rfl dX12_clause_77 (by decide) ?_
        refine EW_iadd (pc2 := 79) rfl dX12_clause_78 ?_
        refine AW_puti ⟨gfRX12_497, rfl, rfl⟩ (pc2 := 82) rfl dX12_clause_79 q246 ?_
        exact EW_vret rfl dX12_clause_82 ⟨_, rfl, rfl, h⟩
      · replace h := h.2 q
        exact EW_vret rfl dX12_clause_60 ⟨_, rfl, rfl, h⟩
set_option maxHeartbeats 4000000 in
set_option maxRecDepth 100000 in
theorem sX12_clause (v1 : Int32) (v2 : Int32)  (x : ab_X) (K : ab_X → Prop) (d bc bs : Nat) (hdp : 208 ≤ d) (h : wX12_clause v1 v2 x K) : EW MX12_clause 0 [(0, .ref 246), (1, .int v1), (2, .int v2)] [] (aS x) d bc bs (liV K) := by
  unfold wX12_clause at h
  refine EW_aload_n (pc2 := 1) rfl dX12_clause_0 0 rfl ?_
  refine AW_invV (M' := MX12_condition) [] (rest := []) mlRX12_488 okX12_condition (pc2 := 4) rfl dX12_clause_1 rfl rfl (Nat.le_of_ble_eq_true rfl) (Nat.le_of_ble_eq_true rfl) (d' := 207) (by omega) q246 ⟨by decide, rfl⟩ (EW_mono (fun _ _ hr => ?_) (sX12_condition   x _ _ 0 0 (Nat.le_refl _) h))
  obtain ⟨r1, x2, rfl, rfl, h⟩ := hr
  refine EW_istore_n (pc2 := 5) rfl dX12_clause_4 (by decide) [1, 2, 3, 0] [(0, .ref 246), (1, .int v1), (2, .int v2), (3, .int r1)] rfl ?_
  refine EW_aload_n (pc2 := 6) rfl dX12_clause_5 0 rfl ?_
  refine EW_bipush (pc2 := 8) (v := 63) rfl dX12_clause_6 (by decide) ?_
  refine AW_invV (M' := MX12_takes) [.int 63] (rest := []) mlRX12_472 okX12_takes (pc2 := 11) rfl dX12_clause_8 rfl rfl (Nat.le_of_ble_eq_true rfl) (Nat.le_of_ble_eq_true rfl) (d' := 1) (by omega) q246 ⟨by decide, rfl⟩ (EW_mono (fun _ _ hr => ?_) (sX12_takes 63  x2 _ _ 0 0 (Nat.le_refl _) h))
  obtain ⟨r3, x4, rfl, rfl, h⟩ := hr
  refine EW_if_ne (tgt := 15) (pc2 := 14) rfl dX12_clause_11 (by decide) (fun q => ?_) (fun q => ?_)
  · replace h := h.1 q
    refine EW_iload_n (pc2 := 16) rfl dX12_clause_15 3 rfl ?_
    refine EW_if_eq (tgt := 37) (pc2 := 19) rfl dX12_clause_16 (by decide) (fun q => ?_) (fun q => ?_)
    · replace h := h.1 q
      refine EW_ls [0, 1, 3] rfl ?_
      exact sX12_clause_37 v1 r1 x4 K d bc bs hdp h
    · replace h := h.2 q
      refine EW_iload_n (pc2 := 20) rfl dX12_clause_19 2 rfl ?_
      refine EW_bipush (pc2 := 22) (v := 30) rfl dX12_clause_20 (by decide) ?_
      refine EW_icmp_ge (tgt := 37) (pc2 := 25) rfl dX12_clause_22 (by decide) (fun q => ?_) (fun q => ?_)
      · replace h := h.1 q
        refine EW_ls [0, 1, 3] rfl ?_
        exact sX12_clause_37 v1 r1 x4 K d bc bs hdp h
      · replace h := h.2 q
        refine EW_aload_n (pc2 := 26) rfl dX12_clause_25 0 rfl ?_
        refine EW_dup (pc2 := 27) rfl dX12_clause_26 rfl ?_
        refine AW_geti ⟨gfRX12_494, rfl⟩ (pc2 := 30) rfl dX12_clause_27 q246 ?_
        refine EW_iconst (pc2 := 31) (v := 1) rfl dX12_clause_30 (by decide) ?_
        refine EW_iload_n (pc2 := 32) rfl dX12_clause_31 2 rfl ?_
        refine EW_ishl (pc2 := 33) rfl dX12_clause_32 ?_
        refine EW_ior (pc2 := 34) rfl dX12_clause_33 ?_
        refine AW_puti ⟨gfRX12_494, rfl, rfl⟩ (pc2 := 37) rfl dX12_clause_34 q246 ?_
        refine EW_ls [0, 1, 3] rfl ?_
        exact sX12_clause_37 v1 r1 (wr x4 246 75 ((x4.1 246 75) ||| (1 <<< (v2 &&& 31)))) K d bc bs hdp h
  · replace h := h.2 q
    exact EW_vret rfl dX12_clause_14 ⟨_, rfl, rfl, h⟩
