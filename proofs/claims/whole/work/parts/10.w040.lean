theorem mlRX12_466 : Cond.methodLink RX12 466 yX12_goesIn ∈ ab_G ∧ Cond.instanceMethod yX12_goesIn ∈ ab_G ∧ Cond.selects RX12 yX12_goesIn yX12_goesIn ∈ ab_G := ⟨ab_in 2431 (by decide +kernel) (by decide +kernel), ab_in 2433 (by decide +kernel) (by decide +kernel), ab_in 40 (by decide +kernel) (by decide +kernel)⟩
theorem mlRX12_469 : Cond.methodLink RX12 469 yX12_sums ∈ ab_G ∧ Cond.instanceMethod yX12_sums ∈ ab_G ∧ Cond.selects RX12 yX12_sums yX12_sums ∈ ab_G := ⟨ab_in 2443 (by decide +kernel) (by decide +kernel), ab_in 2445 (by decide +kernel) (by decide +kernel), ab_in 43 (by decide +kernel) (by decide +kernel)⟩
theorem mlRX12_472 : Cond.methodLink RX12 472 yX12_takes ∈ ab_G ∧ Cond.instanceMethod yX12_takes ∈ ab_G ∧ Cond.selects RX12 yX12_takes yX12_takes ∈ ab_G := ⟨ab_in 2439 (by decide +kernel) (by decide +kernel), ab_in 2441 (by decide +kernel) (by decide +kernel), ab_in 42 (by decide +kernel) (by decide +kernel)⟩
theorem mlRX12_463 : Cond.methodLink RX12 463 yX12_number ∈ ab_G ∧ Cond.instanceMethod yX12_number ∈ ab_G ∧ Cond.selects RX12 yX12_number yX12_number ∈ ab_G := ⟨ab_in 2456 (by decide +kernel) (by decide +kernel), ab_in 2458 (by decide +kernel) (by decide +kernel), ab_in 46 (by decide +kernel) (by decide +kernel)⟩
theorem gfRX12_210 : ab_L RX12 210 12 77 := ⟨by decide, by decide, ab_in 1926 (by decide +kernel) (by decide +kernel)⟩
theorem mlRX12_458 : Cond.methodLink RX12 458 yJ0_indexOf_0f7a4 ∈ ab_G ∧ Cond.instanceMethod yJ0_indexOf_0f7a4 ∈ ab_G ∧ Cond.selects RJ0 yJ0_indexOf_0f7a4 yJ0_indexOf_0f7a4 ∈ ab_G := ⟨ab_in 2455 (by decide +kernel) (by decide +kernel), ab_in 1232 (by decide +kernel) (by decide +kernel), ab_in 1233 (by decide +kernel) (by decide +kernel)⟩
theorem gfRX12_192 : ab_L RX12 192 12 67 := ⟨by decide, by decide, ab_in 1916 (by decide +kernel) (by decide +kernel)⟩
theorem mlRX12_478 : Cond.methodLink RX12 478 yX12_bound ∈ ab_G ∧ Cond.static yX12_bound ∈ ab_G := ⟨ab_in 2464 (by decide +kernel) (by decide +kernel), ab_in 2465 (by decide +kernel) (by decide +kernel)⟩
theorem mlRX12_482 : Cond.methodLink RX12 482 yX12_term ∈ ab_G ∧ Cond.instanceMethod yX12_term ∈ ab_G ∧ Cond.selects RX12 yX12_term yX12_term ∈ ab_G := ⟨ab_in 2447 (by decide +kernel) (by decide +kernel), ab_in 2449 (by decide +kernel) (by decide +kernel), ab_in 44 (by decide +kernel) (by decide +kernel)⟩
theorem mlRX12_475 : Cond.methodLink RX12 475 yX12_atom ∈ ab_G ∧ Cond.instanceMethod yX12_atom ∈ ab_G ∧ Cond.selects RX12 yX12_atom yX12_atom ∈ ab_G := ⟨ab_in 2451 (by decide +kernel) (by decide +kernel), ab_in 2453 (by decide +kernel) (by decide +kernel), ab_in 45 (by decide +kernel) (by decide +kernel)⟩
abbrev MX12_atom : ab_M := (yX12_atom, cX12_atom, 3, (some .int))
theorem dX12_atom_0 : decode cX12_atom 0 = .ok (.aload_n 0, 1) := by decide +kernel
theorem dX12_atom_1 : decode cX12_atom 1 = .ok (.invokevirtual 442, 3) := by decide +kernel
theorem dX12_atom_4 : decode cX12_atom 4 = .ok (.istore_n 1, 1) := by decide +kernel
theorem dX12_atom_5 : decode cX12_atom 5 = .ok (.iload_n 1, 1) := by decide +kernel
theorem dX12_atom_6 : decode cX12_atom 6 = .ok (.iconst (-1), 1) := by decide +kernel
theorem dX12_atom_7 : decode cX12_atom 7 = .ok (.if_icmp .eq 31, 3) := by decide +kernel
theorem dX12_atom_10 : decode cX12_atom 10 = .ok (.aload_n 0, 1) := by decide +kernel
theorem dX12_atom_11 : decode cX12_atom 11 = .ok (.getfield 210, 3) := by decide +kernel
theorem dX12_atom_14 : decode cX12_atom 14 = .ok (.iload_n 1, 1) := by decide +kernel
theorem dX12_atom_15 : decode cX12_atom 15 = .ok (.invokevirtual 458, 3) := by decide +kernel
theorem dX12_atom_18 : decode cX12_atom 18 = .ok (.ifCond .lt 20, 3) := by decide +kernel
theorem dX12_atom_21 : decode cX12_atom 21 = .ok (.aload_n 0, 1) := by decide +kernel
theorem dX12_atom_22 : decode cX12_atom 22 = .ok (.dup, 1) := by decide +kernel
theorem dX12_atom_23 : decode cX12_atom 23 = .ok (.getfield 423, 3) := by decide +kernel
theorem dX12_atom_26 : decode cX12_atom 26 = .ok (.iconst 1, 1) := by decide +kernel
theorem dX12_atom_27 : decode cX12_atom 27 = .ok (.iadd, 1) := by decide +kernel
theorem dX12_atom_28 : decode cX12_atom 28 = .ok (.putfield 423, 3) := by decide +kernel
theorem dX12_atom_31 : decode cX12_atom 31 = .ok (.aload_n 0, 1) := by decide +kernel
theorem dX12_atom_32 : decode cX12_atom 32 = .ok (.getfield 192, 3) := by decide +kernel
theorem dX12_atom_35 : decode cX12_atom 35 = .ok (.iload_n 1, 1) := by decide +kernel
theorem dX12_atom_36 : decode cX12_atom 36 = .ok (.iaload, 1) := by decide +kernel
theorem dX12_atom_37 : decode cX12_atom 37 = .ok (.ireturn, 1) := by decide +kernel
theorem dX12_atom_38 : decode cX12_atom 38 = .ok (.iload_n 1, 1) := by decide +kernel
theorem dX12_atom_39 : decode cX12_atom 39 = .ok (.bipush 91, 2) := by decide +kernel
theorem dX12_atom_41 : decode cX12_atom 41 = .ok (.if_icmp .eq 9, 3) := by decide +kernel
theorem dX12_atom_44 : decode cX12_atom 44 = .ok (.aload_n 0, 1) := by decide +kernel
theorem dX12_atom_45 : decode cX12_atom 45 = .ok (.iconst 4, 1) := by decide +kernel
theorem dX12_atom_46 : decode cX12_atom 46 = .ok (.invokevirtual 463, 3) := by decide +kernel
theorem dX12_atom_49 : decode cX12_atom 49 = .ok (.ireturn, 1) := by decide +kernel
theorem dX12_atom_50 : decode cX12_atom 50 = .ok (.aload_n 0, 1) := by decide +kernel
theorem dX12_atom_51 : decode cX12_atom 51 = .ok (.invokevirtual 466, 3) := by decide +kernel
theorem dX12_atom_54 : decode cX12_atom 54 = .ok (.ifCond .ne 5, 3) := by decide +kernel
theorem dX12_atom_57 : decode cX12_atom 57 = .ok (.iconst 0, 1) := by decide +kernel
theorem dX12_atom_58 : decode cX12_atom 58 = .ok (.ireturn, 1) := by decide +kernel
theorem dX12_atom_59 : decode cX12_atom 59 = .ok (.aload_n 0, 1) := by decide +kernel
theorem dX12_atom_60 : decode cX12_atom 60 = .ok (.invokevirtual 469, 3) := by decide +kernel
theorem dX12_atom_63 : decode cX12_atom 63 = .ok (.istore_n 2, 1) := by decide +kernel
theorem dX12_atom_64 : decode cX12_atom 64 = .ok (.aload_n 0, 1) := by decide +kernel
theorem dX12_atom_65 : decode cX12_atom 65 = .ok (.bipush 93, 2) := by decide +kernel
theorem dX12_atom_67 : decode cX12_atom 67 = .ok (.invokevirtual 472, 3) := by decide +kernel
theorem dX12_atom_70 : decode cX12_atom 70 = .ok (.ifCond .ne 5, 3) := by decide +kernel
theorem dX12_atom_73 : decode cX12_atom 73 = .ok (.iconst 0, 1) := by decide +kernel
theorem dX12_atom_74 : decode cX12_atom 74 = .ok (.ireturn, 1) := by decide +kernel
theorem dX12_atom_75 : decode cX12_atom 75 = .ok (.aload_n 0, 1) := by decide +kernel
theorem dX12_atom_76 : decode cX12_atom 76 = .ok (.dup, 1) := by decide +kernel
theorem dX12_atom_77 : decode cX12_atom 77 = .ok (.getfield 435, 3) := by decide +kernel
theorem dX12_atom_80 : decode cX12_atom 80 = .ok (.iconst 1, 1) := by decide +kernel
theorem dX12_atom_81 : decode cX12_atom 81 = .ok (.isub, 1) := by decide +kernel
theorem dX12_atom_82 : decode cX12_atom 82 = .ok (.putfield 435, 3) := by decide +kernel
theorem dX12_atom_85 : decode cX12_atom 85 = .ok (.iload_n 2, 1) := by decide +kernel
theorem dX12_atom_86 : decode cX12_atom 86 = .ok (.ireturn, 1) := by decide +kernel
theorem okX12_atom : ab_okM MX12_atom 0 := ⟨by decide, ⟨by decide, by decide⟩, ab_in 2454 (by decide +kernel) (by decide +kernel), ab_in 99 (by decide +kernel) (by decide +kernel), by decide +kernel, by decide⟩
abbrev MX12_sums : ab_M := (yX12_sums, cX12_sums, 5, (some .int))
theorem dX12_sums_0 : decode cX12_sums 0 = .ok (.aload_n 0, 1) := by decide +kernel
theorem dX12_sums_1 : decode cX12_sums 1 = .ok (.invokevirtual 482, 3) := by decide +kernel
theorem dX12_sums_4 : decode cX12_sums 4 = .ok (.istore_n 1, 1) := by decide +kernel
theorem dX12_sums_5 : decode cX12_sums 5 = .ok (.aload_n 0, 1) := by decide +kernel
theorem dX12_sums_6 : decode cX12_sums 6 = .ok (.getfield 432, 3) := by decide +kernel
theorem dX12_sums_9 : decode cX12_sums 9 = .ok (.iconst (-1), 1) := by decide +kernel
theorem dX12_sums_10 : decode cX12_sums 10 = .ok (.if_icmp .ne 74, 3) := by decide +kernel
theorem dX12_sums_13 : decode cX12_sums 13 = .ok (.aload_n 0, 1) := by decide +kernel
theorem dX12_sums_14 : decode cX12_sums 14 = .ok (.invokevirtual 442, 3) := by decide +kernel
theorem dX12_sums_17 : decode cX12_sums 17 = .ok (.bipush 43, 2) := by decide +kernel
theorem dX12_sums_19 : decode cX12_sums 19 = .ok (.if_icmp .eq 12, 3) := by decide +kernel
theorem dX12_sums_22 : decode cX12_sums 22 = .ok (.aload_n 0, 1) := by decide +kernel
theorem dX12_sums_23 : decode cX12_sums 23 = .ok (.invokevirtual 442, 3) := by decide +kernel
theorem dX12_sums_26 : decode cX12_sums 26 = .ok (.bipush 45, 2) := by decide +kernel
theorem dX12_sums_28 : decode cX12_sums 28 = .ok (.if_icmp .ne 56, 3) := by decide +kernel
theorem dX12_sums_31 : decode cX12_sums 31 = .ok (.aload_n 0, 1) := by decide +kernel
theorem dX12_sums_32 : decode cX12_sums 32 = .ok (.invokevirtual 442, 3) := by decide +kernel
theorem dX12_sums_35 : decode cX12_sums 35 = .ok (.bipush 43, 2) := by decide +kernel
theorem dX12_sums_37 : decode cX12_sums 37 = .ok (.if_icmp .ne 7, 3) := by decide +kernel
theorem dX12_sums_40 : decode cX12_sums 40 = .ok (.iconst 1, 1) := by decide +kernel
theorem dX12_sums_41 : decode cX12_sums 41 = .ok (.goto 4, 3) := by decide +kernel
theorem dX12_sums_44 : decode cX12_sums 44 = .ok (.iconst 0, 1) := by decide +kernel
theorem dX12_sums_45 : decode cX12_sums 45 = .ok (.istore_n 2, 1) := by decide +kernel
theorem dX12_sums_46 : decode cX12_sums 46 = .ok (.aload_n 0, 1) := by decide +kernel
theorem dX12_sums_47 : decode cX12_sums 47 = .ok (.dup, 1) := by decide +kernel
theorem dX12_sums_48 : decode cX12_sums 48 = .ok (.getfield 423, 3) := by decide +kernel
theorem dX12_sums_51 : decode cX12_sums 51 = .ok (.iconst 1, 1) := by decide +kernel
theorem dX12_sums_52 : decode cX12_sums 52 = .ok (.iadd, 1) := by decide +kernel
theorem dX12_sums_53 : decode cX12_sums 53 = .ok (.putfield 423, 3) := by decide +kernel
theorem dX12_sums_56 : decode cX12_sums 56 = .ok (.aload_n 0, 1) := by decide +kernel
theorem dX12_sums_57 : decode cX12_sums 57 = .ok (.invokevirtual 482, 3) := by decide +kernel
theorem dX12_sums_60 : decode cX12_sums 60 = .ok (.i2l, 1) := by decide +kernel
theorem dX12_sums_61 : decode cX12_sums 61 = .ok (.lstore_n 3, 1) := by decide +kernel
theorem dX12_sums_62 : decode cX12_sums 62 = .ok (.iload_n 2, 1) := by decide +kernel
theorem dX12_sums_63 : decode cX12_sums 63 = .ok (.ifCond .eq 10, 3) := by decide +kernel
theorem dX12_sums_66 : decode cX12_sums 66 = .ok (.iload_n 1, 1) := by decide +kernel
theorem dX12_sums_67 : decode cX12_sums 67 = .ok (.i2l, 1) := by decide +kernel
theorem dX12_sums_68 : decode cX12_sums 68 = .ok (.lload_n 3, 1) := by decide +kernel
theorem dX12_sums_69 : decode cX12_sums 69 = .ok (.ladd, 1) := by decide +kernel
theorem dX12_sums_70 : decode cX12_sums 70 = .ok (.goto 7, 3) := by decide +kernel
theorem dX12_sums_73 : decode cX12_sums 73 = .ok (.iload_n 1, 1) := by decide +kernel
theorem dX12_sums_74 : decode cX12_sums 74 = .ok (.i2l, 1) := by decide +kernel
theorem dX12_sums_75 : decode cX12_sums 75 = .ok (.lload_n 3, 1) := by decide +kernel
theorem dX12_sums_76 : decode cX12_sums 76 = .ok (.lsub, 1) := by decide +kernel
theorem dX12_sums_77 : decode cX12_sums 77 = .ok (.invokestatic 478, 3) := by decide +kernel
theorem dX12_sums_80 : decode cX12_sums 80 = .ok (.istore_n 1, 1) := by decide +kernel
theorem dX12_sums_81 : decode cX12_sums 81 = .ok (.goto (-76), 3) := by decide +kernel
theorem dX12_sums_84 : decode cX12_sums 84 = .ok (.iload_n 1, 1) := by decide +kernel
theorem dX12_sums_85 : decode cX12_sums 85 = .ok (.ireturn, 1) := by decide +kernel
theorem okX12_sums : ab_okM MX12_sums 0 := ⟨by decide, ⟨by decide, by decide⟩, ab_in 2446 (by decide +kernel) (by decide +kernel), ab_in 99 (by decide +kernel) (by decide +kernel), by decide +kernel, by decide⟩
abbrev MX12_term : ab_M := (yX12_term, cX12_term, 4, (some .int))
theorem dX12_term_0 : decode cX12_term 0 = .ok (.aload_n 0, 1) := by decide +kernel
theorem dX12_term_1 : decode cX12_term 1 = .ok (.invokevirtual 475, 3) := by decide +kernel
theorem dX12_term_4 : decode cX12_term 4 = .ok (.istore_n 1, 1) := by decide +kernel
theorem dX12_term_5 : decode cX12_term 5 = .ok (.aload_n 0, 1) := by decide +kernel
theorem dX12_term_6 : decode cX12_term 6 = .ok (.getfield 432, 3) := by decide +kernel
theorem dX12_term_9 : decode cX12_term 9 = .ok (.iconst (-1), 1) := by decide +kernel
theorem dX12_term_10 : decode cX12_term 10 = .ok (.if_icmp .ne 39, 3) := by decide +kernel
theorem dX12_term_13 : decode cX12_term 13 = .ok (.aload_n 0, 1) := by decide +kernel
theorem dX12_term_14 : decode cX12_term 14 = .ok (.invokevirtual 442, 3) := by decide +kernel
theorem dX12_term_17 : decode cX12_term 17 = .ok (.bipush 42, 2) := by decide +kernel
theorem dX12_term_19 : decode cX12_term 19 = .ok (.if_icmp .ne 30, 3) := by decide +kernel
theorem dX12_term_22 : decode cX12_term 22 = .ok (.aload_n 0, 1) := by decide +kernel
theorem dX12_term_23 : decode cX12_term 23 = .ok (.dup, 1) := by decide +kernel
theorem dX12_term_24 : decode cX12_term 24 = .ok (.getfield 423, 3) := by decide +kernel
theorem dX12_term_27 : decode cX12_term 27 = .ok (.iconst 1, 1) := by decide +kernel
theorem dX12_term_28 : decode cX12_term 28 = .ok (.iadd, 1) := by decide +kernel
theorem dX12_term_29 : decode cX12_term 29 = .ok (.putfield 423, 3) := by decide +kernel
theorem dX12_term_32 : decode cX12_term 32 = .ok (.aload_n 0, 1) := by decide +kernel
theorem dX12_term_33 : decode cX12_term 33 = .ok (.invokevirtual 475, 3) := by decide +kernel
theorem dX12_term_36 : decode cX12_term 36 = .ok (.i2l, 1) := by decide +kernel
theorem dX12_term_37 : decode cX12_term 37 = .ok (.lstore_n 2, 1) := by decide +kernel
theorem dX12_term_38 : decode cX12_term 38 = .ok (.iload_n 1, 1) := by decide +kernel
theorem dX12_term_39 : decode cX12_term 39 = .ok (.i2l, 1) := by decide +kernel
theorem dX12_term_40 : decode cX12_term 40 = .ok (.lload_n 2, 1) := by decide +kernel
theorem dX12_term_41 : decode cX12_term 41 = .ok (.lmul, 1) := by decide +kernel
theorem dX12_term_42 : decode cX12_term 42 = .ok (.invokestatic 478, 3) := by decide +kernel
theorem dX12_term_45 : decode cX12_term 45 = .ok (.istore_n 1, 1) := by decide +kernel
theorem dX12_term_46 : decode cX12_term 46 = .ok (.goto (-41), 3) := by decide +kernel
theorem dX12_term_49 : decode cX12_term 49 = .ok (.iload_n 1, 1) := by decide +kernel
theorem dX12_term_50 : decode cX12_term 50 = .ok (.ireturn, 1) := by decide +kernel
theorem okX12_term : ab_okM MX12_term 0 := ⟨by decide, ⟨by decide, by decide⟩, ab_in 2450 (by decide +kernel) (by decide +kernel), ab_in 99 (by decide +kernel) (by decide +kernel), by decide +kernel, by decide⟩
set_option maxHeartbeats 4000000 in
set_option maxRecDepth 100000 in
def wX12_atom_38 (RX12_atom : ab_X → (Int32 → ab_X → Prop) → Prop) (RX12_sums : ab_X → (Int32 → ab_X → Prop) → Prop) (RX12_term : ab_X → (Int32 → ab_X → Prop) → Prop) (v1 : Int32) (x : ab_X) (K : Int32 → ab_X → Prop)  : Prop := ((v1 = 91 → wX12_goesIn x (fun r6 x7 => ((¬ r6 = 0 → RX12_sums x7 (fun r8 x9 => wX12_takes 93 x9 (fun r10 x11 => ((¬ r10 = 0 → K r8 (wr x11 246 82 ((x11.1 246 82) - 1))) ∧ (r10 = 0 → K 0 x11))))) ∧ (r6 = 0 → K 0 x7)))) ∧ (¬ v1 = 91 → wX12_number 4 x (fun r12 x13 => K r12 x13)))
set_option maxHeartbeats 4000000 in
set_option maxRecDepth 100000 in
theorem sX12_atom_38 (RX12_atom : ab_X → (Int32 → ab_X → Prop) → Prop) (RX12_sums : ab_X → (Int32 → ab_X → Prop) → Prop) (RX12_term : ab_X → (Int32 → ab_X → Prop) → Prop) (v1 : Int32)  (x : ab_X) (K : Int32 → ab_X → Prop)  (d bc bs : Nat) (hdp : 4 ≤ d) (dr : Nat) (hRX12_atom : ∀   (x : ab_X) (K : Int32 → ab_X → Prop), RX12_atom  x K → EW MX12_atom 0 [(0, .ref 246)] [] (aS x) dr 0 0 (liI K)) (hRX12_sums : ∀   (x : ab_X) (K : Int32 → ab_X → Prop), RX12_sums  x K → EW MX12_sums 0 [(0, .ref 246)] [] (aS x) dr 0 0 (liI K)) (hRX12_term : ∀   (x : ab_X) (K : Int32 → ab_X → Prop), RX12_term  x K → EW MX12_term 0 [(0, .ref 246)] [] (aS x) dr 0 0 (liI K)) (hdr : dr + 1 ≤ d)  (h : wX12_atom_38 RX12_atom RX12_sums RX12_term v1 x K ) : EW MX12_atom 38 [(0, .ref 246), (1, .int v1)] [] (aS x) d bc bs (liI K) := by
  unfold wX12_atom_38 at h
  refine EW_iload_n (pc2 := 39) rfl dX12_atom_38 1 rfl ?_
  refine EW_bipush (pc2 := 41) (v := 91) rfl dX12_atom_39 (by decide) ?_
  refine EW_icmp_eq (tgt := 50) (pc2 := 44) rfl dX12_atom_41 (by decide) (fun q => ?_) (fun q => ?_)
  · replace h := h.1 q
    refine EW_aload_n (pc2 := 51) rfl dX12_atom_50 0 rfl ?_
    refine AW_invV (M' := MX12_goesIn) [] (rest := []) mlRX12_466 okX12_goesIn (pc2 := 54) rfl dX12_atom_51 rfl rfl (Nat.le_of_ble_eq_true rfl) (Nat.le_of_ble_eq_true rfl) (d' := 1) (by omega) q246 ⟨by decide, rfl⟩ (EW_mono (fun _ _ hr => ?_) (sX12_goesIn   x _ _ 0 0 (Nat.le_refl _) h))
    obtain ⟨r6, x7, rfl, rfl, h⟩ := hr
    refine EW_if_ne (tgt := 59) (pc2 := 57) rfl dX12_atom_54 (by decide) (fun q => ?_) (fun q => ?_)
    · replace h := h.1 q
      refine EW_aload_n (pc2 := 60) rfl dX12_atom_59 0 rfl ?_
      refine AW_invV (M' := MX12_sums) [] (rest := []) mlRX12_469 okX12_sums (pc2 := 63) rfl dX12_atom_60 rfl rfl (Nat.le_of_ble_eq_true rfl) (Nat.le_of_ble_eq_true rfl) (d' := dr) (by omega) q246 ⟨by decide, rfl⟩ (EW_mono (fun _ _ hr => ?_) (hRX12_sums   x7 _  h))
      obtain ⟨r8, x9, rfl, rfl, h⟩ := hr
      refine EW_istore_n (pc2 := 64) rfl dX12_atom_63 (by decide) [1, 2, 0] [(0, .ref 246), (1, .int v1), (2, .int r8)] rfl ?_
      refine EW_aload_n (pc2 := 65) rfl dX12_atom_64 0 rfl ?_
      refine EW_bipush (pc2 := 67) (v := 93) rfl dX12_atom_65 (by decide) ?_
      refine AW_invV (M' := MX12_takes) [.int 93] (rest := []) mlRX12_472 okX12_takes (pc2 := 70) rfl dX12_atom_67 rfl rfl (Nat.le_of_ble_eq_true rfl) (Nat.le_of_ble_eq_true rfl) (d' := 1) (by omega) q246 ⟨by decide, rfl⟩ (EW_mono (fun _ _ hr => ?_) (sX12_takes 93  x9 _ _ 0 0 (Nat.le_refl _) h))
      obtain ⟨r10, x11, rfl, rfl, h⟩ := hr
      refine EW_if_ne (tgt := 75) (pc2 := 73) rfl dX12_atom_70 (by decide) (fun q => ?_) (fun q => ?_)
      · replace h := h.1 q
        refine EW_aload_n (pc2 := 76) rfl dX12_atom_75 0 rfl ?_
        refine EW_dup (pc2 := 77) rfl dX12_atom_76 rfl ?_
        refine AW_geti ⟨gfRX12_435, rfl⟩ (pc2 := 80) rfl dX12_atom_77 q246 ?_
        refine EW_iconst (pc2 := 81) (v := 1) rfl dX12_atom_80 (by decide) ?_
        refine EW_isub (pc2 := 82) rfl dX12_atom_81 ?_
        refine AW_puti ⟨gfRX12_435, rfl, rfl⟩ (pc2 := 85) rfl dX12_atom_82 q246 ?_
        refine EW_iload_n (pc2 := 86) rfl dX12_atom_85 2 rfl ?_
        exact AW_iret rfl dX12_atom_86 ⟨_, _, rfl, rfl, h⟩
      · replace h := h.2 q
        refine EW_iconst (pc2 := 74) (v := 0) rfl dX12_atom_73 (by decide) ?_
        exact AW_iret rfl dX12_atom_74 ⟨_, _, rfl, rfl, h⟩
    · replace h := h.2 q
      refine EW_iconst (pc2 := 58) (v := 0) rfl dX12_atom_57 (by decide) ?_
      exact AW_iret rfl dX12_atom_58 ⟨_, _, rfl, rfl, h⟩
  · replace h := h.2 q
    refine EW_aload_n (pc2 := 45) rfl dX12_atom_44 0 rfl ?_
    refine EW_iconst (pc2 := 46) (v := 4) rfl dX12_atom_45 (by decide) ?_
    refine AW_invV (M' := MX12_number) [.int 4] (rest := []) mlRX12_463 okX12_number (pc2 := 49) rfl dX12_atom_46 rfl rfl (Nat.le_of_ble_eq_true rfl) (Nat.le_of_ble_eq_true rfl) (d' := 1) (by omega) q246 ⟨by decide, rfl⟩ (EW_mono (fun _ _ hr => ?_) (sX12_number 4  x _ _ 0 0 (Nat.le_refl _) h))
    obtain ⟨r12, x13, rfl, rfl, h⟩ := hr
    exact AW_iret rfl dX12_atom_49 ⟨_, _, rfl, rfl, h⟩
set_option maxHeartbeats 4000000 in
set_option maxRecDepth 100000 in
def bX12_atom (RX12_atom : ab_X → (Int32 → ab_X → Prop) → Prop) (RX12_sums : ab_X → (Int32 → ab_X → Prop) → Prop) (RX12_term : ab_X → (Int32 → ab_X → Prop) → Prop)  (x : ab_X) (K : Int32 → ab_X → Prop) : Prop := wX12_look x (fun r1 x2 => ((r1 = (-1) → wX12_atom_38 RX12_atom RX12_sums RX12_term r1 x2 K) ∧ (¬ r1 = (-1) → (isS x2.2.2.2.2.2 ∧ wJ0_indexOf_0f7a4 x2.2.2.2.2.2 r1 x2 (fun r4 => ((r4 < 0 → wX12_atom_38 RX12_atom RX12_sums RX12_term r1 x2 K) ∧ (¬ r4 < 0 → (vp_in r1 128 ∧ K ((wr x2 246 80 ((x2.1 246 80) + 1)).1 307 (Int32.toNatClampNeg r1)) (wr x2 246 80 ((x2.1 246 80) + 1))))))))))
set_option maxHeartbeats 4000000 in
set_option maxRecDepth 100000 in
theorem bsX12_atom (RX12_atom : ab_X → (Int32 → ab_X → Prop) → Prop) (RX12_sums : ab_X → (Int32 → ab_X → Prop) → Prop) (RX12_term : ab_X → (Int32 → ab_X → Prop) → Prop)   (x : ab_X) (K : Int32 → ab_X → Prop) (d bc bs : Nat) (hdp : 4 ≤ d) (dr : Nat) (hRX12_atom : ∀   (x : ab_X) (K : Int32 → ab_X → Prop), RX12_atom  x K → EW MX12_atom 0 [(0, .ref 246)] [] (aS x) dr 0 0 (liI K)) (hRX12_sums : ∀   (x : ab_X) (K : Int32 → ab_X → Prop), RX12_sums  x K → EW MX12_sums 0 [(0, .ref 246)] [] (aS x) dr 0 0 (liI K)) (hRX12_term : ∀   (x : ab_X) (K : Int32 → ab_X → Prop), RX12_term  x K → EW MX12_term 0 [(0, .ref 246)] [] (aS x) dr 0 0 (liI K)) (hdr : dr + 1 ≤ d) (h : bX12_atom RX12_atom RX12_sums RX12_term  x K) : EW MX12_atom 0 [(0, .ref 246)] [] (aS x) d bc bs (liI K) := by
  unfold bX12_atom at h
  refine EW_aload_n (pc2 := 1) rfl dX12_atom_0 0 rfl ?_
  refine AW_invV (M' := MX12_look) [] (rest := []) mlRX12_442 okX12_look (pc2 := 4) rfl dX12_atom_1 rfl rfl (Nat.le_of_ble_eq_true rfl) (Nat.le_of_ble_eq_true rfl) (d' := 0) (by omega) q246 ⟨by decide, rfl⟩ (EW_mono (fun _ _ hr => ?_) (sX12_look   x _ _ 0 0 (Nat.le_refl _) h))
  obtain ⟨r1, x2, rfl, rfl, h⟩ := hr
  refine EW_istore_n (pc2 := 5) rfl dX12_atom_4 (by decide) [1, 0] [(0, .ref 246), (1, .int r1)] rfl ?_
  refine EW_iload_n (pc2 := 6) rfl dX12_atom_5 1 rfl ?_
  refine EW_iconst (pc2 := 7) (v := (-1)) rfl dX12_atom_6 (by decide) ?_
  refine EW_icmp_eq (tgt := 38) (pc2 := 10) rfl dX12_atom_7 (by decide) (fun q => ?_) (fun q => ?_)
  · replace h := h.1 q
    exact sX12_atom_38 RX12_atom RX12_sums RX12_term r1 x2 K d bc bs hdp dr hRX12_atom hRX12_sums hRX12_term hdr h
  · replace h := h.2 q
    refine EW_aload_n (pc2 := 11) rfl dX12_atom_10 0 rfl ?_
    refine AW_getr (r := x2.2.2.2.2.2) ⟨gfRX12_210, rfl⟩ (pc2 := 14) rfl dX12_atom_11 q246 rfl ?_
    refine EW_iload_n (pc2 := 15) rfl dX12_atom_14 1 rfl ?_
    obtain ⟨z3, h⟩ := h
    refine AW_invVS (M' := MJ0_indexOf_0f7a4) [.int r1] (rest := []) mlRX12_458 okJ0_indexOf_0f7a4 (pc2 := 18) rfl dX12_atom_15 rfl rfl (Nat.le_of_ble_eq_true rfl) (Nat.le_of_ble_eq_true rfl) (d' := 3) (by omega) z3 rfl (EW_mono (fun _ _ hr => ?_) (sJ0_indexOf_0f7a4 x2.2.2.2.2.2 r1 z3 x2 _ _ 0 0 (Nat.le_refl _) h))
    obtain ⟨r4, rfl, rfl, h⟩ := hr
    refine EW_if_lt (tgt := 38) (pc2 := 21) rfl dX12_atom_18 (by decide) (fun q => ?_) (fun q => ?_)
    · replace h := h.1 q
      exact sX12_atom_38 RX12_atom RX12_sums RX12_term r1 x2 K d bc bs hdp dr hRX12_atom hRX12_sums hRX12_term hdr h
    · replace h := h.2 q
      refine EW_aload_n (pc2 := 22) rfl dX12_atom_21 0 rfl ?_
      refine EW_dup (pc2 := 23) rfl dX12_atom_22 rfl ?_
      refine AW_geti ⟨gfRX12_423, rfl⟩ (pc2 := 26) rfl dX12_atom_23 q246 ?_
      refine EW_iconst (pc2 := 27) (v := 1) rfl dX12_atom_26 (by decide) ?_
      refine EW_iadd (pc2 := 28) rfl dX12_atom_27 ?_
      refine AW_puti ⟨gfRX12_423, rfl, rfl⟩ (pc2 := 31) rfl dX12_atom_28 q246 ?_
      refine EW_aload_n (pc2 := 32) rfl dX12_atom_31 0 rfl ?_
      refine AW_getr (r := 307) ⟨gfRX12_192, rfl⟩ (pc2 := 35) rfl dX12_atom_32 q246 rfl ?_
      refine EW_iload_n (pc2 := 36) rfl dX12_atom_35 1 rfl ?_
      obtain ⟨b5, h⟩ := h
      refine AW_iald (pc2 := 37) rfl dX12_atom_36 q307 b5 ?_
      exact AW_iret rfl dX12_atom_37 ⟨_, _, rfl, rfl, h⟩
set_option maxHeartbeats 4000000 in
set_option maxRecDepth 100000 in
def wX12_sums_77 (RX12_atom : ab_X → (Int32 → ab_X → Prop) → Prop) (RX12_sums : ab_X → (Int32 → ab_X → Prop) → Prop) (RX12_term : ab_X → (Int32 → ab_X → Prop) → Prop) (s0 : Int64) (x : ab_X) (K : Int32 → ab_X → Prop) (L5 : Int32 → ab_X → Prop) : Prop := wX12_bound s0 x (fun r11 => L5 r11 x)
set_option maxHeartbeats 4000000 in
set_option maxRecDepth 100000 in
theorem sX12_sums_77 (RX12_atom : ab_X → (Int32 → ab_X → Prop) → Prop) (RX12_sums : ab_X → (Int32 → ab_X → Prop) → Prop) (RX12_term : ab_X → (Int32 → ab_X → Prop) → Prop) (s0 : Int64)  (x : ab_X) (K : Int32 → ab_X → Prop) (L5 : Int32 → ab_X → Prop) (d bc bs : Nat) (hdp : 2 ≤ d) (dr : Nat) (hRX12_atom : ∀   (x : ab_X) (K : Int32 → ab_X → Prop), RX12_atom  x K → EW MX12_atom 0 [(0, .ref 246)] [] (aS x) dr 0 0 (liI K)) (hRX12_sums : ∀   (x : ab_X) (K : Int32 → ab_X → Prop), RX12_sums  x K → EW MX12_sums 0 [(0, .ref 246)] [] (aS x) dr 0 0 (liI K)) (hRX12_term : ∀   (x : ab_X) (K : Int32 → ab_X → Prop), RX12_term  x K → EW MX12_term 0 [(0, .ref 246)] [] (aS x) dr 0 0 (liI K)) (hdr : dr + 1 ≤ d) (hL5 : ∀ (v1 : Int32) (x : ab_X), L5 v1 x → EW MX12_sums 5 [(0, .ref 246), (1, .int v1)] [] (aS x) d bc bs (liI K)) (h : wX12_sums_77 RX12_atom RX12_sums RX12_term s0 x K L5) : EW MX12_sums 77 [(0, .ref 246)] [.long s0] (aS x) d bc bs (liI K) := by
  unfold wX12_sums_77 at h
  refine AW_invS (M' := MX12_bound) [.long s0] (rest := []) mlRX12_478 okX12_bound (pc2 := 80) rfl dX12_sums_77 rfl rfl (Nat.le_of_ble_eq_true rfl) (Nat.le_of_ble_eq_true rfl) (d' := 1) (by omega) (EW_mono (fun _ _ hr => ?_) (sX12_bound s0  x _ _ 0 0 (Nat.le_refl _) h))
  obtain ⟨r11, rfl, rfl, h⟩ := hr
  refine EW_istore_n (pc2 := 81) rfl dX12_sums_80 (by decide) [1, 0] [(0, .ref 246), (1, .int r11)] rfl ?_
  refine EW_goto (tgt := 5) dX12_sums_81 (by decide) ?_
  exact hL5 r11 x h
set_option maxHeartbeats 4000000 in
set_option maxRecDepth 100000 in
def wX12_sums_45 (RX12_atom : ab_X → (Int32 → ab_X → Prop) → Prop) (RX12_sums : ab_X → (Int32 → ab_X → Prop) → Prop) (RX12_term : ab_X → (Int32 → ab_X → Prop) → Prop) (v1 : Int32) (s0 : Int32) (x : ab_X) (K : Int32 → ab_X → Prop) (L5 : Int32 → ab_X → Prop) : Prop := RX12_term (wr x 246 80 ((x.1 246 80) + 1)) (fun r9 x10 => ((s0 = 0 → wX12_sums_77 RX12_atom RX12_sums RX12_term ((Int32.toInt64 v1) - (Int32.toInt64 r9)) x10 K L5) ∧ (¬ s0 = 0 → wX12_sums_77 RX12_atom RX12_sums RX12_term ((Int32.toInt64 v1) + (Int32.toInt64 r9)) x10 K L5)))
set_option maxHeartbeats 4000000 in
set_option maxRecDepth 100000 in
theorem sX12_sums_45 (RX12_atom : ab_X → (Int32 → ab_X → Prop) → Prop) (RX12_sums : ab_X → (Int32 → ab_X → Prop) → Prop) (RX12_term : ab_X → (Int32 → ab_X → Prop) → Prop) (v1 : Int32) (s0 : Int32)  (x : ab_X) (K : Int32 → ab_X → Prop) (L5 : Int32 → ab_X → Prop) (d bc bs : Nat) (hdp : 2 ≤ d) (dr : Nat) (hRX12_atom : ∀   (x : ab_X) (K : Int32 → ab_X → Prop), RX12_atom  x K → EW MX12_atom 0 [(0, .ref 246)] [] (aS x) dr 0 0 (liI K)) (hRX12_sums : ∀   (x : ab_X) (K : Int32 → ab_X → Prop), RX12_sums  x K → EW MX12_sums 0 [(0, .ref 246)] [] (aS x) dr 0 0 (liI K)) (hRX12_term : ∀   (x : ab_X) (K : Int32 → ab_X → Prop), RX12_term  x K → EW MX12_term 0 [(0, .ref 246)] [] (aS x) dr 0 0 (liI K)) (hdr : dr + 1 ≤ d) (hL5 : ∀ (v1 : Int32) (x : ab_X), L5 v1 x → EW MX12_sums 5 [(0, .ref 246), (1, .int v1)] [] (aS x) d bc bs (liI K)) (h : wX12_sums_45 RX12_atom RX12_sums RX12_term v1 s0 x K L5) : EW MX12_sums 45 [(0, .ref 246), (1, .int v1)] [.int s0] (aS x) d bc bs (liI K) := by
  unfold wX12_sums_45 at h
  refine EW_istore_n (pc2 := 46) rfl dX12_sums_45 (by decide) [1, 2, 0] [(0, .ref 246), (1, .int v1), (2, .int s0)] rfl ?_
  refine EW_aload_n (pc2 := 47) rfl dX12_sums_46 0 rfl ?_
  refine EW_dup (pc2 := 48) rfl dX12_sums_47 rfl ?_
  refine AW_geti ⟨gfRX12_423, rfl⟩ (pc2 := 51) rfl dX12_sums_48 q246 ?_
  refine EW_iconst (pc2 := 52) (v := 1) rfl dX12_sums_51 (by decide) ?_
  refine EW_iadd (pc2 := 53) rfl dX12_sums_52 ?_
  refine AW_puti ⟨gfRX12_423, rfl, rfl⟩ (pc2 := 56) rfl dX12_sums_53 q246 ?_
  refine EW_aload_n (pc2 := 57) rfl dX12_sums_56 0 rfl ?_
  refine AW_invV (M' := MX12_term) [] (rest := []) mlRX12_482 okX12_term (pc2 := 60) rfl dX12_sums_57 rfl rfl (Nat.le_of_ble_eq_true rfl) (Nat.le_of_ble_eq_true rfl) (d' := dr) (by omega) q246 ⟨by decide, rfl⟩ (EW_mono (fun _ _ hr => ?_) (hRX12_term   (wr x 246 80 ((x.1 246 80) + 1)) _  h))
  obtain ⟨r9, x10, rfl, rfl, h⟩ := hr
  refine EW_i2l (pc2 := 61) (v := (Int32.toInt64 r9)) rfl dX12_sums_60 rfl ?_
  refine EW_lstore_n (pc2 := 62) rfl dX12_sums_61 (by decide) [1, 2, 3, 0] [(0, .ref 246), (1, .int v1), (2, .int s0), (3, .long (Int32.toInt64 r9))] rfl ?_
  refine EW_iload_n (pc2 := 63) rfl dX12_sums_62 2 rfl ?_
  refine EW_if_eq (tgt := 73) (pc2 := 66) rfl dX12_sums_63 (by decide) (fun q => ?_) (fun q => ?_)
  · replace h := h.1 q
    refine EW_iload_n (pc2 := 74) rfl dX12_sums_73 1 rfl ?_
    refine EW_i2l (pc2 := 75) (v := (Int32.toInt64 v1)) rfl dX12_sums_74 rfl ?_
    refine EW_lload_n (pc2 := 76) rfl dX12_sums_75 3 rfl ?_
    refine EW_lsub (pc2 := 77) rfl dX12_sums_76 ?_
    refine EW_ls [0] rfl ?_
    exact sX12_sums_77 RX12_atom RX12_sums RX12_term ((Int32.toInt64 v1) - (Int32.toInt64 r9)) x10 K L5 d bc bs hdp dr hRX12_atom hRX12_sums hRX12_term hdr hL5 h
  · replace h := h.2 q
    refine EW_iload_n (pc2 := 67) rfl dX12_sums_66 1 rfl ?_
    refine EW_i2l (pc2 := 68) (v := (Int32.toInt64 v1)) rfl dX12_sums_67 rfl ?_
    refine EW_lload_n (pc2 := 69) rfl dX12_sums_68 3 rfl ?_
    refine EW_ladd (pc2 := 70) rfl dX12_sums_69 ?_
    refine EW_goto (tgt := 77) dX12_sums_70 (by decide) ?_
    refine EW_ls [0] rfl ?_
    exact sX12_sums_77 RX12_atom RX12_sums RX12_term ((Int32.toInt64 v1) + (Int32.toInt64 r9)) x10 K L5 d bc bs hdp dr hRX12_atom hRX12_sums hRX12_term hdr hL5 h
set_option maxHeartbeats 4000000 in
set_option maxRecDepth 100000 in
def wX12_sums_31 (RX12_atom : ab_X → (Int32 → ab_X → Prop) → Prop) (RX12_sums : ab_X → (Int32 → ab_X → Prop) → Prop) (RX12_term : ab_X → (Int32 → ab_X → Prop) → Prop) (v1 : Int32) (x : ab_X) (K : Int32 → ab_X → Prop) (L5 : Int32 → ab_X → Prop) : Prop := wX12_look x (fun r7 x8 => ((¬ r7 = 43 → wX12_sums_45 RX12_atom RX12_sums RX12_term v1 0 x8 K L5) ∧ (r7 = 43 → wX12_sums_45 RX12_atom RX12_sums RX12_term v1 1 x8 K L5)))
set_option maxHeartbeats 4000000 in
set_option maxRecDepth 100000 in
theorem sX12_sums_31 (RX12_atom : ab_X → (Int32 → ab_X → Prop) → Prop) (RX12_sums : ab_X → (Int32 → ab_X → Prop) → Prop) (RX12_term : ab_X → (Int32 → ab_X → Prop) → Prop) (v1 : Int32)  (x : ab_X) (K : Int32 → ab_X → Prop) (L5 : Int32 → ab_X → Prop) (d bc bs : Nat) (hdp : 2 ≤ d) (dr : Nat) (hRX12_atom : ∀   (x : ab_X) (K : Int32 → ab_X → Prop), RX12_atom  x K → EW MX12_atom 0 [(0, .ref 246)] [] (aS x) dr 0 0 (liI K)) (hRX12_sums : ∀   (x : ab_X) (K : Int32 → ab_X → Prop), RX12_sums  x K → EW MX12_sums 0 [(0, .ref 246)] [] (aS x) dr 0 0 (liI K)) (hRX12_term : ∀   (x : ab_X) (K : Int32 → ab_X → Prop), RX12_term  x K → EW MX12_term 0 [(0, .ref 246)] [] (aS x) dr 0 0 (liI K)) (hdr : dr + 1 ≤ d) (hL5 : ∀ (v1 : Int32) (x : ab_X), L5 v1 x → EW MX12_sums 5 [(0, .ref 246), (1, .int v1)] [] (aS x) d bc bs (liI K)) (h : wX12_sums_31 RX12_atom RX12_sums RX12_term v1 x K L5) : EW MX12_sums 31 [(0, .ref 246), (1, .int v1)] [] (aS x) d bc bs (liI K) := by
  unfold wX12_sums_31 at h
  refine EW_aload_n (pc2 := 32) rfl dX12_sums_31 0 rfl ?_
  refine AW_invV (M' := MX12_look) [] (rest := []) mlRX12_442 okX12_look (pc2 := 35) rfl dX12_sums_32 rfl rfl (Nat.le_of_ble_eq_true rfl) (Nat.le_of_ble_eq_true rfl) (d' := 0) (by omega) q246 ⟨by decide, rfl⟩ (EW_mono (fun _ _ hr => ?_) (sX12_look   x _ _ 0 0 (Nat.le_refl _) h))
  obtain ⟨r7, x8, rfl, rfl, h⟩ := hr
  refine EW_bipush (pc2 := 37) (v := 43) rfl dX12_sums_35 (by decide) ?_
  refine EW_icmp_ne (tgt := 44) (pc2 := 40) rfl dX12_sums_37 (by decide) (fun q => ?_) (fun q => ?_)
  · replace h := h.1 q
    refine EW_iconst (pc2 := 45) (v := 0) rfl dX12_sums_44 (by decide) ?_
    exact sX12_sums_45 RX12_atom RX12_sums RX12_term v1 0 x8 K L5 d bc bs hdp dr hRX12_atom hRX12_sums hRX12_term hdr hL5 h
  · replace h := h.2 q
    refine EW_iconst (pc2 := 41) (v := 1) rfl dX12_sums_40 (by decide) ?_
    refine EW_goto (tgt := 45) dX12_sums_41 (by decide) ?_
    exact sX12_sums_45 RX12_atom RX12_sums RX12_term v1 1 x8 K L5 d bc bs hdp dr hRX12_atom hRX12_sums hRX12_term hdr hL5 h
set_option maxHeartbeats 4000000 in
set_option maxRecDepth 100000 in
def lX12_sums_5 (RX12_atom : ab_X → (Int32 → ab_X → Prop) → Prop) (RX12_sums : ab_X → (Int32 → ab_X → Prop) → Prop) (RX12_term : ab_X → (Int32 → ab_X → Prop) → Prop)  (K : Int32 → ab_X → Prop)  (L5 : Int32 → ab_X → Prop) (v1 : Int32) (x : ab_X) : Prop := ((¬ (x.1 246 81) = (-1) → K v1 x) ∧ ((x.1 246 81) = (-1) → wX12_look x (fun r3 x4 => ((r3 = 43 → wX12_sums_31 RX12_atom RX12_sums RX12_term v1 x4 K L5) ∧ (¬ r3 = 43 → wX12_look x4 (fun r5 x6 => ((¬ r5 = 45 → K v1 x6) ∧ (r5 = 45 → wX12_sums_31 RX12_atom RX12_sums RX12_term v1 x6 K L5))))))))
set_option maxHeartbeats 4000000 in
set_option maxRecDepth 100000 in
theorem sX12_sums_5 (RX12_atom : ab_X → (Int32 → ab_X → Prop) → Prop) (RX12_sums : ab_X → (Int32 → ab_X → Prop) → Prop) (RX12_term : ab_X → (Int32 → ab_X → Prop) → Prop) (v1 : Int32)  (x : ab_X) (K : Int32 → ab_X → Prop)  (d bc bs : Nat) (hdp : 2 ≤ d) (dr : Nat) (hRX12_atom : ∀   (x : ab_X) (K : Int32 → ab_X → Prop), RX12_atom  x K → EW MX12_atom 0 [(0, .ref 246)] [] (aS x) dr 0 0 (liI K)) (hRX12_sums : ∀   (x : ab_X) (K : Int32 → ab_X → Prop), RX12_sums  x K → EW MX12_sums 0 [(0, .ref 246)] [] (aS x) dr 0 0 (liI K)) (hRX12_term : ∀   (x : ab_X) (K : Int32 → ab_X → Prop), RX12_term  x K → EW MX12_term 0 [(0, .ref 246)] [] (aS x) dr 0 0 (liI K)) (hdr : dr + 1 ≤ d)  (h : Lp2 (lX12_sums_5 RX12_atom RX12_sums RX12_term  K ) v1 x) : EW MX12_sums 5 [(0, .ref 246), (1, .int v1)] [] (aS x) d bc bs (liI K) := by
  refine Lp2.use (P := fun v1 x => EW MX12_sums 5 [(0, .ref 246), (1, .int v1)] [] (aS x) d bc bs (liI K)) (fun L5 v1 x hL5 h => ?_) v1 x h
  unfold lX12_sums_5 at h
  refine EW_aload_n (pc2 := 6) rfl dX12_sums_5 0 rfl ?_
  refine AW_geti ⟨gfRX12_432, rfl⟩ (pc2 := 9) rfl dX12_sums_6 q246 ?_
  refine EW_iconst (pc2 := 10) (v := (-1)) rfl dX12_sums_9 (by decide) ?_
  refine EW_icmp_ne (tgt := 84) (pc2 := 13) rfl dX12_sums_10 (by decide) (fun q => ?_) (fun q => ?_)
  · replace h := h.1 q
    refine EW_iload_n (pc2 := 85) rfl dX12_sums_84 1 rfl ?_
    exact AW_iret rfl dX12_sums_85 ⟨_, _, rfl, rfl, h⟩
  · replace h := h.2 q
    refine EW_aload_n (pc2 := 14) rfl dX12_sums_13 0 rfl ?_
    refine AW_invV (M' := MX12_look) [] (rest := []) mlRX12_442 okX12_look (pc2 := 17) rfl dX12_sums_14 rfl rfl (Nat.le_of_ble_eq_true rfl) (Nat.le_of_ble_eq_true rfl) (d' := 0) (by omega) q246 ⟨by decide, rfl⟩ (EW_mono (fun _ _ hr => ?_) (sX12_look   x _ _ 0 0 (Nat.le_refl _) h))
    obtain ⟨r3, x4, rfl, rfl, h⟩ := hr
    refine EW_bipush (pc2 := 19) (v := 43) rfl dX12_sums_17 (by decide) ?_
    refine EW_icmp_eq (tgt := 31) (pc2 := 22) rfl dX12_sums_19 (by decide) (fun q => ?_) (fun q => ?_)
    · replace h := h.1 q
      exact sX12_sums_31 RX12_atom RX12_sums RX12_term v1 x4 K L5 d bc bs hdp dr hRX12_atom hRX12_sums hRX12_term hdr hL5 h
    · replace h := h.2 q
      refine EW_aload_n (pc2 := 23) rfl dX12_sums_22 0 rfl ?_
      refine AW_invV (M' := MX12_look) [] (rest := []) mlRX12_442 okX12_look (pc2 := 26) rfl dX12_sums_23 rfl rfl (Nat.le_of_ble_eq_true rfl) (Nat.le_of_ble_eq_true rfl) (d' := 0) (by omega) q246 ⟨by decide, rfl⟩ (EW_mono (fun _ _ hr => ?_) (sX12_look   x4 _ _ 0 0 (Nat.le_refl _) h))
      obtain ⟨r5, x6, rfl, rfl, h⟩ := hr
      refine EW_bipush (pc2 := 28) (v := 45) rfl dX12_sums_26 (by decide) ?_
      refine EW_icmp_ne (tgt := 84) (pc2 := 31) rfl dX12_sums_28 (by decide) (fun q => ?_) (fun q => ?_)
      · replace h := h.1 q
        refine EW_iload_n (pc2 := 85) rfl dX12_sums_84 1 rfl ?_
        exact AW_iret rfl dX12_sums_85 ⟨_, _, rfl, rfl, h⟩
      · replace h := h.2 q
        exact sX12_sums_31 RX12_atom RX12_sums RX12_term v1 x6 K L5 d bc bs hdp dr hRX12_atom hRX12_sums hRX12_term hdr hL5 h
set_option maxHeartbeats 4000000 in
set_option maxRecDepth 100000 in
def bX12_sums (RX12_atom : ab_X → (Int32 → ab_X → Prop) → Prop) (RX12_sums : ab_X → (Int32 → ab_X → Prop) → Prop) (RX12_term : ab_X → (Int32 → ab_X → Prop) → Prop)  (x : ab_X) (K : Int32 → ab_X → Prop) : Prop := RX12_term x (fun r1 x2 => Lp2 (lX12_sums_5 RX12_atom RX12_sums RX12_term K ) r1 x2)
set_option maxHeartbeats 4000000 in
set_option maxRecDepth 100000 in
theorem bsX12_sums (RX12_atom : ab_X → (Int32 → ab_X → Prop) → Prop) (RX12_sums : ab_X → (Int32 → ab_X → Prop) → Prop) (RX12_term : ab_X → (Int32 → ab_X → Prop) → Prop)   (x : ab_X) (K : Int32 → ab_X → Prop) (d bc bs : Nat) (hdp : 2 ≤ d) (dr : Nat) (hRX12_atom : ∀   (x : ab_X) (K : Int32 → ab_X → Prop), RX12_atom  x K → EW MX12_atom 0 [(0, .ref 246)] [] (aS x) dr 0 0 (liI K)) (hRX12_sums : ∀   (x : ab_X) (K : Int32 → ab_X → Prop), RX12_sums  x K → EW MX12_sums 0 [(0, .ref 246)] [] (aS x) dr 0 0 (liI K)) (hRX12_term : ∀   (x : ab_X) (K : Int32 → ab_X → Prop), RX12_term  x K → EW MX12_term 0 [(0, .ref 246)] [] (aS x) dr 0 0 (liI K)) (hdr : dr + 1 ≤ d) (h : bX12_sums RX12_atom RX12_sums RX12_term  x K) : EW MX12_sums 0 [(0, .ref 246)] [] (aS x) d bc bs (liI K) := by
  unfold bX12_sums at h
  refine EW_aload_n (pc2 := 1) rfl dX12_sums_0 0 rfl ?_
  refine AW_invV (M' := MX12_term) [] (rest := []) mlRX12_482 okX12_term (pc2 := 4) rfl dX12_sums_1 rfl rfl (Nat.le_of_ble_eq_true rfl) (Nat.le_of_ble_eq_true rfl) (d' := dr) (by omega) q246 ⟨by decide, rfl⟩ (EW_mono (fun _ _ hr => ?_) (hRX12_term   x _  h))
  obtain ⟨r1, x2, rfl, rfl, h⟩ := hr
  refine EW_istore_n (pc2 := 5) rfl dX12_sums_4 (by decide) [1, 0] [(0, .ref 246), (1, .int r1)] rfl ?_
  exact sX12_sums_5 RX12_atom RX12_sums RX12_term r1 x2 K d bc bs hdp dr hRX12_atom hRX12_sums hRX12_term hdr h
set_option maxHeartbeats 4000000 in
set_option maxRecDepth 100000 in
def lX12_term_5 (RX12_atom : ab_X → (Int32 → ab_X → Prop) → Prop) (RX12_sums : ab_X → (Int32 → ab_X → Prop) → Prop) (RX12_term : ab_X → (Int32 → ab_X → Prop) → Prop)  (K : Int32 → ab_X → Prop)  (L5 : Int32 → ab_X → Prop) (v1 : Int32) (x : ab_X) : Prop := ((¬ (x.1 246 81) = (-1) → K v1 x) ∧ ((x.1 246 81) = (-1) → wX12_look x (fun r3 x4 => ((¬ r3 = 42 → K v1 x4) ∧ (r3 = 42 → RX12_atom (wr x4 246 80 ((x4.1 246 80) + 1)) (fun r5 x6 => wX12_bound ((Int32.toInt64 v1) * (Int32.toInt64 r5)) x6 (fun r7 => L5 r7 x6)))))))
set_option maxHeartbeats 4000000 in
set_option maxRecDepth 100000 in
theorem sX12_term_5 (RX12_atom : ab_X → (Int32 → ab_X → Prop) → Prop) (RX12_sums : ab_X → (Int32 → ab_X → Prop) → Prop) (RX12_term : ab_X → (Int32 → ab_X → Prop) → Prop) (v1 : Int32)  (x : ab_X) (K : Int32 → ab_X → Prop)  (d bc bs : Nat) (hdp : 2 ≤ d) (dr : Nat) (hRX12_atom : ∀   (x : ab_X) (K : Int32 → ab_X → Prop), RX12_atom  x K → EW MX12_atom 0 [(0, .ref 246)] [] (aS x) dr 0 0 (liI K)) (hRX12_sums : ∀   (x : ab_X) (K : Int32 → ab_X → Prop), RX12_sums  x K → EW MX12_sums 0 [(0, .ref 246)] [] (aS x) dr 0 0 (liI K)) (hRX12_term : ∀   (x : ab_X) (K : Int32 → ab_X → Prop), RX12_term  x K → EW MX12_term 0 [(0, .ref 246)] [] (aS x) dr 0 0 (liI K)) (hdr : dr + 1 ≤ d)  (h : Lp2 (lX12_term_5 RX12_atom RX12_sums RX12_term  K ) v1 x) : EW MX12_term 5 [(0, .ref 246), (1, .int v1)] [] (aS x) d bc bs (liI K) := by
  refine Lp2.use (P := fun v1 x => EW MX12_term 5 [(0, .ref 246), (1, .int v1)] [] (aS x) d bc bs (liI K)) (fun L5 v1 x hL5 h => ?_) v1 x h
  unfold lX12_term_5 at h
  refine EW_aload_n (pc2 := 6) rfl dX12_term_5 0 rfl ?_
  refine AW_geti ⟨gfRX12_432, rfl⟩ (pc2 := 9) rfl dX12_term_6 q246 ?_
  refine EW_iconst (pc2 := 10) (v := (-1)) rfl dX12_term_9 (by decide) ?_
  refine EW_icmp_ne (tgt := 49) (pc2 := 13) rfl dX12_term_10 (by decide) (fun q => ?_) (fun q => ?_)
  · replace h := h.1 q
    refine EW_iload_n (pc2 := 50) rfl dX12_term_49 1 rfl ?_
    exact AW_iret rfl dX12_term_50 ⟨_, _, rfl, rfl, h⟩
  · replace h := h.2 q
    refine EW_aload_n (pc2 := 14) rfl dX12_term_13 0 rfl ?_
    refine AW_invV (M' := MX12_look) [] (rest := []) mlRX12_442 okX12_look (pc2 := 17) rfl dX12_term_14 rfl rfl (Nat.le_of_ble_eq_true rfl) (Nat.le_of_ble_eq_true rfl) (d' := 0) (by omega) q246 ⟨by decide, rfl⟩ (EW_mono (fun _ _ hr => ?_) (sX12_look   x _ _ 0 0 (Nat.le_refl _) h))
    obtain ⟨r3, x4, rfl, rfl, h⟩ := hr
    refine EW_bipush (pc2 := 19) (v := 42) rfl dX12_term_17 (by decide) ?_
    refine EW_icmp_ne (tgt := 49) (pc2 := 22) rfl dX12_term_19 (by decide) (fun q => ?_) (fun q => ?_)
    · replace h := h.1 q
      refine EW_iload_n (pc2 := 50) rfl dX12_term_49 1 rfl ?_
      exact AW_iret rfl dX12_term_50 ⟨_, _, rfl, rfl, h⟩
    · replace h := h.2 q
      refine EW_aload_n (pc2 := 23) rfl dX12_term_22 0 rfl ?_
      refine EW_dup (pc2 := 24) rfl dX12_term_23 rfl ?_
      refine AW_geti ⟨gfRX12_423, rfl⟩ (pc2 := 27) rfl dX12_term_24 q246 ?_
      refine EW_iconst (pc2 := 28) (v := 1) rfl dX12_term_27 (by decide) ?_
      refine EW_iadd (pc2 := 29) rfl dX12_term_28 ?_
      refine AW_puti ⟨gfRX12_423, rfl, rfl⟩ (pc2 := 32) rfl dX12_term_29 q246 ?_
      refine EW_aload_n (pc2 := 33) rfl dX12_term_32 0 rfl ?_
      refine AW_invV (M' := MX12_atom) [] (rest := []) mlRX12_475 okX12_atom (pc2 := 36) rfl dX12_term_33 rfl rfl (Nat.le_of_ble_eq_true rfl) (Nat.le_of_ble_eq_true rfl) (d' := dr) (by omega) q246 ⟨by decide, rfl⟩ (EW_mono (fun _ _ hr => ?_) (hRX12_atom   (wr x4 246 80 ((x4.1 246 80) + 1)) _  h))
      obtain ⟨r5, x6, rfl, rfl, h⟩ := hr
      refine EW_i2l (pc2 := 37) (v := (Int32.toInt64 r5)) rfl dX12_term_36 rfl ?_
      refine EW_lstore_n (pc2 := 38) rfl dX12_term_37 (by decide) [1, 2, 0] [(0, .ref 246), (1, .int v1), (2, .long (Int32.toInt64 r5))] rfl ?_
      refine EW_iload_n (pc2 := 39) rfl dX12_term_38 1 rfl ?_
      refine EW_i2l (pc2 := 40) (v := (Int32.toInt64 v1)) rfl dX12_term_39 rfl ?_
      refine EW_lload_n (pc2 := 41) rfl dX12_term_40 2 rfl ?_
      refine EW_lmul (pc2 := 42) rfl dX12_term_41 ?_
      refine AW_invS (M' := MX12_bound) [.long ((Int32.toInt64 v1) * (Int32.toInt64 r5))] (rest := []) mlRX12_478 okX12_bound (pc2 := 45) rfl dX12_term_42 rfl rfl (Nat.le_of_ble_eq_true rfl) (Nat.le_of_ble_eq_true rfl) (d' := 1) (by omega) (EW_mono (fun _ _ hr => ?_) (sX12_bound ((Int32.toInt64 v1) * (Int32.toInt64 r5))  x6 _ _ 0 0 (Nat.le_refl _) h))
      obtain ⟨r7, rfl, rfl, h⟩ := hr
      refine EW_istore_n (pc2 := 46) rfl dX12_term_45 (by decide) [1, 0, 2] [(0, .ref 246), (1, .int r7), (2, .long (Int32.toInt64 r5))] rfl ?_
      refine EW_goto (tgt := 5) dX12_term_46 (by decide) ?_
      refine EW_ls [0, 1] rfl ?_
      exact hL5 r7 x6 h
set_option maxHeartbeats 4000000 in
set_option maxRecDepth 100000 in
def bX12_term (RX12_atom : ab_X → (Int32 → ab_X → Prop) → Prop) (RX12_sums : ab_X → (Int32 → ab_X → Prop) → Prop) (RX12_term : ab_X → (Int32 → ab_X → Prop) → Prop)  (x : ab_X) (K : Int32 → ab_X → Prop) : Prop := RX12_atom x (fun r1 x2 => Lp2 (lX12_term_5 RX12_atom RX12_sums RX12_term K ) r1 x2)
set_option maxHeartbeats 4000000 in
set_option maxRecDepth 100000 in
theorem bsX12_term (RX12_atom : ab_X → (Int32 → ab_X → Prop) → Prop) (RX12_sums : ab_X → (Int32 → ab_X → Prop) → Prop) (RX12_term : ab_X → (Int32 → ab_X → Prop) → Prop)   (x : ab_X) (K : Int32 → ab_X → Prop) (d bc bs : Nat) (hdp : 2 ≤ d) (dr : Nat) (hRX12_atom : ∀   (x : ab_X) (K : Int32 → ab_X → Prop), RX12_atom  x K → EW MX12_atom 0 [(0, .ref 246)] [] (aS x) dr 0 0 (liI K)) (hRX12_sums : ∀   (x : ab_X) (K : Int32 → ab_X → Prop), RX12_sums  x K → EW MX12_sums 0 [(0, .ref 246)] [] (aS x) dr 0 0 (liI K)) (hRX12_term : ∀   (x : ab_X) (K : Int32 → ab_X → Prop), RX12_term  x K → EW MX12_term 0 [(0, .ref 246)] [] (aS x) dr 0 0 (liI K)) (hdr : dr + 1 ≤ d) (h : bX12_term RX12_atom RX12_sums RX12_term  x K) : EW MX12_term 0 [(0, .ref 246)] [] (aS x) d bc bs (liI K) := by
  unfold bX12_term at h
  refine EW_aload_n (pc2 := 1) rfl dX12_term_0 0 rfl ?_
  refine AW_invV (M' := MX12_atom) [] (rest := []) mlRX12_475 okX12_atom (pc2 := 4) rfl dX12_term_1 rfl rfl (Nat.le_of_ble_eq_true rfl) (Nat.le_of_ble_eq_true rfl) (d' := dr) (by omega) q246 ⟨by decide, rfl⟩ (EW_mono (fun _ _ hr => ?_) (hRX12_atom   x _  h))
  obtain ⟨r1, x2, rfl, rfl, h⟩ := hr
  refine EW_istore_n (pc2 := 5) rfl dX12_term_4 (by decide) [1, 0] [(0, .ref 246), (1, .int r1)] rfl ?_
  exact sX12_term_5 RX12_atom RX12_sums RX12_term r1 x2 K d bc bs hdp dr hRX12_atom hRX12_sums hRX12_term hdr h
def famX12_atom : Nat → (ab_X → (Int32 → ab_X → Prop) → Prop) × (ab_X → (Int32 → ab_X → Prop) → Prop) × (ab_X → (Int32 → ab_X → Prop) → Prop)
  | 0 => ((fun  x K => False), (fun  x K => False), (fun  x K => False))
  | n + 1 => ((fun  x K => bX12_atom (famX12_atom n).1 (famX12_atom n).2.1 (famX12_atom n).2.2  x K), (fun  x K => bX12_sums (famX12_atom n).1 (famX12_atom n).2.1 (famX12_atom n).2.2  x K), (fun  x K => bX12_term (famX12_atom n).1 (famX12_atom n).2.1 (famX12_atom n).2.2  x K))
set_option maxHeartbeats 4000000 in
theorem famX12_atomS : ∀ n, (∀   (x : ab_X) (K : Int32 → ab_X → Prop), (famX12_atom n).1  x K → EW MX12_atom 0 [(0, .ref 246)] [] (aS x) (4 + n) 0 0 (liI K)) ∧ (∀   (x : ab_X) (K : Int32 → ab_X → Prop), (famX12_atom n).2.1  x K → EW MX12_sums 0 [(0, .ref 246)] [] (aS x) (4 + n) 0 0 (liI K)) ∧ (∀   (x : ab_X) (K : Int32 → ab_X → Prop), (famX12_atom n).2.2  x K → EW MX12_term 0 [(0, .ref 246)] [] (aS x) (4 + n) 0 0 (liI K)) := by
  intro n
  induction n with
  | zero => exact ⟨fun   x K h => False.elim h, fun   x K h => False.elim h, fun   x K h => False.elim h⟩
  | succ n ih =>
    obtain ⟨i0, i1, i2⟩ := ih
    exact ⟨fun   x K h => bsX12_atom _ _ _   x K (4 + (n + 1)) 0 0 (by omega) (4 + n) i0 i1 i2 (by omega) h, fun   x K h => bsX12_sums _ _ _   x K (4 + (n + 1)) 0 0 (by omega) (4 + n) i0 i1 i2 (by omega) h, fun   x K h => bsX12_term _ _ _   x K (4 + (n + 1)) 0 0 (by omega) (4 + n) i0 i1 i2 (by omega) h⟩
def wX12_atom  (x : ab_X) (K : Int32 → ab_X → Prop) : Prop := ∃ n, n ≤ 100 ∧ (famX12_atom n).1  x K
theorem sX12_atom   (x : ab_X) (K : Int32 → ab_X → Prop) (d bc bs : Nat) (hdp : 105 ≤ d) (h : wX12_atom  x K) : EW MX12_atom 0 [(0, .ref 246)] [] (aS x) d bc bs (liI K) := by
  obtain ⟨n, hn, h⟩ := h
  cases n with
  | zero => exact False.elim h
  | succ n =>
    obtain ⟨i0, i1, i2⟩ := famX12_atomS n
    exact bsX12_atom _ _ _   x K d bc bs (by omega) (4 + n) i0 i1 i2 (by omega) h
def wX12_sums  (x : ab_X) (K : Int32 → ab_X → Prop) : Prop := ∃ n, n ≤ 100 ∧ (famX12_atom n).2.1  x K
theorem sX12_sums   (x : ab_X) (K : Int32 → ab_X → Prop) (d bc bs : Nat) (hdp : 105 ≤ d) (h : wX12_sums  x K) : EW MX12_sums 0 [(0, .ref 246)] [] (aS x) d bc bs (liI K) := by
  obtain ⟨n, hn, h⟩ := h
  cases n with
  | zero => exact False.elim h
  | succ n =>
    obtain ⟨i0, i1, i2⟩ := famX12_atomS n
    exact bsX12_sums _ _ _   x K d bc bs (by omega) (4 + n) i0 i1 i2 (by omega) h
def wX12_term  (x : ab_X) (K : Int32 → ab_X → Prop) : Prop := ∃ n, n ≤ 100 ∧ (famX12_atom n).2.2  x K
theorem sX12_term   (x : ab_X) (K : Int32 → ab_X → Prop) (d bc bs : Nat) (hdp : 105 ≤ d) (h : wX12_term  x K) : EW MX12_term 0 [(0, .ref 246)] [] (aS x) d bc bs (liI K) := by
  obtain ⟨n, hn, h⟩ := h
  cases n with
  | zero => exact False.elim h
  | succ n =>
    obtain ⟨i0, i1, i2⟩ := famX12_atomS n
    exact bsX12_term _ _ _   x K d bc bs (by omega) (4 + n) i0 i1 i2 (by omega) h
