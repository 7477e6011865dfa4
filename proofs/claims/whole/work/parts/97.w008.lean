theorem gfRX8_17 : ab_L RX8 17 8 3 := ⟨by decide, by decide, ab_in 606 (by decide +kernel) (by decide +kernel)⟩
theorem mlRX8_66 : Cond.methodLink RX8 66 yX8_number ∈ ab_G ∧ Cond.instanceMethod yX8_number ∈ ab_G ∧ Cond.selects RX8 yX8_number yX8_number ∈ ab_G := ⟨ab_in 1223 (by decide +kernel) (by decide +kernel), ab_in 1224 (by decide +kernel) (by decide +kernel), ab_in 1225 (by decide +kernel) (by decide +kernel)⟩
theorem mlRX8_85 : Cond.methodLink RX8 85 yX8_opens ∈ ab_G ∧ Cond.instanceMethod yX8_opens ∈ ab_G ∧ Cond.selects RX8 yX8_opens yX8_opens ∈ ab_G := ⟨ab_in 1192 (by decide +kernel) (by decide +kernel), ab_in 1193 (by decide +kernel) (by decide +kernel), ab_in 1194 (by decide +kernel) (by decide +kernel)⟩
theorem mlRX8_91 : Cond.methodLink RX8 91 yX8_sum ∈ ab_G ∧ Cond.instanceMethod yX8_sum ∈ ab_G ∧ Cond.selects RX8 yX8_sum yX8_sum ∈ ab_G := ⟨ab_in 1208 (by decide +kernel) (by decide +kernel), ab_in 1210 (by decide +kernel) (by decide +kernel), ab_in 4 (by decide +kernel) (by decide +kernel)⟩
theorem mlRX8_55 : Cond.methodLink RX8 55 yX8_passes ∈ ab_G ∧ Cond.instanceMethod yX8_passes ∈ ab_G ∧ Cond.selects RX8 yX8_passes yX8_passes ∈ ab_G := ⟨ab_in 1200 (by decide +kernel) (by decide +kernel), ab_in 1201 (by decide +kernel) (by decide +kernel), ab_in 1202 (by decide +kernel) (by decide +kernel)⟩
theorem mlRX8_94 : Cond.methodLink RX8 94 yX8_term ∈ ab_G ∧ Cond.instanceMethod yX8_term ∈ ab_G ∧ Cond.selects RX8 yX8_term yX8_term ∈ ab_G := ⟨ab_in 1212 (by decide +kernel) (by decide +kernel), ab_in 1214 (by decide +kernel) (by decide +kernel), ab_in 5 (by decide +kernel) (by decide +kernel)⟩
theorem mlRX8_97 : Cond.methodLink RX8 97 yX8_atom ∈ ab_G ∧ Cond.instanceMethod yX8_atom ∈ ab_G ∧ Cond.selects RX8 yX8_atom yX8_atom ∈ ab_G := ⟨ab_in 1216 (by decide +kernel) (by decide +kernel), ab_in 1218 (by decide +kernel) (by decide +kernel), ab_in 6 (by decide +kernel) (by decide +kernel)⟩
abbrev MX8_atom : ab_M := (yX8_atom, cX8_atom, 4, (some .boolean))
theorem dX8_atom_0 : decode cX8_atom 0 = .ok (.aload_n 0, 1) := by decide +kernel
theorem dX8_atom_1 : decode cX8_atom 1 = .ok (.invokevirtual 46, 3) := by decide +kernel
theorem dX8_atom_4 : decode cX8_atom 4 = .ok (.istore_n 2, 1) := by decide +kernel
theorem dX8_atom_5 : decode cX8_atom 5 = .ok (.iload_n 2, 1) := by decide +kernel
theorem dX8_atom_6 : decode cX8_atom 6 = .ok (.bipush 91, 2) := by decide +kernel
theorem dX8_atom_8 : decode cX8_atom 8 = .ok (.if_icmp .ne 36, 3) := by decide +kernel
theorem dX8_atom_11 : decode cX8_atom 11 = .ok (.aload_n 0, 1) := by decide +kernel
theorem dX8_atom_12 : decode cX8_atom 12 = .ok (.iload_n 1, 1) := by decide +kernel
theorem dX8_atom_13 : decode cX8_atom 13 = .ok (.invokevirtual 85, 3) := by decide +kernel
theorem dX8_atom_16 : decode cX8_atom 16 = .ok (.ifCond .eq 26, 3) := by decide +kernel
theorem dX8_atom_19 : decode cX8_atom 19 = .ok (.aload_n 0, 1) := by decide +kernel
theorem dX8_atom_20 : decode cX8_atom 20 = .ok (.iload_n 1, 1) := by decide +kernel
theorem dX8_atom_21 : decode cX8_atom 21 = .ok (.iconst 1, 1) := by decide +kernel
theorem dX8_atom_22 : decode cX8_atom 22 = .ok (.iadd, 1) := by decide +kernel
theorem dX8_atom_23 : decode cX8_atom 23 = .ok (.invokevirtual 91, 3) := by decide +kernel
theorem dX8_atom_26 : decode cX8_atom 26 = .ok (.ifCond .eq 16, 3) := by decide +kernel
theorem dX8_atom_29 : decode cX8_atom 29 = .ok (.aload_n 0, 1) := by decide +kernel
theorem dX8_atom_30 : decode cX8_atom 30 = .ok (.bipush 93, 2) := by decide +kernel
theorem dX8_atom_32 : decode cX8_atom 32 = .ok (.invokevirtual 55, 3) := by decide +kernel
theorem dX8_atom_35 : decode cX8_atom 35 = .ok (.ifCond .eq 7, 3) := by decide +kernel
theorem dX8_atom_38 : decode cX8_atom 38 = .ok (.iconst 1, 1) := by decide +kernel
theorem dX8_atom_39 : decode cX8_atom 39 = .ok (.goto 4, 3) := by decide +kernel
theorem dX8_atom_42 : decode cX8_atom 42 = .ok (.iconst 0, 1) := by decide +kernel
theorem dX8_atom_43 : decode cX8_atom 43 = .ok (.ireturn, 1) := by decide +kernel
theorem dX8_atom_44 : decode cX8_atom 44 = .ok (.iload_n 2, 1) := by decide +kernel
theorem dX8_atom_45 : decode cX8_atom 45 = .ok (.invokestatic 76, 3) := by decide +kernel
theorem dX8_atom_48 : decode cX8_atom 48 = .ok (.ifCond .eq 10, 3) := by decide +kernel
theorem dX8_atom_51 : decode cX8_atom 51 = .ok (.aload_n 0, 1) := by decide +kernel
theorem dX8_atom_52 : decode cX8_atom 52 = .ok (.iconst 4, 1) := by decide +kernel
theorem dX8_atom_53 : decode cX8_atom 53 = .ok (.iconst 0, 1) := by decide +kernel
theorem dX8_atom_54 : decode cX8_atom 54 = .ok (.invokevirtual 66, 3) := by decide +kernel
theorem dX8_atom_57 : decode cX8_atom 57 = .ok (.ireturn, 1) := by decide +kernel
theorem dX8_atom_58 : decode cX8_atom 58 = .ok (.aload_n 0, 1) := by decide +kernel
theorem dX8_atom_59 : decode cX8_atom 59 = .ok (.aload_n 0, 1) := by decide +kernel
theorem dX8_atom_60 : decode cX8_atom 60 = .ok (.getfield 17, 3) := by decide +kernel
theorem dX8_atom_63 : decode cX8_atom 63 = .ok (.invokevirtual 72, 3) := by decide +kernel
theorem dX8_atom_66 : decode cX8_atom 66 = .ok (.istore_n 3, 1) := by decide +kernel
theorem dX8_atom_67 : decode cX8_atom 67 = .ok (.iload_n 3, 1) := by decide +kernel
theorem dX8_atom_68 : decode cX8_atom 68 = .ok (.iconst (-1), 1) := by decide +kernel
theorem dX8_atom_69 : decode cX8_atom 69 = .ok (.if_icmp .ne 5, 3) := by decide +kernel
theorem dX8_atom_72 : decode cX8_atom 72 = .ok (.iconst 0, 1) := by decide +kernel
theorem dX8_atom_73 : decode cX8_atom 73 = .ok (.ireturn, 1) := by decide +kernel
theorem dX8_atom_74 : decode cX8_atom 74 = .ok (.aload_n 0, 1) := by decide +kernel
theorem dX8_atom_75 : decode cX8_atom 75 = .ok (.getfield 24, 3) := by decide +kernel
theorem dX8_atom_78 : decode cX8_atom 78 = .ok (.iconst 1, 1) := by decide +kernel
theorem dX8_atom_79 : decode cX8_atom 79 = .ok (.iload_n 3, 1) := by decide +kernel
theorem dX8_atom_80 : decode cX8_atom 80 = .ok (.invokevirtual 58, 3) := by decide +kernel
theorem dX8_atom_83 : decode cX8_atom 83 = .ok (.aload_n 0, 1) := by decide +kernel
theorem dX8_atom_84 : decode cX8_atom 84 = .ok (.dup, 1) := by decide +kernel
theorem dX8_atom_85 : decode cX8_atom 85 = .ok (.getfield 36, 3) := by decide +kernel
theorem dX8_atom_88 : decode cX8_atom 88 = .ok (.iconst 1, 1) := by decide +kernel
theorem dX8_atom_89 : decode cX8_atom 89 = .ok (.iadd, 1) := by decide +kernel
theorem dX8_atom_90 : decode cX8_atom 90 = .ok (.putfield 36, 3) := by decide +kernel
theorem dX8_atom_93 : decode cX8_atom 93 = .ok (.iconst 1, 1) := by decide +kernel
theorem dX8_atom_94 : decode cX8_atom 94 = .ok (.ireturn, 1) := by decide +kernel
theorem okX8_atom : ab_okM MX8_atom 1 := ⟨by decide, ⟨by decide, by decide⟩, ab_in 1219 (by decide +kernel) (by decide +kernel), ab_in 96 (by decide +kernel) (by decide +kernel), by decide +kernel, by decide⟩
abbrev MX8_sum : ab_M := (yX8_sum, cX8_sum, 4, (some .boolean))
theorem dX8_sum_0 : decode cX8_sum 0 = .ok (.aload_n 0, 1) := by decide +kernel
theorem dX8_sum_1 : decode cX8_sum 1 = .ok (.iload_n 1, 1) := by decide +kernel
theorem dX8_sum_2 : decode cX8_sum 2 = .ok (.invokevirtual 94, 3) := by decide +kernel
theorem dX8_sum_5 : decode cX8_sum 5 = .ok (.ifCond .ne 5, 3) := by decide +kernel
theorem dX8_sum_8 : decode cX8_sum 8 = .ok (.iconst 0, 1) := by decide +kernel
theorem dX8_sum_9 : decode cX8_sum 9 = .ok (.ireturn, 1) := by decide +kernel
theorem dX8_sum_10 : decode cX8_sum 10 = .ok (.iconst 0, 1) := by decide +kernel
theorem dX8_sum_11 : decode cX8_sum 11 = .ok (.istore_n 2, 1) := by decide +kernel
theorem dX8_sum_12 : decode cX8_sum 12 = .ok (.iload_n 2, 1) := by decide +kernel
theorem dX8_sum_13 : decode cX8_sum 13 = .ok (.sipush 200, 3) := by decide +kernel
theorem dX8_sum_16 : decode cX8_sum 16 = .ok (.if_icmp .ge 67, 3) := by decide +kernel
theorem dX8_sum_19 : decode cX8_sum 19 = .ok (.aload_n 0, 1) := by decide +kernel
theorem dX8_sum_20 : decode cX8_sum 20 = .ok (.invokevirtual 46, 3) := by decide +kernel
theorem dX8_sum_23 : decode cX8_sum 23 = .ok (.istore_n 3, 1) := by decide +kernel
theorem dX8_sum_24 : decode cX8_sum 24 = .ok (.iload_n 3, 1) := by decide +kernel
theorem dX8_sum_25 : decode cX8_sum 25 = .ok (.bipush 43, 2) := by decide +kernel
theorem dX8_sum_27 : decode cX8_sum 27 = .ok (.if_icmp .eq 11, 3) := by decide +kernel
theorem dX8_sum_30 : decode cX8_sum 30 = .ok (.iload_n 3, 1) := by decide +kernel
theorem dX8_sum_31 : decode cX8_sum 31 = .ok (.bipush 45, 2) := by decide +kernel
theorem dX8_sum_33 : decode cX8_sum 33 = .ok (.if_icmp .eq 5, 3) := by decide +kernel
theorem dX8_sum_36 : decode cX8_sum 36 = .ok (.iconst 1, 1) := by decide +kernel
theorem dX8_sum_37 : decode cX8_sum 37 = .ok (.ireturn, 1) := by decide +kernel
theorem dX8_sum_38 : decode cX8_sum 38 = .ok (.aload_n 0, 1) := by decide +kernel
theorem dX8_sum_39 : decode cX8_sum 39 = .ok (.dup, 1) := by decide +kernel
theorem dX8_sum_40 : decode cX8_sum 40 = .ok (.getfield 36, 3) := by decide +kernel
theorem dX8_sum_43 : decode cX8_sum 43 = .ok (.iconst 1, 1) := by decide +kernel
theorem dX8_sum_44 : decode cX8_sum 44 = .ok (.iadd, 1) := by decide +kernel
theorem dX8_sum_45 : decode cX8_sum 45 = .ok (.putfield 36, 3) := by decide +kernel
theorem dX8_sum_48 : decode cX8_sum 48 = .ok (.aload_n 0, 1) := by decide +kernel
theorem dX8_sum_49 : decode cX8_sum 49 = .ok (.iload_n 1, 1) := by decide +kernel
theorem dX8_sum_50 : decode cX8_sum 50 = .ok (.invokevirtual 94, 3) := by decide +kernel
theorem dX8_sum_53 : decode cX8_sum 53 = .ok (.ifCond .ne 5, 3) := by decide +kernel
theorem dX8_sum_56 : decode cX8_sum 56 = .ok (.iconst 0, 1) := by decide +kernel
theorem dX8_sum_57 : decode cX8_sum 57 = .ok (.ireturn, 1) := by decide +kernel
theorem dX8_sum_58 : decode cX8_sum 58 = .ok (.aload_n 0, 1) := by decide +kernel
theorem dX8_sum_59 : decode cX8_sum 59 = .ok (.getfield 24, 3) := by decide +kernel
theorem dX8_sum_62 : decode cX8_sum 62 = .ok (.iload_n 3, 1) := by decide +kernel
theorem dX8_sum_63 : decode cX8_sum 63 = .ok (.bipush 43, 2) := by decide +kernel
theorem dX8_sum_65 : decode cX8_sum 65 = .ok (.if_icmp .ne 7, 3) := by decide +kernel
theorem dX8_sum_68 : decode cX8_sum 68 = .ok (.iconst 2, 1) := by decide +kernel
theorem dX8_sum_69 : decode cX8_sum 69 = .ok (.goto 4, 3) := by decide +kernel
theorem dX8_sum_72 : decode cX8_sum 72 = .ok (.iconst 3, 1) := by decide +kernel
theorem dX8_sum_73 : decode cX8_sum 73 = .ok (.iconst 0, 1) := by decide +kernel
theorem dX8_sum_74 : decode cX8_sum 74 = .ok (.invokevirtual 58, 3) := by decide +kernel
theorem dX8_sum_77 : decode cX8_sum 77 = .ok (.iinc 2 1, 3) := by decide +kernel
theorem dX8_sum_80 : decode cX8_sum 80 = .ok (.goto (-68), 3) := by decide +kernel
theorem dX8_sum_83 : decode cX8_sum 83 = .ok (.iconst 1, 1) := by decide +kernel
theorem dX8_sum_84 : decode cX8_sum 84 = .ok (.ireturn, 1) := by decide +kernel
theorem okX8_sum : ab_okM MX8_sum 1 := ⟨by decide, ⟨by decide, by decide⟩, ab_in 1211 (by decide +kernel) (by decide +kernel), ab_in 96 (by decide +kernel) (by decide +kernel), by decide +kernel, by decide⟩
abbrev MX8_term : ab_M := (yX8_term, cX8_term, 3, (some .boolean))
theorem dX8_term_0 : decode cX8_term 0 = .ok (.aload_n 0, 1) := by decide +kernel
theorem dX8_term_1 : decode cX8_term 1 = .ok (.iload_n 1, 1) := by decide +kernel
theorem dX8_term_2 : decode cX8_term 2 = .ok (.invokevirtual 97, 3) := by decide +kernel
theorem dX8_term_5 : decode cX8_term 5 = .ok (.ifCond .ne 5, 3) := by decide +kernel
theorem dX8_term_8 : decode cX8_term 8 = .ok (.iconst 0, 1) := by decide +kernel
theorem dX8_term_9 : decode cX8_term 9 = .ok (.ireturn, 1) := by decide +kernel
theorem dX8_term_10 : decode cX8_term 10 = .ok (.iconst 0, 1) := by decide +kernel
theorem dX8_term_11 : decode cX8_term 11 = .ok (.istore_n 2, 1) := by decide +kernel
theorem dX8_term_12 : decode cX8_term 12 = .ok (.iload_n 2, 1) := by decide +kernel
theorem dX8_term_13 : decode cX8_term 13 = .ok (.sipush 200, 3) := by decide +kernel
theorem dX8_term_16 : decode cX8_term 16 = .ok (.if_icmp .ge 37, 3) := by decide +kernel
theorem dX8_term_19 : decode cX8_term 19 = .ok (.aload_n 0, 1) := by decide +kernel
theorem dX8_term_20 : decode cX8_term 20 = .ok (.bipush 42, 2) := by decide +kernel
theorem dX8_term_22 : decode cX8_term 22 = .ok (.invokevirtual 55, 3) := by decide +kernel
theorem dX8_term_25 : decode cX8_term 25 = .ok (.ifCond .eq 28, 3) := by decide +kernel
theorem dX8_term_28 : decode cX8_term 28 = .ok (.aload_n 0, 1) := by decide +kernel
theorem dX8_term_29 : decode cX8_term 29 = .ok (.iload_n 1, 1) := by decide +kernel
theorem dX8_term_30 : decode cX8_term 30 = .ok (.invokevirtual 97, 3) := by decide +kernel
theorem dX8_term_33 : decode cX8_term 33 = .ok (.ifCond .ne 5, 3) := by decide +kernel
theorem dX8_term_36 : decode cX8_term 36 = .ok (.iconst 0, 1) := by decide +kernel
theorem dX8_term_37 : decode cX8_term 37 = .ok (.ireturn, 1) := by decide +kernel
theorem dX8_term_38 : decode cX8_term 38 = .ok (.aload_n 0, 1) := by decide +kernel
theorem dX8_term_39 : decode cX8_term 39 = .ok (.getfield 24, 3) := by decide +kernel
theorem dX8_term_42 : decode cX8_term 42 = .ok (.iconst 4, 1) := by decide +kernel
theorem dX8_term_43 : decode cX8_term 43 = .ok (.iconst 0, 1) := by decide +kernel
theorem dX8_term_44 : decode cX8_term 44 = .ok (.invokevirtual 58, 3) := by decide +kernel
theorem dX8_term_47 : decode cX8_term 47 = .ok (.iinc 2 1, 3) := by decide +kernel
theorem dX8_term_50 : decode cX8_term 50 = .ok (.goto (-38), 3) := by decide +kernel
theorem dX8_term_53 : decode cX8_term 53 = .ok (.iconst 1, 1) := by decide +kernel
theorem dX8_term_54 : decode cX8_term 54 = .ok (.ireturn, 1) := by decide +kernel
theorem okX8_term : ab_okM MX8_term 1 := ⟨by decide, ⟨by decide, by decide⟩, ab_in 1215 (by decide +kernel) (by decide +kernel), ab_in 96 (by decide +kernel) (by decide +kernel), by decide +kernel, by decide⟩
set_option maxHeartbeats 4000000 in
set_option maxRecDepth 100000 in
theorem bsX8_atom (RX8_atom : Int32 → ab_X → (Int32 → ab_X → Prop) → Prop) (RX8_sum : Int32 → ab_X → (Int32 → ab_X → Prop) → Prop) (RX8_term : Int32 → ab_X → (Int32 → ab_X → Prop) → Prop) (v1 : Int32)  (x : ab_X) (K : Int32 → ab_X → Prop) (d bc bs : Nat) (hdp : 5 ≤ d) (dr : Nat) (hRX8_atom : ∀ (v1 : Int32)  (x : ab_X) (K : Int32 → ab_X → Prop), RX8_atom v1 x K → EW MX8_atom 0 [(0, .ref 158), (1, .int v1)] [] (aS x) dr 0 0 (liI K)) (hRX8_sum : ∀ (v1 : Int32)  (x : ab_X) (K : Int32 → ab_X → Prop), RX8_sum v1 x K → EW MX8_sum 0 [(0, .ref 158), (1, .int v1)] [] (aS x) dr 0 0 (liI K)) (hRX8_term : ∀ (v1 : Int32)  (x : ab_X) (K : Int32 → ab_X → Prop), RX8_term v1 x K → EW MX8_term 0 [(0, .ref 158), (1, .int v1)] [] (aS x) dr 0 0 (liI K)) (hdr : dr + 1 ≤ d) (h : bX8_atom RX8_atom RX8_sum RX8_term v1 x K) : EW MX8_atom 0 [(0, .ref 158), (1, .int v1)] [] (aS x) d bc bs (liI K) := by
  unfold bX8_atom at h
  refine EW_aload_n (pc2 := 1) rfl dX8_atom_0 0 rfl ?_
  refine AW_invV (M' := MX8_peek) [] (rest := []) mlRX8_46 okX8_peek (pc2 := 4) rfl dX8_atom_1 rfl rfl (Nat.le_of_ble_eq_true rfl) (Nat.le_of_ble_eq_true rfl) (d' := 0) (by omega) q158 ⟨by decide, rfl⟩ (EW_mono (fun _ _ hr => ?_) (sX8_peek   x _ _ 0 0 (Nat.le_refl _) h))
  obtain ⟨r1, x2, rfl, rfl, h⟩ := hr
  refine EW_istore_n (pc2 := 5) rfl dX8_atom_4 (by decide) [1, 2, 0] [(0, .ref 158), (1, .int v1), (2, .int r1)] rfl ?_
  refine EW_iload_n (pc2 := 6) rfl dX8_atom_5 2 rfl ?_
  refine EW_bipush (pc2 := 8) (v := 91) rfl dX8_atom_6 (by decide) ?_
  refine EW_icmp_ne (tgt := 44) (pc2 := 11) rfl dX8_atom_8 (by decide) (fun q => ?_) (fun q => ?_)
  · replace h := h.1 q
    refine EW_iload_n (pc2 := 45) rfl dX8_atom_44 2 rfl ?_
    refine AW_invS (M' := MX8_isDigit) [.int r1] (rest := []) mlRX8_76 okX8_isDigit (pc2 := 48) rfl dX8_atom_45 rfl rfl (Nat.le_of_ble_eq_true rfl) (Nat.le_of_ble_eq_true rfl) (d' := 0) (by omega) (EW_mono (fun _ _ hr => ?_) (sX8_isDigit r1  x2 _ _ 0 0 (Nat.le_refl _) h))
    obtain ⟨r3, rfl, rfl, h⟩ := hr
    refine EW_if_eq (tgt := 58) (pc2 := 51) rfl dX8_atom_48 (by decide) (fun q => ?_) (fun q => ?_)
    · replace h := h.1 q
      refine EW_aload_n (pc2 := 59) rfl dX8_atom_58 0 rfl ?_
      refine EW_aload_n (pc2 := 60) rfl dX8_atom_59 0 rfl ?_
      refine AW_getr (r := x2.2.2.2.1) ⟨gfRX8_17, rfl⟩ (pc2 := 63) rfl dX8_atom_60 q158 rfl ?_
      obtain ⟨z4, h⟩ := h
      refine AW_invV (M' := MX8_indexIn) [.ref x2.2.2.2.1] (rest := []) mlRX8_72 okX8_indexIn (pc2 := 66) rfl dX8_atom_63 rfl rfl (Nat.le_of_ble_eq_true rfl) (Nat.le_of_ble_eq_true rfl) (d' := 4) (by omega) q158 ⟨by decide, rfl⟩ (EW_mono (fun _ _ hr => ?_) (sX8_indexIn x2.2.2.2.1 z4 x2 _ _ 0 0 (Nat.le_refl _) h))
      obtain ⟨r5, x6, rfl, rfl, h⟩ := hr
      refine EW_istore_n (pc2 := 67) rfl dX8_atom_66 (by decide) [1, 2, 3, 0] [(0, .ref 158), (1, .int v1), (2, .int r1), (3, .int r5)] rfl ?_
      refine EW_iload_n (pc2 := 68) rfl dX8_atom_67 3 rfl ?_
      refine EW_iconst (pc2 := 69) (v := (-1)) rfl dX8_atom_68 (by decide) ?_
      refine EW_icmp_ne (tgt := 74) (pc2 := 72) rfl dX8_atom_69 (by decide) (fun q => ?_) (fun q => ?_)
      · replace h := h.1 q
        refine EW_aload_n (pc2 := 75) rfl dX8_atom_74 0 rfl ?_
        refine AW_getr (r := 160) ⟨gfRX8_24, rfl⟩ (pc2 := 78) rfl dX8_atom_75 q158 rfl ?_
        refine EW_iconst (pc2 := 79) (v := 1) rfl dX8_atom_78 (by decide) ?_
        refine EW_iload_n (pc2 := 80) rfl dX8_atom_79 3 rfl ?_
        refine AW_invV (M' := MX9_add) [.int 1, .int r5] (rest := []) mlRX8_58 okX9_add (pc2 := 83) rfl dX8_atom_80 rfl rfl (Nat.le_of_ble_eq_true rfl) (Nat.le_of_ble_eq_true rfl) (d' := 0) (by omega) q160 ⟨by decide, rfl⟩ (EW_mono (fun _ _ hr => ?_) (sX9_add 160 1 r5 (Or.inr (Or.inr (Or.inl rfl)) : isT 160) x6 _ _ 0 0 (Nat.le_refl _) h))
        obtain ⟨x7, rfl, rfl, h⟩ := hr
        refine EW_aload_n (pc2 := 84) rfl dX8_atom_83 0 rfl ?_
        refine EW_dup (pc2 := 85) rfl dX8_atom_84 rfl ?_
        refine AW_geti ⟨gfRX8_36, rfl⟩ (pc2 := 88) rfl dX8_atom_85 q158 ?_
        refine EW_iconst (pc2 := 89) (v := 1) rfl dX8_atom_88 (by decide) ?_
        refine EW_iadd (pc2 := 90) rfl dX8_atom_89 ?_
        refine AW_puti ⟨gfRX8_36, rfl, rfl⟩ (pc2 := 93) rfl dX8_atom_90 q158 ?_
        refine EW_iconst (pc2 := 94) (v := 1) rfl dX8_atom_93 (by decide) ?_
        exact AW_zret rfl isB1 dX8_atom_94 ⟨_, _, rfl, rfl, h⟩
      · replace h := h.2 q
        refine EW_iconst (pc2 := 73) (v := 0) rfl dX8_atom_72 (by decide) ?_
        exact AW_zret rfl isB0 dX8_atom_73 ⟨_, _, rfl, rfl, h⟩
    · replace h := h.2 q
      refine EW_aload_n (pc2 := 52) rfl dX8_atom_51 0 rfl ?_
      refine EW_iconst (pc2 := 53) (v := 4) rfl dX8_atom_52 (by decide) ?_
      refine EW_iconst (pc2 := 54) (v := 0) rfl dX8_atom_53 (by decide) ?_
      refine AW_invV (M' := MX8_number) [.int 4, .int 0] (rest := []) mlRX8_66 okX8_number (pc2 := 57) rfl dX8_atom_54 rfl rfl (Nat.le_of_ble_eq_true rfl) (Nat.le_of_ble_eq_true rfl) (d' := 1) (by omega) q158 ⟨by decide, rfl⟩ (EW_mono (fun _ _ hr => ?_) (sX8_number 4 0  x2 _ _ 0 0 (Nat.le_refl _) h))
      obtain ⟨r8, x9, rfl, rfl, h⟩ := hr
      obtain ⟨z10, h⟩ := h
      exact AW_zret rfl z10 dX8_atom_57 ⟨_, _, rfl, rfl, h⟩
  · replace h := h.2 q
    refine EW_aload_n (pc2 := 12) rfl dX8_atom_11 0 rfl ?_
    refine EW_iload_n (pc2 := 13) rfl dX8_atom_12 1 rfl ?_
    refine AW_invV (M' := MX8_opens) [.int v1] (rest := []) mlRX8_85 okX8_opens (pc2 := 16) rfl dX8_atom_13 rfl rfl (Nat.le_of_ble_eq_true rfl) (Nat.le_of_ble_eq_true rfl) (d' := 0) (by omega) q158 ⟨by decide, rfl⟩ (EW_mono (fun _ _ hr => ?_) (sX8_opens v1  x2 _ _ 0 0 (Nat.le_refl _) h))
    obtain ⟨r11, x12, rfl, rfl, h⟩ := hr
    refine EW_if_eq (tgt := 42) (pc2 := 19) rfl dX8_atom_16 (by decide) (fun q => ?_) (fun q => ?_)
    · replace h := h.1 q
      refine EW_iconst (pc2 := 43) (v := 0) rfl dX8_atom_42 (by decide) ?_
      exact AW_zret rfl isB0 dX8_atom_43 ⟨_, _, rfl, rfl, h⟩
    · replace h := h.2 q
      refine EW_aload_n (pc2 := 20) rfl dX8_atom_19 0 rfl ?_
      refine EW_iload_n (pc2 := 21) rfl dX8_atom_20 1 rfl ?_
      refine EW_iconst (pc2 := 22) (v := 1) rfl dX8_atom_21 (by decide) ?_
      refine EW_iadd (pc2 := 23) rfl dX8_atom_22 ?_
      refine AW_invV (M' := MX8_sum) [.int (v1 + 1)] (rest := []) mlRX8_91 okX8_sum (pc2 := 26) rfl dX8_atom_23 rfl rfl (Nat.le_of_ble_eq_true rfl) (Nat.le_of_ble_eq_true rfl) (d' := dr) (by omega) q158 ⟨by decide, rfl⟩ (EW_mono (fun _ _ hr => ?_) (hRX8_sum (v1 + 1)  x12 _  h))
      obtain ⟨r13, x14, rfl, rfl, h⟩ := hr
      refine EW_if_eq (tgt := 42) (pc2 := 29) rfl dX8_atom_26 (by decide) (fun q => ?_) (fun q => ?_)
      · replace h := h.1 q
        refine EW_iconst (pc2 := 43) (v := 0) rfl dX8_atom_42 (by decide) ?_
        exact AW_zret rfl isB0 dX8_atom_43 ⟨_, _, rfl, rfl, h⟩
      · replace h := h.2 q
        refine EW_aload_n (pc2 := 30) rfl dX8_atom_29 0 rfl ?_
        refine EW_bipush (pc2 := 32) (v := 93) rfl dX8_atom_30 (by decide) ?_
        refine AW_invV (M' := MX8_passes) [.int 93] (rest := []) mlRX8_55 okX8_passes (pc2 := 35) rfl dX8_atom_32 rfl rfl (Nat.le_of_ble_eq_true rfl) (Nat.le_of_ble_eq_true rfl) (d' := 1) (by omega) q158 ⟨by decide, rfl⟩ (EW_mono (fun _ _ hr => ?_) (sX8_passes 93  x14 _ _ 0 0 (Nat.le_refl _) h))
        obtain ⟨r15, x16, rfl, rfl, h⟩ := hr
        refine EW_if_eq (tgt := 42) (pc2 := 38) rfl dX8_atom_35 (by decide) (fun q => ?_) (fun q => ?_)
        · replace h := h.1 q
          refine EW_iconst (pc2 := 43) (v := 0) rfl dX8_atom_42 (by decide) ?_
          exact AW_zret rfl isB0 dX8_atom_43 ⟨_, _, rfl, rfl, h⟩
        · replace h := h.2 q
          refine EW_iconst (pc2 := 39) (v := 1) rfl dX8_atom_38 (by decide) ?_
          refine EW_goto (tgt := 43) dX8_atom_39 (by decide) ?_
          exact AW_zret rfl isB1 dX8_atom_43 ⟨_, _, rfl, rfl, h⟩
set_option maxHeartbeats 4000000 in
set_option maxRecDepth 100000 in
theorem sX8_sum_73 (RX8_atom : Int32 → ab_X → (Int32 → ab_X → Prop) → Prop) (RX8_sum : Int32 → ab_X → (Int32 → ab_X → Prop) → Prop) (RX8_term : Int32 → ab_X → (Int32 → ab_X → Prop) → Prop) (v1 : Int32) (v2 : Int32) (s1 : Int32)  (x : ab_X) (K : Int32 → ab_X → Prop) (L12 : Int32 → ab_X → Prop) (d bc bs : Nat) (hdp : 1 ≤ d) (dr : Nat) (hRX8_atom : ∀ (v1 : Int32)  (x : ab_X) (K : Int32 → ab_X → Prop), RX8_atom v1 x K → EW MX8_atom 0 [(0, .ref 158), (1, .int v1)] [] (aS x) dr 0 0 (liI K)) (hRX8_sum : ∀ (v1 : Int32)  (x : ab_X) (K : Int32 → ab_X → Prop), RX8_sum v1 x K → EW MX8_sum 0 [(0, .ref 158), (1, .int v1)] [] (aS x) dr 0 0 (liI K)) (hRX8_term : ∀ (v1 : Int32)  (x : ab_X) (K : Int32 → ab_X → Prop), RX8_term v1 x K → EW MX8_term 0 [(0, .ref 158), (1, .int v1)] [] (aS x) dr 0 0 (liI K)) (hdr : dr + 1 ≤ d) (hL12 : ∀ (v2 : Int32) (x : ab_X), L12 v2 x → EW MX8_sum 12 [(0, .ref 158), (1, .int v1), (2, .int v2)] [] (aS x) d bc bs (liI K)) (h : wX8_sum_73 RX8_atom RX8_sum RX8_term v1 v2 s1 x K L12) : EW MX8_sum 73 [(0, .ref 158), (1, .int v1), (2, .int v2)] [.int s1, .ref 160] (aS x) d bc bs (liI K) := by
  unfold wX8_sum_73 at h
  refine EW_iconst (pc2 := 74) (v := 0) rfl dX8_sum_73 (by decide) ?_
  refine AW_invV (M' := MX9_add) [.int s1, .int 0] (rest := []) mlRX8_58 okX9_add (pc2 := 77) rfl dX8_sum_74 rfl rfl (Nat.le_of_ble_eq_true rfl) (Nat.le_of_ble_eq_true rfl) (d' := 0) (by omega) q160 ⟨by decide, rfl⟩ (EW_mono (fun _ _ hr => ?_) (sX9_add 160 s1 0 (Or.inr (Or.inr (Or.inl rfl)) : isT 160) x _ _ 0 0 (Nat.le_refl _) h))
  obtain ⟨x7, rfl, rfl, h⟩ := hr
  refine EW_iinc (v2 + 1) (pc2 := 80) rfl dX8_sum_77 2 rfl rfl (by decide) [1, 2, 0] [(0, .ref 158), (1, .int v1), (2, .int (v2 + 1))] rfl ?_
  refine EW_goto (tgt := 12) dX8_sum_80 (by decide) ?_
  exact hL12 (v2 + 1) x7 h
set_option maxHeartbeats 4000000 in
set_option maxRecDepth 100000 in
theorem sX8_sum_38 (RX8_atom : Int32 → ab_X → (Int32 → ab_X → Prop) → Prop) (RX8_sum : Int32 → ab_X → (Int32 → ab_X → Prop) → Prop) (RX8_term : Int32 → ab_X → (Int32 → ab_X → Prop) → Prop) (v1 : Int32) (v2 : Int32) (v3 : Int32)  (x : ab_X) (K : Int32 → ab_X → Prop) (L12 : Int32 → ab_X → Prop) (d bc bs : Nat) (hdp : 1 ≤ d) (dr : Nat) (hRX8_atom : ∀ (v1 : Int32)  (x : ab_X) (K : Int32 → ab_X → Prop), RX8_atom v1 x K → EW MX8_atom 0 [(0, .ref 158), (1, .int v1)] [] (aS x) dr 0 0 (liI K)) (hRX8_sum : ∀ (v1 : Int32)  (x : ab_X) (K : Int32 → ab_X → Prop), RX8_sum v1 x K → EW MX8_sum 0 [(0, .ref 158), (1, .int v1)] [] (aS x) dr 0 0 (liI K)) (hRX8_term : ∀ (v1 : Int32)  (x : ab_X) (K : Int32 → ab_X → Prop), RX8_term v1 x K → EW MX8_term 0 [(0, .ref 158), (1, .int v1)] [] (aS x) dr 0 0 (liI K)) (hdr : dr + 1 ≤ d) (hL12 : ∀ (v2 : Int32) (x : ab_X), L12 v2 x → EW MX8_sum 12 [(0, .ref 158), (1, .int v1), (2, .int v2)] [] (aS x) d bc bs (liI K)) (h : wX8_sum_38 RX8_atom RX8_sum RX8_term v1 v2 v3 x K L12) : EW MX8_sum 38 [(0, .ref 158), (1, .int v1), (2, .int v2), (3, .int v3)] [] (aS x) d bc bs (liI K) := by
  unfold wX8_sum_38 at h
  refine EW_aload_n (pc2 := 39) rfl dX8_sum_38 0 rfl ?_
  refine EW_dup (pc2 := 40) rfl dX8_sum_39 rfl ?_
  refine AW_geti ⟨gfRX8_36, rfl⟩ (pc2 := 43) rfl dX8_sum_40 q158 ?_
  refine EW_iconst (pc2 := 44) (v := 1) rfl dX8_sum_43 (by decide) ?_
  refine EW_iadd (pc2 := 45) rfl dX8_sum_44 ?_
  refine AW_puti ⟨gfRX8_36, rfl, rfl⟩ (pc2 := 48) rfl dX8_sum_45 q158 ?_
  refine EW_aload_n (pc2 := 49) rfl dX8_sum_48 0 rfl ?_
  refine EW_iload_n (pc2 := 50) rfl dX8_sum_49 1 rfl ?_
  refine AW_invV (M' := MX8_term) [.int v1] (rest := []) mlRX8_94 okX8_term (pc2 := 53) rfl dX8_sum_50 rfl rfl (Nat.le_of_ble_eq_true rfl) (Nat.le_of_ble_eq_true rfl) (d' := dr) (by omega) q158 ⟨by decide, rfl⟩ (EW_mono (fun _ _ hr => ?_) (hRX8_term v1  (wr x 158 2 ((x.1 158 2) + 1)) _  h))
  obtain ⟨r5, x6, rfl, rfl, h⟩ := hr
  refine EW_if_ne (tgt := 58) (pc2 := 56) rfl dX8_sum_53 (by decide) (fun q => ?_) (fun q => ?_)
  · replace h := h.1 q
    refine EW_aload_n (pc2 := 59) rfl dX8_sum_58 0 rfl ?_
    refine AW_getr (r := 160) ⟨gfRX8_24, rfl⟩ (pc2 := 62) rfl dX8_sum_59 q158 rfl ?_
    refine EW_iload_n (pc2 := 63) rfl dX8_sum_62 3 rfl ?_
    refine EW_bipush (pc2 := 65) (v := 43) rfl dX8_sum_63 (by decide) ?_
    refine EW_icmp_ne (tgt := 72) (pc2 := 68) rfl dX8_sum_65 (by decide) (fun q => ?_) (fun q => ?_)
    · replace h := h.1 q
      refine EW_iconst (pc2 := 73) (v := 3) rfl dX8_sum_72 (by decide) ?_
      refine EW_ls [0, 1, 2] rfl ?_
      exact sX8_sum_73 RX8_atom RX8_sum RX8_term v1 v2 3 x6 K L12 d bc bs hdp dr hRX8_atom hRX8_sum hRX8_term hdr hL12 h
    · replace h := h.2 q
      refine EW_iconst (pc2 := 69) (v := 2) rfl dX8_sum_68 (by decide) ?_
      refine EW_goto (tgt := 73) dX8_sum_69 (by decide) ?_
      refine EW_ls [0, 1, 2] rfl ?_
      exact sX8_sum_73 RX8_atom RX8_sum RX8_term v1 v2 2 x6 K L12 d bc bs hdp dr hRX8_atom hRX8_sum hRX8_term hdr hL12 h
  · replace h := h.2 q
    refine EW_iconst (pc2 := 57) (v := 0) rfl dX8_sum_56 (by decide) ?_
    exact AW_zret rfl isB0 dX8_sum_57 ⟨_, _, rfl, rfl, h⟩
set_option maxHeartbeats 4000000 in
set_option maxRecDepth 100000 in
theorem sX8_sum_12 (RX8_atom : Int32 → ab_X → (Int32 → ab_X → Prop) → Prop) (RX8_sum : Int32 → ab_X → (Int32 → ab_X → Prop) → Prop) (RX8_term : Int32 → ab_X → (Int32 → ab_X → Prop) → Prop) (v1 : Int32) (v2 : Int32)  (x : ab_X) (K : Int32 → ab_X → Prop)  (d bc bs : Nat) (hdp : 1 ≤ d) (dr : Nat) (hRX8_atom : ∀ (v1 : Int32)  (x : ab_X) (K : Int32 → ab_X → Prop), RX8_atom v1 x K → EW MX8_atom 0 [(0, .ref 158), (1, .int v1)] [] (aS x) dr 0 0 (liI K)) (hRX8_sum : ∀ (v1 : Int32)  (x : ab_X) (K : Int32 → ab_X → Prop), RX8_sum v1 x K → EW MX8_sum 0 [(0, .ref 158), (1, .int v1)] [] (aS x) dr 0 0 (liI K)) (hRX8_term : ∀ (v1 : Int32)  (x : ab_X) (K : Int32 → ab_X → Prop), RX8_term v1 x K → EW MX8_term 0 [(0, .ref 158), (1, .int v1)] [] (aS x) dr 0 0 (liI K)) (hdr : dr + 1 ≤ d)  (h : Lp2 (lX8_sum_12 RX8_atom RX8_sum RX8_term v1 K ) v2 x) : EW MX8_sum 12 [(0, .ref 158), (1, .int v1), (2, .int v2)] [] (aS x) d bc bs (liI K) := by
  refine Lp2.use (P := fun v2 x => EW MX8_sum 12 [(0, .ref 158), (1, .int v1), (2, .int v2)] [] (aS x) d bc bs (liI K)) (fun L12 v2 x hL12 h => ?_) v2 x h
  unfold lX8_sum_12 at h
  refine EW_iload_n (pc2 := 13) rfl dX8_sum_12 2 rfl ?_
  refine EW_sipush (pc2 := 16) (v := 200) rfl dX8_sum_13 (by decide) ?_
  refine EW_icmp_ge (tgt := 83) (pc2 := 19) rfl dX8_sum_16 (by decide) (fun q => ?_) (fun q => ?_)
  · replace h := h.1 q
    refine EW_iconst (pc2 := 84) (v := 1) rfl dX8_sum_83 (by decide) ?_
    exact AW_zret rfl isB1 dX8_sum_84 ⟨_, _, rfl, rfl, h⟩
  · replace h := h.2 q
    refine EW_aload_n (pc2 := 20) rfl dX8_sum_19 0 rfl ?_
    refine AW_invV (M' := MX8_peek) [] (rest := []) mlRX8_46 okX8_peek (pc2 := 23) rfl dX8_sum_20 rfl rfl (Nat.le_of_ble_eq_true rfl) (Nat.le_of_ble_eq_true rfl) (d' := 0) (by omega) q158 ⟨by decide, rfl⟩ (EW_mono (fun _ _ hr => ?_) (sX8_peek   x _ _ 0 0 (Nat.le_refl _) h))
    obtain ⟨r3, x4, rfl, rfl, h⟩ := hr
    refine EW_istore_n (pc2 := 24) rfl dX8_sum_23 (by decide) [1, 2, 3, 0] [(0, .ref 158), (1, .int v1), (2, .int v2), (3, .int r3)] rfl ?_
    refine EW_iload_n (pc2 := 25) rfl dX8_sum_24 3 rfl ?_
    refine EW_bipush (pc2 := 27) (v := 43) rfl dX8_sum_25 (by decide) ?_
    refine EW_icmp_eq (tgt := 38) (pc2 := 30) rfl dX8_sum_27 (by decide) (fun q => ?_) (fun q => ?_)
    · replace h := h.1 q
      exact sX8_sum_38 RX8_atom RX8_sum RX8_term v1 v2 r3 x4 K L12 d bc bs hdp dr hRX8_atom hRX8_sum hRX8_term hdr hL12 h
    · replace h := h.2 q
      refine EW_iload_n (pc2 := 31) rfl dX8_sum_30 3 rfl ?_
      refine EW_bipush (pc2 := 33) (v := 45) rfl dX8_sum_31 (by decide) ?_
      refine EW_icmp_eq (tgt := 38) (pc2 := 36) rfl dX8_sum_33 (by decide) (fun q => ?_) (fun q => ?_)
      · replace h := h.1 q
        exact sX8_sum_38 RX8_atom RX8_sum RX8_term v1 v2 r3 x4 K L12 d bc bs hdp dr hRX8_atom hRX8_sum hRX8_term hdr hL12 h
      · replace h := h.2 q
        refine EW_iconst (pc2 := 37) (v := 1) rfl dX8_sum_36 (by decide) ?_
        exact AW_zret rfl isB1 dX8_sum_37 ⟨_, _, rfl, rfl, h⟩
set_option maxHeartbeats 4000000 in
set_option maxRecDepth 100000 in
theorem bsX8_sum (RX8_atom : Int32 → ab_X → (Int32 → ab_X → Prop) → Prop) (RX8_sum : Int32 → ab_X → (Int32 → ab_X → Prop) → Prop) (RX8_term : Int32 → ab_X → (Int32 → ab_X → Prop) → Prop) (v1 : Int32)  (x : ab_X) (K : Int32 → ab_X → Prop) (d bc bs : Nat) (hdp : 1 ≤ d) (dr : Nat) (hRX8_atom : ∀ (v1 : Int32)  (x : ab_X) (K : Int32 → ab_X → Prop), RX8_atom v1 x K → EW MX8_atom 0 [(0, .ref 158), (1, .int v1)] [] (aS x) dr 0 0 (liI K)) (hRX8_sum : ∀ (v1 : Int32)  (x : ab_X) (K : Int32 → ab_X → Prop), RX8_sum v1 x K → EW MX8_sum 0 [(0, .ref 158), (1, .int v1)] [] (aS x) dr 0 0 (liI K)) (hRX8_term : ∀ (v1 : Int32)  (x : ab_X) (K : Int32 → ab_X → Prop), RX8_term v1 x K → EW MX8_term 0 [(0, .ref 158), (1, .int v1)] [] (aS x) dr 0 0 (liI K)) (hdr : dr + 1 ≤ d) (h : bX8_sum RX8_atom RX8_sum RX8_term v1 x K) : EW MX8_sum 0 [(0, .ref 158), (1, .int v1)] [] (aS x) d bc bs (liI K) := by
  unfold bX8_sum at h
  refine EW_aload_n (pc2 := 1) rfl dX8_sum_0 0 rfl ?_
  refine EW_iload_n (pc2 := 2) rfl dX8_sum_1 1 rfl ?_
  refine AW_invV (M' := MX8_term) [.int v1] (rest := []) mlRX8_94 okX8_term (pc2 := 5) rfl dX8_sum_2 rfl rfl (Nat.le_of_ble_eq_true rfl) (Nat.le_of_ble_eq_true rfl) (d' := dr) (by omega) q158 ⟨by decide, rfl⟩ (EW_mono (fun _ _ hr => ?_) (hRX8_term v1  x _  h))
  obtain ⟨r1, x2, rfl, rfl, h⟩ := hr
  refine EW_if_ne (tgt := 10) (pc2 := 8) rfl dX8_sum_5 (by decide) (fun q => ?_) (fun q => ?_)
  · replace h := h.1 q
    refine EW_iconst (pc2 := 11) (v := 0) rfl dX8_sum_10 (by decide) ?_
    refine EW_istore_n (pc2 := 12) rfl dX8_sum_11 (by decide) [1, 2, 0] [(0, .ref 158), (1, .int v1), (2, .int 0)] rfl ?_
    exact sX8_sum_12 RX8_atom RX8_sum RX8_term v1 0 x2 K d bc bs hdp dr hRX8_atom hRX8_sum hRX8_term hdr h
  · replace h := h.2 q
    refine EW_iconst (pc2 := 9) (v := 0) rfl dX8_sum_8 (by decide) ?_
    exact AW_zret rfl isB0 dX8_sum_9 ⟨_, _, rfl, rfl, h⟩
set_option maxHeartbeats 4000000 in
set_option maxRecDepth 100000 in
theorem sX8_term_12 (RX8_atom : Int32 → ab_X → (Int32 → ab_X → Prop) → Prop) (RX8_sum : Int32 → ab_X → (Int32 → ab_X → Prop) → Prop) (RX8_term : Int32 → ab_X → (Int32 → ab_X → Prop) → Prop) (v1 : Int32) (v2 : Int32)  (x : ab_X) (K : Int32 → ab_X → Prop)  (d bc bs : Nat) (hdp : 2 ≤ d) (dr : Nat) (hRX8_atom : ∀ (v1 : Int32)  (x : ab_X) (K : Int32 → ab_X → Prop), RX8_atom v1 x K → EW MX8_atom 0 [(0, .ref 158), (1, .int v1)] [] (aS x) dr 0 0 (liI K)) (hRX8_sum : ∀ (v1 : Int32)  (x : ab_X) (K : Int32 → ab_X → Prop), RX8_sum v1 x K → EW MX8_sum 0 [(0, .ref 158), (1, .int v1)] [] (aS x) dr 0 0 (liI K)) (hRX8_term : ∀ (v1 : Int32)  (x : ab_X) (K : Int32 → ab_X → Prop), RX8_term v1 x K → EW MX8_term 0 [(0, .ref 158), (1, .int v1)] [] (aS x) dr 0 0 (liI K)) (hdr : dr + 1 ≤ d)  (h : Lp2 (lX8_term_12 RX8_atom RX8_sum RX8_term v1 K ) v2 x) : EW MX8_term 12 [(0, .ref 158), (1, .int v1), (2, .int v2)] [] (aS x) d bc bs (liI K) := by
  refine Lp2.use (P := fun v2 x => EW MX8_term 12 [(0, .ref 158), (1, .int v1), (2, .int v2)] [] (aS x) d bc bs (liI K)) (fun L12 v2 x hL12 h => ?_) v2 x h
  unfold lX8_term_12 at h
  refine EW_iload_n (pc2 := 13) rfl dX8_term_12 2 rfl ?_
  refine EW_sipush (pc2 := 16) (v := 200) rfl dX8_term_13 (by decide) ?_
  refine EW_icmp_ge (tgt := 53) (pc2 := 19) rfl dX8_term_16 (by decide) (fun q => ?_) (fun q => ?_)
  · replace h := h.1 q
    refine EW_iconst (pc2 := 54) (v := 1) rfl dX8_term_53 (by decide) ?_
    exact AW_zret rfl isB1 dX8_term_54 ⟨_, _, rfl, rfl, h⟩
  · replace h := h.2 q
    refine EW_aload_n (pc2 := 20) rfl dX8_term_19 0 rfl ?_
    refine EW_bipush (pc2 := 22) (v := 42) rfl dX8_term_20 (by decide) ?_
    refine AW_invV (M' := MX8_passes) [.int 42] (rest := []) mlRX8_55 okX8_passes (pc2 := 25) rfl dX8_term_22 rfl rfl (Nat.le_of_ble_eq_true rfl) (Nat.le_of_ble_eq_true rfl) (d' := 1) (by omega) q158 ⟨by decide, rfl⟩ (EW_mono (fun _ _ hr => ?_) (sX8_passes 42  x _ _ 0 0 (Nat.le_refl _) h))
    obtain ⟨r3, x4, rfl, rfl, h⟩ := hr
    refine EW_if_eq (tgt := 53) (pc2 := 28) rfl dX8_term_25 (by decide) (fun q => ?_) (fun q => ?_)
    · replace h := h.1 q
      refine EW_iconst (pc2 := 54) (v := 1) rfl dX8_term_53 (by decide) ?_
      exact AW_zret rfl isB1 dX8_term_54 ⟨_, _, rfl, rfl, h⟩
    · replace h := h.2 q
      refine EW_aload_n (pc2 := 29) rfl dX8_term_28 0 rfl ?_
      refine EW_iload_n (pc2 := 30) rfl dX8_term_29 1 rfl ?_
      refine AW_invV (M' := MX8_atom) [.int v1] (rest := []) mlRX8_97 okX8_atom (pc2 := 33) rfl dX8_term_30 rfl rfl (Nat.le_of_ble_eq_true rfl) (Nat.le_of_ble_eq_true rfl) (d' := dr) (by omega) q158 ⟨by decide, rfl⟩ (EW_mono (fun _ _ hr => ?_) (hRX8_atom v1  x4 _  h))
      obtain ⟨r5, x6, rfl, rfl, h⟩ := hr
      refine EW_if_ne (tgt := 38) (pc2 := 36) rfl dX8_term_33 (by decide) (fun q => ?_) (fun q => ?_)
      · replace h := h.1 q
        refine EW_aload_n (pc2 := 39) rfl dX8_term_38 0 rfl ?_
        refine AW_getr (r := 160) ⟨gfRX8_24, rfl⟩ (pc2 := 42) rfl dX8_term_39 q158 rfl ?_
        refine EW_iconst (pc2 := 43) (v := 4) rfl dX8_term_42 (by decide) ?_
        refine EW_iconst (pc2 := 44) (v := 0) rfl dX8_term_43 (by decide) ?_
        refine AW_invV (M' := MX9_add) [.int 4, .int 0] (rest := []) mlRX8_58 okX9_add (pc2 := 47) rfl dX8_term_44 rfl rfl (Nat.le_of_ble_eq_true rfl) (Nat.le_of_ble_eq_true rfl) (d' := 0) (by omega) q160 ⟨by decide, rfl⟩ (EW_mono (fun _ _ hr => ?_) (sX9_add 160 4 0 (Or.inr (Or.inr (Or.inl rfl)) : isT 160) x6 _ _ 0 0 (Nat.le_refl _) h))
        obtain ⟨x7, rfl, rfl, h⟩ := hr
        refine EW_iinc (v2 + 1) (pc2 := 50) rfl dX8_term_47 2 rfl rfl (by decide) [1, 2, 0] [(0, .ref 158), (1, .int v1), (2, .int (v2 + 1))] rfl ?_
        refine EW_goto (tgt := 12) dX8_term_50 (by decide) ?_
        exact hL12 (v2 + 1) x7 h
      · replace h := h.2 q
        refine EW_iconst (pc2 := 37) (v := 0) rfl dX8_term_36 (by decide) ?_
        exact AW_zret rfl isB0 dX8_term_37 ⟨_, _, rfl, rfl, h⟩
set_option maxHeartbeats 4000000 in
set_option maxRecDepth 100000 in
theorem bsX8_term (RX8_atom : Int32 → ab_X → (Int32 → ab_X → Prop) → Prop) (RX8_sum : Int32 → ab_X → (Int32 → ab_X → Prop) → Prop) (RX8_term : Int32 → ab_X → (Int32 → ab_X → Prop) → Prop) (v1 : Int32)  (x : ab_X) (K : Int32 → ab_X → Prop) (d bc bs : Nat) (hdp : 2 ≤ d) (dr : Nat) (hRX8_atom : ∀ (v1 : Int32)  (x : ab_X) (K : Int32 → ab_X → Prop), RX8_atom v1 x K → EW MX8_atom 0 [(0, .ref 158), (1, .int v1)] [] (aS x) dr 0 0 (liI K)) (hRX8_sum : ∀ (v1 : Int32)  (x : ab_X) (K : Int32 → ab_X → Prop), RX8_sum v1 x K → EW MX8_sum 0 [(0, .ref 158), (1, .int v1)] [] (aS x) dr 0 0 (liI K)) (hRX8_term : ∀ (v1 : Int32)  (x : ab_X) (K : Int32 → ab_X → Prop), RX8_term v1 x K → EW MX8_term 0 [(0, .ref 158), (1, .int v1)] [] (aS x) dr 0 0 (liI K)) (hdr : dr + 1 ≤ d) (h : bX8_term RX8_atom RX8_sum RX8_term v1 x K) : EW MX8_term 0 [(0, .ref 158), (1, .int v1)] [] (aS x) d bc bs (liI K) := by
  unfold bX8_term at h
  refine EW_aload_n (pc2 := 1) rfl dX8_term_0 0 rfl ?_
  refine EW_iload_n (pc2 := 2) rfl dX8_term_1 1 rfl ?_
  refine AW_invV (M' := MX8_atom) [.int v1] (rest := []) mlRX8_97 okX8_atom (pc2 := 5) rfl dX8_term_2 rfl rfl (Nat.le_of_ble_eq_true rfl) (Nat.le_of_ble_eq_true rfl) (d' := dr) (by omega) q158 ⟨by decide, rfl⟩ (EW_mono (fun _ _ hr => ?_) (hRX8_atom v1  x _  h))
  obtain ⟨r1, x2, rfl, rfl, h⟩ := hr
  refine EW_if_ne (tgt := 10) (pc2 := 8) rfl dX8_term_5 (by decide) (fun q => ?_) (fun q => ?_)
  · replace h := h.1 q
    refine EW_iconst (pc2 := 11) (v := 0) rfl dX8_term_10 (by decide) ?_
    refine EW_istore_n (pc2 := 12) rfl dX8_term_11 (by decide) [1, 2, 0] [(0, .ref 158), (1, .int v1), (2, .int 0)] rfl ?_
    exact sX8_term_12 RX8_atom RX8_sum RX8_term v1 0 x2 K d bc bs hdp dr hRX8_atom hRX8_sum hRX8_term hdr h
  · replace h := h.2 q
    refine EW_iconst (pc2 := 9) (v := 0) rfl dX8_term_8 (by decide) ?_
    exact AW_zret rfl isB0 dX8_term_9 ⟨_, _, rfl, rfl, h⟩
set_option maxHeartbeats 4000000 in
theorem famX8_atomS : ∀ n, (∀ (v1 : Int32)  (x : ab_X) (K : Int32 → ab_X → Prop), (famX8_atom n).1 v1 x K → EW MX8_atom 0 [(0, .ref 158), (1, .int v1)] [] (aS x) (5 + n) 0 0 (liI K)) ∧ (∀ (v1 : Int32)  (x : ab_X) (K : Int32 → ab_X → Prop), (famX8_atom n).2.1 v1 x K → EW MX8_sum 0 [(0, .ref 158), (1, .int v1)] [] (aS x) (5 + n) 0 0 (liI K)) ∧ (∀ (v1 : Int32)  (x : ab_X) (K : Int32 → ab_X → Prop), (famX8_atom n).2.2 v1 x K → EW MX8_term 0 [(0, .ref 158), (1, .int v1)] [] (aS x) (5 + n) 0 0 (liI K)) := by
  intro n
  induction n with
  | zero => exact ⟨fun v1  x K h => False.elim h, fun v1  x K h => False.elim h, fun v1  x K h => False.elim h⟩
  | succ n ih =>
    obtain ⟨i0, i1, i2⟩ := ih
    exact ⟨fun v1  x K h => bsX8_atom _ _ _ v1  x K (5 + (n + 1)) 0 0 (by omega) (5 + n) i0 i1 i2 (by omega) h, fun v1  x K h => bsX8_sum _ _ _ v1  x K (5 + (n + 1)) 0 0 (by omega) (5 + n) i0 i1 i2 (by omega) h, fun v1  x K h => bsX8_term _ _ _ v1  x K (5 + (n + 1)) 0 0 (by omega) (5 + n) i0 i1 i2 (by omega) h⟩
theorem sX8_atom (v1 : Int32)  (x : ab_X) (K : Int32 → ab_X → Prop) (d bc bs : Nat) (hdp : 106 ≤ d) (h : wX8_atom v1 x K) : EW MX8_atom 0 [(0, .ref 158), (1, .int v1)] [] (aS x) d bc bs (liI K) := by
  obtain ⟨n, hn, h⟩ := h
  cases n with
  | zero => exact False.elim h
  | succ n =>
    obtain ⟨i0, i1, i2⟩ := famX8_atomS n
    exact bsX8_atom _ _ _ v1  x K d bc bs (by omega) (5 + n) i0 i1 i2 (by omega) h
theorem sX8_sum (v1 : Int32)  (x : ab_X) (K : Int32 → ab_X → Prop) (d bc bs : Nat) (hdp : 106 ≤ d) (h : wX8_sum v1 x K) : EW MX8_sum 0 [(0, .ref 158), (1, .int v1)] [] (aS x) d bc bs (liI K) := by
  obtain ⟨n, hn, h⟩ := h
  cases n with
  | zero => exact False.elim h
  | succ n =>
    obtain ⟨i0, i1, i2⟩ := famX8_atomS n
    exact bsX8_sum _ _ _ v1  x K d bc bs (by omega) (5 + n) i0 i1 i2 (by omega) h
theorem sX8_term (v1 : Int32)  (x : ab_X) (K : Int32 → ab_X → Prop) (d bc bs : Nat) (hdp : 106 ≤ d) (h : wX8_term v1 x K) : EW MX8_term 0 [(0, .ref 158), (1, .int v1)] [] (aS x) d bc bs (liI K) := by
  obtain ⟨n, hn, h⟩ := h
  cases n with
  | zero => exact False.elim h
  | succ n =>
    obtain ⟨i0, i1, i2⟩ := famX8_atomS n
    exact bsX8_term _ _ _ v1  x K d bc bs (by omega) (5 + n) i0 i1 i2 (by omega) h
abbrev MX8_comparison : ab_M := (yX8_comparison, cX8_comparison, 3, (some .boolean))
theorem dX8_comparison_0 : decode cX8_comparison 0 = .ok (.aload_n 0, 1) := by decide +kernel
theorem dX8_comparison_1 : decode cX8_comparison 1 = .ok (.iload_n 1, 1) := by decide +kernel
theorem dX8_comparison_2 : decode cX8_comparison 2 = .ok (.invokevirtual 91, 3) := by decide +kernel
theorem dX8_comparison_5 : decode cX8_comparison 5 = .ok (.ifCond .ne 5, 3) := by decide +kernel
theorem dX8_comparison_8 : decode cX8_comparison 8 = .ok (.iconst 0, 1) := by decide +kernel
theorem dX8_comparison_9 : decode cX8_comparison 9 = .ok (.ireturn, 1) := by decide +kernel
theorem dX8_comparison_10 : decode cX8_comparison 10 = .ok (.aload_n 0, 1) := by decide +kernel
theorem dX8_comparison_11 : decode cX8_comparison 11 = .ok (.invokevirtual 46, 3) := by decide +kernel
theorem dX8_comparison_14 : decode cX8_comparison 14 = .ok (.istore_n 2, 1) := by decide +kernel
theorem dX8_comparison_15 : decode cX8_comparison 15 = .ok (.iload_n 2, 1) := by decide +kernel
theorem dX8_comparison_16 : decode cX8_comparison 16 = .ok (.bipush 61, 2) := by decide +kernel
theorem dX8_comparison_18 : decode cX8_comparison 18 = .ok (.if_icmp .eq 17, 3) := by decide +kernel
theorem dX8_comparison_21 : decode cX8_comparison 21 = .ok (.iload_n 2, 1) := by decide +kernel
theorem dX8_comparison_22 : decode cX8_comparison 22 = .ok (.bipush 60, 2) := by decide +kernel
theorem dX8_comparison_24 : decode cX8_comparison 24 = .ok (.if_icmp .eq 11, 3) := by decide +kernel
theorem dX8_comparison_27 : decode cX8_comparison 27 = .ok (.iload_n 2, 1) := by decide +kernel
theorem dX8_comparison_28 : decode cX8_comparison 28 = .ok (.bipush 62, 2) := by decide +kernel
theorem dX8_comparison_30 : decode cX8_comparison 30 = .ok (.if_icmp .eq 5, 3) := by decide +kernel
theorem dX8_comparison_33 : decode cX8_comparison 33 = .ok (.iconst 0, 1) := by decide +kernel
theorem dX8_comparison_34 : decode cX8_comparison 34 = .ok (.ireturn, 1) := by decide +kernel
theorem dX8_comparison_35 : decode cX8_comparison 35 = .ok (.aload_n 0, 1) := by decide +kernel
theorem dX8_comparison_36 : decode cX8_comparison 36 = .ok (.dup, 1) := by decide +kernel
theorem dX8_comparison_37 : decode cX8_comparison 37 = .ok (.getfield 36, 3) := by decide +kernel
theorem dX8_comparison_40 : decode cX8_comparison 40 = .ok (.iconst 1, 1) := by decide +kernel
theorem dX8_comparison_41 : decode cX8_comparison 41 = .ok (.iadd, 1) := by decide +kernel
theorem dX8_comparison_42 : decode cX8_comparison 42 = .ok (.putfield 36, 3) := by decide +kernel
theorem dX8_comparison_45 : decode cX8_comparison 45 = .ok (.aload_n 0, 1) := by decide +kernel
theorem dX8_comparison_46 : decode cX8_comparison 46 = .ok (.iload_n 1, 1) := by decide +kernel
theorem dX8_comparison_47 : decode cX8_comparison 47 = .ok (.invokevirtual 91, 3) := by decide +kernel
theorem dX8_comparison_50 : decode cX8_comparison 50 = .ok (.ifCond .ne 5, 3) := by decide +kernel
theorem dX8_comparison_53 : decode cX8_comparison 53 = .ok (.iconst 0, 1) := by decide +kernel
theorem dX8_comparison_54 : decode cX8_comparison 54 = .ok (.ireturn, 1) := by decide +kernel
theorem dX8_comparison_55 : decode cX8_comparison 55 = .ok (.aload_n 0, 1) := by decide +kernel
theorem dX8_comparison_56 : decode cX8_comparison 56 = .ok (.getfield 24, 3) := by decide +kernel
theorem dX8_comparison_59 : decode cX8_comparison 59 = .ok (.iload_n 2, 1) := by decide +kernel
theorem dX8_comparison_60 : decode cX8_comparison 60 = .ok (.bipush 61, 2) := by decide +kernel
theorem dX8_comparison_62 : decode cX8_comparison 62 = .ok (.if_icmp .ne 7, 3) := by decide +kernel
theorem dX8_comparison_65 : decode cX8_comparison 65 = .ok (.iconst 5, 1) := by decide +kernel
theorem dX8_comparison_66 : decode cX8_comparison 66 = .ok (.goto 16, 3) := by decide +kernel
theorem dX8_comparison_69 : decode cX8_comparison 69 = .ok (.iload_n 2, 1) := by decide +kernel
theorem dX8_comparison_70 : decode cX8_comparison 70 = .ok (.bipush 60, 2) := by decide +kernel
theorem dX8_comparison_72 : decode cX8_comparison 72 = .ok (.if_icmp .ne 8, 3) := by decide +kernel
theorem dX8_comparison_75 : decode cX8_comparison 75 = .ok (.bipush 6, 2) := by decide +kernel
theorem dX8_comparison_77 : decode cX8_comparison 77 = .ok (.goto 5, 3) := by decide +kernel
theorem dX8_comparison_80 : decode cX8_comparison 80 = .ok (.bipush 7, 2) := by decide +kernel
theorem dX8_comparison_82 : decode cX8_comparison 82 = .ok (.iconst 0, 1) := by decide +kernel
theorem dX8_comparison_83 : decode cX8_comparison 83 = .ok (.invokevirtual 58, 3) := by decide +kernel
theorem dX8_comparison_86 : decode cX8_comparison 86 = .ok (.iconst 1, 1) := by decide +kernel
theorem dX8_comparison_87 : decode cX8_comparison 87 = .ok (.ireturn, 1) := by decide +kernel
theorem okX8_comparison : ab_okM MX8_comparison 1 := ⟨by decide, ⟨by decide, by decide⟩, ab_in 1207 (by decide +kernel) (by decide +kernel), ab_in 96 (by decide +kernel) (by decide +kernel), by decide +kernel, by decide⟩
set_option maxHeartbeats 4000000 in
set_option maxRecDepth 100000 in
theorem sX8_comparison_82 (s1 : Int32)  (x : ab_X) (K : Int32 → ab_X → Prop)  (d bc bs : Nat) (hdp : 107 ≤ d)  (h : wX8_comparison_82 s1 x K ) : EW MX8_comparison 82 [] [.int s1, .ref 160] (aS x) d bc bs (liI K) := by
  unfold wX8_comparison_82 at h
  refine EW_iconst (pc2 := 83) (v := 0) rfl dX8_comparison_82 (by decide) ?_
  refine AW_invV (M' := MX9_add) [.int s1, .int 0] (rest := []) mlRX8_58 okX9_add (pc2 := 86) rfl dX8_comparison_83 rfl rfl (Nat.le_of_ble_eq_true rfl) (Nat.le_of_ble_eq_true rfl) (d' := 0) (by omega) q160 ⟨by decide, rfl⟩ (EW_mono (fun _ _ hr => ?_) (sX9_add 160 s1 0 (Or.inr (Or.inr (Or.inl rfl)) : isT 160) x _ _ 0 0 (Nat.le_refl _) h))
  obtain ⟨x7, rfl, rfl, h⟩ := hr
  refine EW_iconst (pc2 := 87) (v := 1) rfl dX8_comparison_86 (by decide) ?_
  exact AW_zret rfl isB1 dX8_comparison_87 ⟨_, _, rfl, rfl, h⟩
set_option maxHeartbeats 4000000 in
set_option maxRecDepth 100000 in
theorem sX8_comparison_35 (v1 : Int32) (v2 : Int32)  (x : ab_X) (K : Int32 → ab_X → Prop)  (d bc bs : Nat) (hdp : 107 ≤ d)  (h : wX8_comparison_35 v1 v2 x K ) : EW MX8_comparison 35 [(0, .ref 158), (1, .int v1), (2, .int v2)] [] (aS x) d bc bs (liI K) := by
  unfold wX8_comparison_35 at h
  refine EW_aload_n (pc2 := 36) rfl dX8_comparison_35 0 rfl ?_
  refine EW_dup (pc2 := 37) rfl dX8_comparison_36 rfl ?_
  refine AW_geti ⟨gfRX8_36, rfl⟩ (pc2 := 40) rfl dX8_comparison_37 q158 ?_
  refine EW_iconst (pc2 := 41) (v := 1) rfl dX8_comparison_40 (by decide) ?_
  refine EW_iadd (pc2 := 42) rfl dX8_comparison_41 ?_
  refine AW_puti ⟨gfRX8_36, rfl, rfl⟩ (pc2 := 45) rfl dX8_comparison_42 q158 ?_
  refine EW_aload_n (pc2 := 46) rfl dX8_comparison_45 0 rfl ?_
  refine EW_iload_n (pc2 := 47) rfl dX8_comparison_46 1 rfl ?_
  refine AW_invV (M' := MX8_sum) [.int v1] (rest := []) mlRX8_91 okX8_sum (pc2 := 50) rfl dX8_comparison_47 rfl rfl (Nat.le_of_ble_eq_true rfl) (Nat.le_of_ble_eq_true rfl) (d' := 106) (by omega) q158 ⟨by decide, rfl⟩ (EW_mono (fun _ _ hr => ?_) (sX8_sum v1  (wr x 158 2 ((x.1 158 2) + 1)) _ _ 0 0 (Nat.le_refl _) h))
  obtain ⟨r5, x6, rfl, rfl, h⟩ := hr
  refine EW_if_ne (tgt := 55) (pc2 := 53) rfl dX8_comparison_50 (by decide) (fun q => ?_) (fun q => ?_)
  · replace h := h.1 q
    refine EW_aload_n (pc2 := 56) rfl dX8_comparison_55 0 rfl ?_
    refine AW_getr (r := 160) ⟨gfRX8_24, rfl⟩ (pc2 := 59) rfl dX8_comparison_56 q158 rfl ?_
    refine EW_iload_n (pc2 := 60) rfl dX8_comparison_59 2 rfl ?_
    refine EW_bipush (pc2 := 62) (v := 61) rfl dX8_comparison_60 (by decide) ?_
    refine EW_icmp_ne (tgt := 69) (pc2 := 65) rfl dX8_comparison_62 (by decide) (fun q => ?_) (fun q => ?_)
    · replace h := h.1 q
      refine EW_iload_n (pc2 := 70) rfl dX8_comparison_69 2 rfl ?_
      refine EW_bipush (pc2 := 72) (v := 60) rfl dX8_comparison_70 (by decide) ?_
      refine EW_icmp_ne (tgt := 80) (pc2 := 75) rfl dX8_comparison_72 (by decide) (fun q => ?_) (fun q => ?_)
      · replace h := h.1 q
        refine EW_bipush (pc2 := 82) (v := 7) rfl dX8_comparison_80 (by decide) ?_
        refine EW_ls [] rfl ?_
        exact sX8_comparison_82 7 x6 K d bc bs hdp h
      · replace h := h.2 q
        refine EW_bipush (pc2 := 77) (v := 6) rfl dX8_comparison_75 (by decide) ?_
        refine EW_goto (tgt := 82) dX8_comparison_77 (by decide) ?_
        refine EW_ls [] rfl ?_
        exact sX8_comparison_82 6 x6 K d bc bs hdp h
    · replace h := h.2 q
      refine EW_iconst (pc2 := 66) (v := 5) rfl dX8_comparison_65 (by decide) ?_
      refine EW_goto (tgt := 82) dX8_comparison_66 (by decide) ?_
      refine EW_ls [] rfl ?_
      exact sX8_comparison_82 5 x6 K d bc bs hdp h
  · replace h := h.2 q
    refine EW_iconst (pc2 := 54) (v := 0) rfl dX8_comparison_53 (by decide) ?_
    exact AW_zret rfl isB0 dX8_comparison_54 ⟨_, _, rfl, rfl, h⟩
set_option maxHeartbeats 4000000 in
set_option maxRecDepth 100000 in
theorem sX8_comparison (v1 : Int32)  (x : ab_X) (K : Int32 → ab_X → Prop) (d bc bs : Nat) (hdp : 107 ≤ d) (h : wX8_comparison v1 x K) : EW MX8_comparison 0 [(0, .ref 158), (1, .int v1)] [] (aS x) d bc bs (liI K) := by
  unfold wX8_comparison at h
  refine EW_aload_n (pc2 := 1) rfl dX8_comparison_0 0 rfl ?_
  refine EW_iload_n (pc2 := 2) rfl dX8_comparison_1 1 rfl ?_
  refine AW_invV (M' := MX8_sum) [.int v1] (rest := []) mlRX8_91 okX8_sum (pc2 := 5) rfl dX8_comparison_2 rfl rfl (Nat.le_of_ble_eq_true rfl) (Nat.le_of_ble_eq_true rfl) (d' := 106) (by omega) q158 ⟨by decide, rfl⟩ (EW_mono (fun _ _ hr => ?_) (sX8_sum v1  x _ _ 0 0 (Nat.le_refl _) h))
  obtain ⟨r1, x2, rfl, rfl, h⟩ := hr
  refine EW_if_ne (tgt := 10) (pc2 := 8) rfl dX8_comparison_5 (by decide) (fun q => ?_) (fun q => ?_)
  · replace h := h.1 q
    refine EW_aload_n (pc2 := 11) rfl dX8_comparison_10 0 rfl ?_
    refine AW_invV (M' := MX8_peek) [] (rest := []) mlRX8_46 okX8_peek (pc2 := 14) rfl dX8_comparison_11 rfl rfl (Nat.le_of_ble_eq_true rfl) (Nat.le_of_ble_eq_true rfl) (d' := 0) (by omega) q158 ⟨by decide, rfl⟩ (EW_mono (fun _ _ hr => ?_) (sX8_peek   x2 _ _ 0 0 (Nat.le_refl _) h))
    obtain ⟨r3, x4, rfl, rfl, h⟩ := hr
    refine EW_istore_n (pc2 := 15) rfl dX8_comparison_14 (by decide) [1, 2, 0] [(0, .ref 158), (1, .int v1), (2, .int r3)] rfl ?_
    refine EW_iload_n (pc2 := 16) rfl dX8_comparison_15 2 rfl ?_
    refine EW_bipush (pc2 := 18) (v := 61) rfl dX8_comparison_16 (by decide) ?_
    refine EW_icmp_eq (tgt := 35) (pc2 := 21) rfl dX8_comparison_18 (by decide) (fun q => ?_) (fun q => ?_)
    · replace h := h.1 q
      exact sX8_comparison_35 v1 r3 x4 K d bc bs hdp h
    · replace h := h.2 q
      refine EW_iload_n (pc2 := 22) rfl dX8_comparison_21 2 rfl ?_
      refine EW_bipush (pc2 := 24) (v := 60) rfl dX8_comparison_22 (by decide) ?_
      refine EW_icmp_eq (tgt := 35) (pc2 := 27) rfl dX8_comparison_24 (by decide) (fun q => ?_) (fun q => ?_)
      · replace h := h.1 q
        exact sX8_comparison_35 v1 r3 x4 K d bc bs hdp h
      · replace h := h.2 q
        refine EW_iload_n (pc2 := 28) rfl dX8_comparison_27 2 rfl ?_
        refine EW_bipush (pc2 := 30) (v := 62) rfl dX8_comparison_28 (by decide) ?_
        refine EW_icmp_eq (tgt := 35) (pc2 := 33) rfl dX8_comparison_30 (by decide) (fun q => ?_) (fun q => ?_)
        · replace h := h.1 q
          exact sX8_comparison_35 v1 r3 x4 K d bc bs hdp h
        · replace h := h.2 q
          refine EW_iconst (pc2 := 34) (v := 0) rfl dX8_comparison_33 (by decide) ?_
          exact AW_zret rfl isB0 dX8_comparison_34 ⟨_, _, rfl, rfl, h⟩
  · replace h := h.2 q
    refine EW_iconst (pc2 := 9) (v := 0) rfl dX8_comparison_8 (by decide) ?_
    exact AW_zret rfl isB0 dX8_comparison_9 ⟨_, _, rfl, rfl, h⟩
theorem mlRX8_79 : Cond.methodLink RX8 79 yX8_part ∈ ab_G ∧ Cond.instanceMethod yX8_part ∈ ab_G ∧ Cond.selects RX8 yX8_part yX8_part ∈ ab_G := ⟨ab_in 1180 (by decide +kernel) (by decide +kernel), ab_in 1182 (by decide +kernel) (by decide +kernel), ab_in 1 (by decide +kernel) (by decide +kernel)⟩
theorem mlRX8_82 : Cond.methodLink RX8 82 yX8_unit ∈ ab_G ∧ Cond.instanceMethod yX8_unit ∈ ab_G ∧ Cond.selects RX8 yX8_unit yX8_unit ∈ ab_G := ⟨ab_in 1184 (by decide +kernel) (by decide +kernel), ab_in 1186 (by decide +kernel) (by decide +kernel), ab_in 2 (by decide +kernel) (by decide +kernel)⟩
theorem mlRX8_88 : Cond.methodLink RX8 88 yX8_comparison ∈ ab_G ∧ Cond.instanceMethod yX8_comparison ∈ ab_G ∧ Cond.selects RX8 yX8_comparison yX8_comparison ∈ ab_G := ⟨ab_in 1204 (by decide +kernel) (by decide +kernel), ab_in 1206 (by decide +kernel) (by decide +kernel), ab_in 3 (by decide +kernel) (by decide +kernel)⟩
theorem mlRX8_42 : Cond.methodLink RX8 42 yX8_condition ∈ ab_G ∧ Cond.instanceMethod yX8_condition ∈ ab_G ∧ Cond.selects RX8 yX8_condition yX8_condition ∈ ab_G := ⟨ab_in 1176 (by decide +kernel) (by decide +kernel), ab_in 1178 (by decide +kernel) (by decide +kernel), ab_in 0 (by decide +kernel) (by decide +kernel)⟩
abbrev MX8_condition : ab_M := (yX8_condition, cX8_condition, 3, (some .boolean))
theorem dX8_condition_0 : decode cX8_condition 0 = .ok (.aload_n 0, 1) := by decide +kernel
theorem dX8_condition_1 : decode cX8_condition 1 = .ok (.iload_n 1, 1) := by decide +kernel
theorem dX8_condition_2 : decode cX8_condition 2 = .ok (.invokevirtual 79, 3) := by decide +kernel
theorem dX8_condition_5 : decode cX8_condition 5 = .ok (.ifCond .ne 5, 3) := by decide +kernel
theorem dX8_condition_8 : decode cX8_condition 8 = .ok (.iconst 0, 1) := by decide +kernel
theorem dX8_condition_9 : decode cX8_condition 9 = .ok (.ireturn, 1) := by decide +kernel
theorem dX8_condition_10 : decode cX8_condition 10 = .ok (.iconst 0, 1) := by decide +kernel
theorem dX8_condition_11 : decode cX8_condition 11 = .ok (.istore_n 2, 1) := by decide +kernel
theorem dX8_condition_12 : decode cX8_condition 12 = .ok (.iload_n 2, 1) := by decide +kernel
theorem dX8_condition_13 : decode cX8_condition 13 = .ok (.sipush 200, 3) := by decide +kernel
theorem dX8_condition_16 : decode cX8_condition 16 = .ok (.if_icmp .ge 38, 3) := by decide +kernel
theorem dX8_condition_19 : decode cX8_condition 19 = .ok (.aload_n 0, 1) := by decide +kernel
theorem dX8_condition_20 : decode cX8_condition 20 = .ok (.bipush 124, 2) := by decide +kernel
theorem dX8_condition_22 : decode cX8_condition 22 = .ok (.invokevirtual 55, 3) := by decide +kernel
theorem dX8_condition_25 : decode cX8_condition 25 = .ok (.ifCond .eq 29, 3) := by decide +kernel
theorem dX8_condition_28 : decode cX8_condition 28 = .ok (.aload_n 0, 1) := by decide +kernel
theorem dX8_condition_29 : decode cX8_condition 29 = .ok (.iload_n 1, 1) := by decide +kernel
theorem dX8_condition_30 : decode cX8_condition 30 = .ok (.invokevirtual 79, 3) := by decide +kernel
theorem dX8_condition_33 : decode cX8_condition 33 = .ok (.ifCond .ne 5, 3) := by decide +kernel
theorem dX8_condition_36 : decode cX8_condition 36 = .ok (.iconst 0, 1) := by decide +kernel
theorem dX8_condition_37 : decode cX8_condition 37 = .ok (.ireturn, 1) := by decide +kernel
theorem dX8_condition_38 : decode cX8_condition 38 = .ok (.aload_n 0, 1) := by decide +kernel
theorem dX8_condition_39 : decode cX8_condition 39 = .ok (.getfield 24, 3) := by decide +kernel
theorem dX8_condition_42 : decode cX8_condition 42 = .ok (.bipush 10, 2) := by decide +kernel
theorem dX8_condition_44 : decode cX8_condition 44 = .ok (.iconst 0, 1) := by decide +kernel
theorem dX8_condition_45 : decode cX8_condition 45 = .ok (.invokevirtual 58, 3) := by decide +kernel
theorem dX8_condition_48 : decode cX8_condition 48 = .ok (.iinc 2 1, 3) := by decide +kernel
theorem dX8_condition_51 : decode cX8_condition 51 = .ok (.goto (-39), 3) := by decide +kernel
theorem dX8_condition_54 : decode cX8_condition 54 = .ok (.iconst 1, 1) := by decide +kernel
theorem dX8_condition_55 : decode cX8_condition 55 = .ok (.ireturn, 1) := by decide +kernel
theorem okX8_condition : ab_okM MX8_condition 1 := ⟨by decide, ⟨by decide, by decide⟩, ab_in 1179 (by decide +kernel) (by decide +kernel), ab_in 96 (by decide +kernel) (by decide +kernel), by decide +kernel, by decide⟩
abbrev MX8_part : ab_M := (yX8_part, cX8_part, 3, (some .boolean))
theorem dX8_part_0 : decode cX8_part 0 = .ok (.aload_n 0, 1) := by decide +kernel
theorem dX8_part_1 : decode cX8_part 1 = .ok (.iload_n 1, 1) := by decide +kernel
theorem dX8_part_2 : decode cX8_part 2 = .ok (.invokevirtual 82, 3) := by decide +kernel
theorem dX8_part_5 : decode cX8_part 5 = .ok (.ifCond .ne 5, 3) := by decide +kernel
theorem dX8_part_8 : decode cX8_part 8 = .ok (.iconst 0, 1) := by decide +kernel
theorem dX8_part_9 : decode cX8_part 9 = .ok (.ireturn, 1) := by decide +kernel
theorem dX8_part_10 : decode cX8_part 10 = .ok (.iconst 0, 1) := by decide +kernel
theorem dX8_part_11 : decode cX8_part 11 = .ok (.istore_n 2, 1) := by decide +kernel
theorem dX8_part_12 : decode cX8_part 12 = .ok (.iload_n 2, 1) := by decide +kernel
theorem dX8_part_13 : decode cX8_part 13 = .ok (.sipush 200, 3) := by decide +kernel
theorem dX8_part_16 : decode cX8_part 16 = .ok (.if_icmp .ge 38, 3) := by decide +kernel
theorem dX8_part_19 : decode cX8_part 19 = .ok (.aload_n 0, 1) := by decide +kernel
theorem dX8_part_20 : decode cX8_part 20 = .ok (.bipush 38, 2) := by decide +kernel
theorem dX8_part_22 : decode cX8_part 22 = .ok (.invokevirtual 55, 3) := by decide +kernel
theorem dX8_part_25 : decode cX8_part 25 = .ok (.ifCond .eq 29, 3) := by decide +kernel
theorem dX8_part_28 : decode cX8_part 28 = .ok (.aload_n 0, 1) := by decide +kernel
theorem dX8_part_29 : decode cX8_part 29 = .ok (.iload_n 1, 1) := by decide +kernel
theorem dX8_part_30 : decode cX8_part 30 = .ok (.invokevirtual 82, 3) := by decide +kernel
theorem dX8_part_33 : decode cX8_part 33 = .ok (.ifCond .ne 5, 3) := by decide +kernel
theorem dX8_part_36 : decode cX8_part 36 = .ok (.iconst 0, 1) := by decide +kernel
theorem dX8_part_37 : decode cX8_part 37 = .ok (.ireturn, 1) := by decide +kernel
theorem dX8_part_38 : decode cX8_part 38 = .ok (.aload_n 0, 1) := by decide +kernel
theorem dX8_part_39 : decode cX8_part 39 = .ok (.getfield 24, 3) := by decide +kernel
theorem dX8_part_42 : decode cX8_part 42 = .ok (.bipush 9, 2) := by decide +kernel
theorem dX8_part_44 : decode cX8_part 44 = .ok (.iconst 0, 1) := by decide +kernel
theorem dX8_part_45 : decode cX8_part 45 = .ok (.invokevirtual 58, 3) := by decide +kernel
theorem dX8_part_48 : decode cX8_part 48 = .ok (.iinc 2 1, 3) := by decide +kernel
theorem dX8_part_51 : decode cX8_part 51 = .ok (.goto (-39), 3) := by decide +kernel
theorem dX8_part_54 : decode cX8_part 54 = .ok (.iconst 1, 1) := by decide +kernel
theorem dX8_part_55 : decode cX8_part 55 = .ok (.ireturn, 1) := by decide +kernel
theorem okX8_part : ab_okM MX8_part 1 := ⟨by decide, ⟨by decide, by decide⟩, ab_in 1183 (by decide +kernel) (by decide +kernel), ab_in 96 (by decide +kernel) (by decide +kernel), by decide +kernel, by decide⟩
abbrev MX8_unit : ab_M := (yX8_unit, cX8_unit, 3, (some .boolean))
theorem dX8_unit_0 : decode cX8_unit 0 = .ok (.aload_n 0, 1) := by decide +kernel
theorem dX8_unit_1 : decode cX8_unit 1 = .ok (.invokevirtual 46, 3) := by decide +kernel
theorem dX8_unit_4 : decode cX8_unit 4 = .ok (.istore_n 2, 1) := by decide +kernel
theorem dX8_unit_5 : decode cX8_unit 5 = .ok (.iload_n 2, 1) := by decide +kernel
theorem dX8_unit_6 : decode cX8_unit 6 = .ok (.bipush 33, 2) := by decide +kernel
theorem dX8_unit_8 : decode cX8_unit 8 = .ok (.if_icmp .ne 35, 3) := by decide +kernel
theorem dX8_unit_11 : decode cX8_unit 11 = .ok (.aload_n 0, 1) := by decide +kernel
theorem dX8_unit_12 : decode cX8_unit 12 = .ok (.iload_n 1, 1) := by decide +kernel
theorem dX8_unit_13 : decode cX8_unit 13 = .ok (.invokevirtual 85, 3) := by decide +kernel
theorem dX8_unit_16 : decode cX8_unit 16 = .ok (.ifCond .eq 13, 3) := by decide +kernel
theorem dX8_unit_19 : decode cX8_unit 19 = .ok (.aload_n 0, 1) := by decide +kernel
theorem dX8_unit_20 : decode cX8_unit 20 = .ok (.iload_n 1, 1) := by decide +kernel
theorem dX8_unit_21 : decode cX8_unit 21 = .ok (.iconst 1, 1) := by decide +kernel
theorem dX8_unit_22 : decode cX8_unit 22 = .ok (.iadd, 1) := by decide +kernel
theorem dX8_unit_23 : decode cX8_unit 23 = .ok (.invokevirtual 82, 3) := by decide +kernel
theorem dX8_unit_26 : decode cX8_unit 26 = .ok (.ifCond .ne 5, 3) := by decide +kernel
theorem dX8_unit_29 : decode cX8_unit 29 = .ok (.iconst 0, 1) := by decide +kernel
theorem dX8_unit_30 : decode cX8_unit 30 = .ok (.ireturn, 1) := by decide +kernel
theorem dX8_unit_31 : decode cX8_unit 31 = .ok (.aload_n 0, 1) := by decide +kernel
theorem dX8_unit_32 : decode cX8_unit 32 = .ok (.getfield 24, 3) := by decide +kernel
theorem dX8_unit_35 : decode cX8_unit 35 = .ok (.bipush 8, 2) := by decide +kernel
theorem dX8_unit_37 : decode cX8_unit 37 = .ok (.iconst 0, 1) := by decide +kernel
theorem dX8_unit_38 : decode cX8_unit 38 = .ok (.invokevirtual 58, 3) := by decide +kernel
theorem dX8_unit_41 : decode cX8_unit 41 = .ok (.iconst 1, 1) := by decide +kernel
theorem dX8_unit_42 : decode cX8_unit 42 = .ok (.ireturn, 1) := by decide +kernel
theorem dX8_unit_43 : decode cX8_unit 43 = .ok (.iload_n 2, 1) := by decide +kernel
theorem dX8_unit_44 : decode cX8_unit 44 = .ok (.bipush 40, 2) := by decide +kernel
theorem dX8_unit_46 : decode cX8_unit 46 = .ok (.if_icmp .ne 36, 3) := by decide +kernel
theorem dX8_unit_49 : decode cX8_unit 49 = .ok (.aload_n 0, 1) := by decide +kernel
theorem dX8_unit_50 : decode cX8_unit 50 = .ok (.iload_n 1, 1) := by decide +kernel
theorem dX8_unit_51 : decode cX8_unit 51 = .ok (.invokevirtual 85, 3) := by decide +kernel
theorem dX8_unit_54 : decode cX8_unit 54 = .ok (.ifCond .eq 26, 3) := by decide +kernel
theorem dX8_unit_57 : decode cX8_unit 57 = .ok (.aload_n 0, 1) := by decide +kernel
theorem dX8_unit_58 : decode cX8_unit 58 = .ok (.iload_n 1, 1) := by decide +kernel
theorem dX8_unit_59 : decode cX8_unit 59 = .ok (.iconst 1, 1) := by decide +kernel
theorem dX8_unit_60 : decode cX8_unit 60 = .ok (.iadd, 1) := by decide +kernel
theorem dX8_unit_61 : decode cX8_unit 61 = .ok (.invokevirtual 42, 3) := by decide +kernel
theorem dX8_unit_64 : decode cX8_unit 64 = .ok (.ifCond .eq 16, 3) := by decide +kernel
theorem dX8_unit_67 : decode cX8_unit 67 = .ok (.aload_n 0, 1) := by decide +kernel
theorem dX8_unit_68 : decode cX8_unit 68 = .ok (.bipush 41, 2) := by decide +kernel
theorem dX8_unit_70 : decode cX8_unit 70 = .ok (.invokevirtual 55, 3) := by decide +kernel
theorem dX8_unit_73 : decode cX8_unit 73 = .ok (.ifCond .eq 7, 3) := by decide +kernel
theorem dX8_unit_76 : decode cX8_unit 76 = .ok (.iconst 1, 1) := by decide +kernel
theorem dX8_unit_77 : decode cX8_unit 77 = .ok (.goto 4, 3) := by decide +kernel
theorem dX8_unit_80 : decode cX8_unit 80 = .ok (.iconst 0, 1) := by decide +kernel
theorem dX8_unit_81 : decode cX8_unit 81 = .ok (.ireturn, 1) := by decide +kernel
theorem dX8_unit_82 : decode cX8_unit 82 = .ok (.aload_n 0, 1) := by decide +kernel
theorem dX8_unit_83 : decode cX8_unit 83 = .ok (.iload_n 1, 1) := by decide +kernel
theorem dX8_unit_84 : decode cX8_unit 84 = .ok (.invokevirtual 88, 3) := by decide +kernel
theorem dX8_unit_87 : decode cX8_unit 87 = .ok (.ireturn, 1) := by decide +kernel
theorem okX8_unit : ab_okM MX8_unit 1 := ⟨by decide, ⟨by decide, by decide⟩, ab_in 1187 (by decide +kernel) (by decide +kernel), ab_in 96 (by decide +kernel) (by decide +kernel), by decide +kernel, by decide⟩
set_option maxHeartbeats 4000000 in
set_option maxRecDepth 100000 in
theorem sX8_condition_12 (RX8_condition : Int32 → ab_X → (Int32 → ab_X → Prop) → Prop) (RX8_part : Int32 → ab_X → (Int32 → ab_X → Prop) → Prop) (RX8_unit : Int32 → ab_X → (Int32 → ab_X → Prop) → Prop) (v1 : Int32) (v2 : Int32)  (x : ab_X) (K : Int32 → ab_X → Prop)  (d bc bs : Nat) (hdp : 2 ≤ d) (dr : Nat) (hRX8_condition : ∀ (v1 : Int32)  (x : ab_X) (K : Int32 → ab_X → Prop), RX8_condition v1 x K → EW MX8_condition 0 [(0, .ref 158), (1, .int v1)] [] (aS x) dr 0 0 (liI K)) (hRX8_part : ∀ (v1 : Int32)  (x : ab_X) (K : Int32 → ab_X → Prop), RX8_part v1 x K → EW MX8_part 0 [(0, .ref 158), (1, .int v1)] [] (aS x) dr 0 0 (liI K)) (hRX8_unit : ∀ (v1 : Int32)  (x : ab_X) (K : Int32 → ab_X → Prop), RX8_unit v1 x K → EW MX8_unit 0 [(0, .ref 158), (1, .int v1)] [] (aS x) dr 0 0 (liI K)) (hdr : dr + 1 ≤ d)  (h : Lp2 (lX8_condition_12 RX8_condition RX8_part RX8_unit v1 K ) v2 x) : EW MX8_condition 12 [(0, .ref 158), (1, .int v1), (2, .int v2)] [] (aS x) d bc bs (liI K) := by
  refine Lp2.use (P := fun v2 x => EW MX8_condition 12 [(0, .ref 158), (1, .int v1), (2, .int v2)] [] (aS x) d bc bs (liI K)) (fun L12 v2 x hL12 h => ?_) v2 x h
  unfold lX8_condition_12 at h
  refine EW_iload_n (pc2 := 13) rfl dX8_condition_12 2 rfl ?_
  refine EW_sipush (pc2 := 16) (v := 200) rfl dX8_condition_13 (by decide) ?_
  refine EW_icmp_ge (tgt := 54) (pc2 := 19) rfl dX8_condition_16 (by decide) (fun q => ?_) (fun q => ?_)
  · replace h := h.1 q
    refine EW_iconst (pc2 := 55) (v := 1) rfl dX8_condition_54 (by decide) ?_
    exact AW_zret rfl isB1 dX8_condition_55 ⟨_, _, rfl, rfl, h⟩
  · replace h := h.2 q
    refine EW_aload_n (pc2 := 20) rfl dX8_condition_19 0 rfl ?_
    refine EW_bipush (pc2 := 22) (v := 124) rfl dX8_condition_20 (by decide) ?_
    refine AW_invV (M' := MX8_passes) [.int 124] (rest := []) mlRX8_55 okX8_passes (pc2 := 25) rfl dX8_condition_22 rfl rfl (Nat.le_of_ble_eq_true rfl) (Nat.le_of_ble_eq_true rfl) (d' := 1) (by omega) q158 ⟨by decide, rfl⟩ (EW_mono (fun _ _ hr => ?_) (sX8_passes 124  x _ _ 0 0 (Nat.le_refl _) h))
    obtain ⟨r3, x4, rfl, rfl, h⟩ := hr
    refine EW_if_eq (tgt := 54) (pc2 := 28) rfl dX8_condition_25 (by decide) (fun q => ?_) (fun q => ?_)
    · replace h := h.1 q
      refine EW_iconst (pc2 := 55) (v := 1) rfl dX8_condition_54 (by decide) ?_
      exact AW_zret rfl isB1 dX8_condition_55 ⟨_, _, rfl, rfl, h⟩
    · replace h := h.2 q
      refine EW_aload_n (pc2 := 29) rfl dX8_condition_28 0 rfl ?_
      refine EW_iload_n (pc2 := 30) rfl dX8_condition_29 1 rfl ?_
      refine AW_invV (M' := MX8_part) [.int v1] (rest := []) mlRX8_79 okX8_part (pc2 := 33) rfl dX8_condition_30 rfl rfl (Nat.le_of_ble_eq_true rfl) (Nat.le_of_ble_eq_true rfl) (d' := dr) (by omega) q158 ⟨by decide, rfl⟩ (EW_mono (fun _ _ hr => ?_) (hRX8_part v1  x4 _  h))
      obtain ⟨r5, x6, rfl, rfl, h⟩ := hr
      refine EW_if_ne (tgt := 38) (pc2 := 36) rfl dX8_condition_33 (by decide) (fun q => ?_) (fun q => ?_)
      · replace h := h.1 q
        refine EW_aload_n (pc2 := 39) rfl dX8_condition_38 0 rfl ?_
        refine AW_getr (r := 160) ⟨gfRX8_24, rfl⟩ (pc2 := 42) rfl dX8_condition_39 q158 rfl ?_
        refine EW_bipush (pc2 := 44) (v := 10) rfl dX8_condition_42 (by decide) ?_
        refine EW_iconst (pc2 := 45) (v := 0) rfl dX8_condition_44 (by decide) ?_
        refine AW_invV (M' := MX9_add) [.int 10, .int 0] (rest := []) mlRX8_58 okX9_add (pc2 := 48) rfl dX8_condition_45 rfl rfl (Nat.le_of_ble_eq_true rfl) (Nat.le_of_ble_eq_true rfl) (d' := 0) (by omega) q160 ⟨by decide, rfl⟩ (EW_mono (fun _ _ hr => ?_) (sX9_add 160 10 0 (Or.inr (Or.inr (Or.inl rfl)) : isT 160) x6 _ _ 0 0 (Nat.le_refl _) h))
        obtain ⟨x7, rfl, rfl, h⟩ := hr
        refine EW_iinc (v2 + 1) (pc2 := 51) rfl dX8_condition_48 2 rfl rfl (by decide) [1, 2, 0] [(0, .ref 158), (1, .int v1), (2, .int (v2 + 1))] rfl ?_
        refine EW_goto (tgt := 12) dX8_condition_51 (by decide) ?_
        exact hL12 (v2 + 1) x7 h
      · replace h := h.2 q
        refine EW_iconst (pc2 := 37) (v := 0) rfl dX8_condition_36 (by decide) ?_
        exact AW_zret rfl isB0 dX8_condition_37 ⟨_, _, rfl, rfl, h⟩
set_option maxHeartbeats 4000000 in
set_option maxRecDepth 100000 in
theorem bsX8_condition (RX8_condition : Int32 → ab_X → (Int32 → ab_X → Prop) → Prop) (RX8_part : Int32 → ab_X → (Int32 → ab_X → Prop) → Prop) (RX8_unit : Int32 → ab_X → (Int32 → ab_X → Prop) → Prop) (v1 : Int32)  (x : ab_X) (K : Int32 → ab_X → Prop) (d bc bs : Nat) (hdp : 2 ≤ d) (dr : Nat) (hRX8_condition : ∀ (v1 : Int32)  (x : ab_X) (K : Int32 → ab_X → Prop), RX8_condition v1 x K → EW MX8_condition 0 [(0, .ref 158), (1, .int v1)] [] (aS x) dr 0 0 (liI K)) (hRX8_part : ∀ (v1 : Int32)  (x : ab_X) (K : Int32 → ab_X → Prop), RX8_part v1 x K → EW MX8_part 0 [(0, .ref 158), (1, .int v1)] [] (aS x) dr 0 0 (liI K)) (hRX8_unit : ∀ (v1 : Int32)  (x : ab_X) (K : Int32 → ab_X → Prop), RX8_unit v1 x K → EW MX8_unit 0 [(0, .ref 158), (1, .int v1)] [] (aS x) dr 0 0 (liI K)) (hdr : dr + 1 ≤ d) (h : bX8_condition RX8_condition RX8_part RX8_unit v1 x K) : EW MX8_condition 0 [(0, .ref 158), (1, .int v1)] [] (aS x) d bc bs (liI K) := by
  unfold bX8_condition at h
  refine EW_aload_n (pc2 := 1) rfl dX8_condition_0 0 rfl ?_
  refine EW_iload_n (pc2 := 2) rfl dX8_condition_1 1 rfl ?_
  refine AW_invV (M' := MX8_part) [.int v1] (rest := []) mlRX8_79 okX8_part (pc2 := 5) rfl dX8_condition_2 rfl rfl (Nat.le_of_ble_eq_true rfl) (Nat.le_of_ble_eq_true rfl) (d' := dr) (by omega) q158 ⟨by decide, rfl⟩ (EW_mono (fun _ _ hr => ?_) (hRX8_part v1  x _  h))
  obtain ⟨r1, x2, rfl, rfl, h⟩ := hr
  refine EW_if_ne (tgt := 10) (pc2 := 8) rfl dX8_condition_5 (by decide) (fun q => ?_) (fun q => ?_)
  · replace h := h.1 q
    refine EW_iconst (pc2 := 11) (v := 0) rfl dX8_condition_10 (by decide) ?_
    refine EW_istore_n (pc2 := 12) rfl dX8_condition_11 (by decide) [1, 2, 0] [(0, .ref 158), (1, .int v1), (2, .int 0)] rfl ?_
    exact sX8_condition_12 RX8_condition RX8_part RX8_unit v1 0 x2 K d bc bs hdp dr hRX8_condition hRX8_part hRX8_unit hdr h
  · replace h := h.2 q
    refine EW_iconst (pc2 := 9) (v := 0) rfl dX8_condition_8 (by decide) ?_
    exact AW_zret rfl isB0 dX8_condition_9 ⟨_, _, rfl, rfl, h⟩
set_option maxHeartbeats 4000000 in
set_option maxRecDepth 100000 in
theorem sX8_part_12 (RX8_condition : Int32 → ab_X → (Int32 → ab_X → Prop) → Prop) (RX8_part : Int32 → ab_X → (Int32 → ab_X → Prop) → Prop) (RX8_unit : Int32 → ab_X → (Int32 → ab_X → Prop) → Prop) (v1 : Int32) (v2 : Int32)  (x : ab_X) (K : Int32 → ab_X → Prop)  (d bc bs : Nat) (hdp : 2 ≤ d) (dr : Nat) (hRX8_condition : ∀ (v1 : Int32)  (x : ab_X) (K : Int32 → ab_X → Prop), RX8_condition v1 x K → EW MX8_condition 0 [(0, .ref 158), (1, .int v1)] [] (aS x) dr 0 0 (liI K)) (hRX8_part : ∀ (v1 : Int32)  (x : ab_X) (K : Int32 → ab_X → Prop), RX8_part v1 x K → EW MX8_part 0 [(0, .ref 158), (1, .int v1)] [] (aS x) dr 0 0 (liI K)) (hRX8_unit : ∀ (v1 : Int32)  (x : ab_X) (K : Int32 → ab_X → Prop), RX8_unit v1 x K → EW MX8_unit 0 [(0, .ref 158), (1, .int v1)] [] (aS x) dr 0 0 (liI K)) (hdr : dr + 1 ≤ d)  (h : Lp2 (lX8_part_12 RX8_condition RX8_part RX8_unit v1 K ) v2 x) : EW MX8_part 12 [(0, .ref 158), (1, .int v1), (2, .int v2)] [] (aS x) d bc bs (liI K) := by
  refine Lp2.use (P := fun v2 x => EW MX8_part 12 [(0, .ref 158), (1, .int v1), (2, .int v2)] [] (aS x) d bc bs (liI K)) (fun L12 v2 x hL12 h => ?_) v2 x h
  unfold lX8_part_12 at h
  refine EW_iload_n (pc2 := 13) rfl dX8_part_12 2 rfl ?_
  refine EW_sipush (pc2 := 16) (v := 200) rfl dX8_part_13 (by decide) ?_
  refine EW_icmp_ge (tgt := 54) (pc2 := 19) rfl dX8_part_16 (by decide) (fun q => ?_) (fun q => ?_)
  · replace h := h.1 q
    refine EW_iconst (pc2 := 55) (v := 1) rfl dX8_part_54 (by decide) ?_
    exact AW_zret rfl isB1 dX8_part_55 ⟨_, _, rfl, rfl, h⟩
  · replace h := h.2 q
    refine EW_aload_n (pc2 := 20) rfl dX8_part_19 0 rfl ?_
    refine EW_bipush (pc2 := 22) (v := 38) rfl dX8_part_20 (by decide) ?_
    refine AW_invV (M' := MX8_passes) [.int 38] (rest := []) mlRX8_55 okX8_passes (pc2 := 25) rfl dX8_part_22 rfl rfl (Nat.le_of_ble_eq_true rfl) (Nat.le_of_ble_eq_true rfl) (d' := 1) (by omega) q158 ⟨by decide, rfl⟩ (EW_mono (fun _ _ hr => ?_) (sX8_passes 38  x _ _ 0 0 (Nat.le_refl _) h))
    obtain ⟨r3, x4, rfl, rfl, h⟩ := hr
    refine EW_if_eq (tgt := 54) (pc2 := 28) rfl dX8_part_25 (by decide) (fun q => ?_) (fun q => ?_)
    · replace h := h.1 q
      refine EW_iconst (pc2 := 55) (v := 1) rfl dX8_part_54 (by decide) ?_
      exact AW_zret rfl isB1 dX8_part_55 ⟨_, _, rfl, rfl, h⟩
    · replace h := h.2 q
      refine EW_aload_n (pc2 := 29) rfl dX8_part_28 0 rfl ?_
      refine EW_iload_n (pc2 := 30) rfl dX8_part_29 1 rfl ?_
      refine AW_invV (M' := MX8_unit) [.int v1] (rest := []) mlRX8_82 okX8_unit (pc2 := 33) rfl dX8_part_30 rfl rfl (Nat.le_of_ble_eq_true rfl) (Nat.le_of_ble_eq_true rfl) (d' := dr) (by omega) q158 ⟨by decide, rfl⟩ (EW_mono (fun _ _ hr => ?_) (hRX8_unit v1  x4 _  h))
      obtain ⟨r5, x6, rfl, rfl, h⟩ := hr
      refine EW_if_ne (tgt := 38) (pc2 := 36) rfl dX8_part_33 (by decide) (fun q => ?_) (fun q => ?_)
      · replace h := h.1 q
        refine EW_aload_n (pc2 := 39) rfl dX8_part_38 0 rfl ?_
        refine AW_getr (r := 160) ⟨gfRX8_24, rfl⟩ (pc2 := 42) rfl dX8_part_39 q158 rfl ?_
        refine EW_bipush (pc2 := 44) (v := 9) rfl dX8_part_42 (by decide) ?_
        refine EW_iconst (pc2 := 45) (v := 0) rfl dX8_part_44 (by decide) ?_
        refine AW_invV (M' := MX9_add) [.int 9, .int 0] (rest := []) mlRX8_58 okX9_add (pc2 := 48) rfl dX8_part_45 rfl rfl (Nat.le_of_ble_eq_true rfl) (Nat.le_of_ble_eq_true rfl) (d' := 0) (by omega) q160 ⟨by decide, rfl⟩ (EW_mono (fun _ _ hr => ?_) (sX9_add 160 9 0 (Or.inr (Or.inr (Or.inl rfl)) : isT 160) x6 _ _ 0 0 (Nat.le_refl _) h))
        obtain ⟨x7, rfl, rfl, h⟩ := hr
        refine EW_iinc (v2 + 1) (pc2 := 51) rfl dX8_part_48 2 rfl rfl (by decide) [1, 2, 0] [(0, .ref 158), (1, .int v1), (2, .int (v2 + 1))] rfl ?_
        refine EW_goto (tgt := 12) dX8_part_51 (by decide) ?_
        exact hL12 (v2 + 1) x7 h
      · replace h := h.2 q
        refine EW_iconst (pc2 := 37) (v := 0) rfl dX8_part_36 (by decide) ?_
        exact AW_zret rfl isB0 dX8_part_37 ⟨_, _, rfl, rfl, h⟩
set_option maxHeartbeats 4000000 in
set_option maxRecDepth 100000 in
theorem bsX8_part (RX8_condition : Int32 → ab_X → (Int32 → ab_X → Prop) → Prop) (RX8_part : Int32 → ab_X → (Int32 → ab_X → Prop) → Prop) (RX8_unit : Int32 → ab_X → (Int32 → ab_X → Prop) → Prop) (v1 : Int32)  (x : ab_X) (K : Int32 → ab_X → Prop) (d bc bs : Nat) (hdp : 2 ≤ d) (dr : Nat) (hRX8_condition : ∀ (v1 : Int32)  (x : ab_X) (K : Int32 → ab_X → Prop), RX8_condition v1 x K → EW MX8_condition 0 [(0, .ref 158), (1, .int v1)] [] (aS x) dr 0 0 (liI K)) (hRX8_part : ∀ (v1 : Int32)  (x : ab_X) (K : Int32 → ab_X → Prop), RX8_part v1 x K → EW MX8_part 0 [(0, .ref 158), (1, .int v1)] [] (aS x) dr 0 0 (liI K)) (hRX8_unit : ∀ (v1 : Int32)  (x : ab_X) (K : Int32 → ab_X → Prop), RX8_unit v1 x K → EW MX8_unit 0 [(0, .ref 158), (1, .int v1)] [] (aS x) dr 0 0 (liI K)) (hdr : dr + 1 ≤ d) (h : bX8_part RX8_condition RX8_part RX8_unit v1 x K) : EW MX8_part 0 [(0, .ref 158), (1, .int v1)] [] (aS x) d bc bs (liI K) := by
  unfold bX8_part at h
  refine EW_aload_n (pc2 := 1) rfl dX8_part_0 0 rfl ?_
  refine EW_iload_n (pc2 := 2) rfl dX8_part_1 1 rfl ?_
  refine AW_invV (M' := MX8_unit) [.int v1] (rest := []) mlRX8_82 okX8_unit (pc2 := 5) rfl dX8_part_2 rfl rfl (Nat.le_of_ble_eq_true rfl) (Nat.le_of_ble_eq_true rfl) (d' := dr) (by omega) q158 ⟨by decide, rfl⟩ (EW_mono (fun _ _ hr => ?_) (hRX8_unit v1  x _  h))
  obtain ⟨r1, x2, rfl, rfl, h⟩ := hr
  refine EW_if_ne (tgt := 10) (pc2 := 8) rfl dX8_part_5 (by decide) (fun q => ?_) (fun q => ?_)
  · replace h := h.1 q
    refine EW_iconst (pc2 := 11) (v := 0) rfl dX8_part_10 (by decide) ?_
    refine EW_istore_n (pc2 := 12) rfl dX8_part_11 (by decide) [1, 2, 0] [(0, .ref 158), (1, .int v1), (2, .int 0)] rfl ?_
    exact sX8_part_12 RX8_condition RX8_part RX8_unit v1 0 x2 K d bc bs hdp dr hRX8_condition hRX8_part hRX8_unit hdr h
  · replace h := h.2 q
    refine EW_iconst (pc2 := 9) (v := 0) rfl dX8_part_8 (by decide) ?_
    exact AW_zret rfl isB0 dX8_part_9 ⟨_, _, rfl, rfl, h⟩
set_option maxHeartbeats 4000000 in
set_option maxRecDepth 100000 in
theorem bsX8_unit (RX8_condition : Int32 → ab_X → (Int32 → ab_X → Prop) → Prop) (RX8_part : Int32 → ab_X → (Int32 → ab_X → Prop) → Prop) (RX8_unit : Int32 → ab_X → (Int32 → ab_X → Prop) → Prop) (v1 : Int32)  (x : ab_X) (K : Int32 → ab_X → Prop) (d bc bs : Nat) (hdp : 108 ≤ d) (dr : Nat) (hRX8_condition : ∀ (v1 : Int32)  (x : ab_X) (K : Int32 → ab_X → Prop), RX8_condition v1 x K → EW MX8_condition 0 [(0, .ref 158), (1, .int v1)] [] (aS x) dr 0 0 (liI K)) (hRX8_part : ∀ (v1 : Int32)  (x : ab_X) (K : Int32 → ab_X → Prop), RX8_part v1 x K → EW MX8_part 0 [(0, .ref 158), (1, .int v1)] [] (aS x) dr 0 0 (liI K)) (hRX8_unit : ∀ (v1 : Int32)  (x : ab_X) (K : Int32 → ab_X → Prop), RX8_unit v1 x K → EW MX8_unit 0 [(0, .ref 158), (1, .int v1)] [] (aS x) dr 0 0 (liI K)) (hdr : dr + 1 ≤ d) (h : bX8_unit RX8_condition RX8_part RX8_unit v1 x K) : EW MX8_unit 0 [(0, .ref 158), (1, .int v1)] [] (aS x) d bc bs (liI K) := by
  unfold bX8_unit at h
  refine EW_aload_n (pc2 := 1) rfl dX8_unit_0 0 rfl ?_
  refine AW_invV (M' := MX8_peek) [] (rest := []) mlRX8_46 okX8_peek (pc2 := 4) rfl dX8_unit_1 rfl rfl (Nat.le_of_ble_eq_true rfl) (Nat.le_of_ble_eq_true rfl) (d' := 0) (by omega) q158 ⟨by decide, rfl⟩ (EW_mono (fun _ _ hr => ?_) (sX8_peek   x _ _ 0 0 (Nat.le_refl _) h))
  obtain ⟨r1, x2, rfl, rfl, h⟩ := hr
  refine EW_istore_n (pc2 := 5) rfl dX8_unit_4 (by decide) [1, 2, 0] [(0, .ref 158), (1, .int v1), (2, .int r1)] rfl ?_
  refine EW_iload_n (pc2 := 6) rfl dX8_unit_5 2 rfl ?_
  refine EW_bipush (pc2 := 8) (v := 33) rfl dX8_unit_6 (by decide) ?_
  refine EW_icmp_ne (tgt := 43) (pc2 := 11) rfl dX8_unit_8 (by decide) (fun q => ?_) (fun q => ?_)
  · replace h := h.1 q
    refine EW_iload_n (pc2 := 44) rfl dX8_unit_43 2 rfl ?_
    refine EW_bipush (pc2 := 46) (v := 40) rfl dX8_unit_44 (by decide) ?_
    refine EW_icmp_ne (tgt := 82) (pc2 := 49) rfl dX8_unit_46 (by decide) (fun q => ?_) (fun q => ?_)
    · replace h := h.1 q
      refine EW_aload_n (pc2 := 83) rfl dX8_unit_82 0 rfl ?_
      refine EW_iload_n (pc2 := 84) rfl dX8_unit_83 1 rfl ?_
      refine AW_invV (M' := MX8_comparison) [.int v1] (rest := []) mlRX8_88 okX8_comparison (pc2 := 87) rfl dX8_unit_84 rfl rfl (Nat.le_of_ble_eq_true rfl) (Nat.le_of_ble_eq_true rfl) (d' := 107) (by omega) q158 ⟨by decide, rfl⟩ (EW_mono (fun _ _ hr => ?_) (sX8_comparison v1  x2 _ _ 0 0 (Nat.le_refl _) h))
      obtain ⟨r3, x4, rfl, rfl, h⟩ := hr
      obtain ⟨z5, h⟩ := h
      exact AW_zret rfl z5 dX8_unit_87 ⟨_, _, rfl, rfl, h⟩
    · replace h := h.2 q
      refine EW_aload_n (pc2 := 50) rfl dX8_unit_49 0 rfl ?_
      refine EW_iload_n (pc2 := 51) rfl dX8_unit_50 1 rfl ?_
      refine AW_invV (M' := MX8_opens) [.int v1] (rest := []) mlRX8_85 okX8_opens (pc2 := 54) rfl dX8_unit_51 rfl rfl (Nat.le_of_ble_eq_true rfl) (Nat.le_of_ble_eq_true rfl) (d' := 0) (by omega) q158 ⟨by decide, rfl⟩ (EW_mono (fun _ _ hr => ?_) (sX8_opens v1  x2 _ _ 0 0 (Nat.le_refl _) h))
      obtain ⟨r6, x7, rfl, rfl, h⟩ := hr
      refine EW_if_eq (tgt := 80) (pc2 := 57) rfl dX8_unit_54 (by decide) (fun q => ?_) (fun q => ?_)
      · replace h := h.1 q
        refine EW_iconst (pc2 := 81) (v := 0) rfl dX8_unit_80 (by decide) ?_
        exact AW_zret rfl isB0 dX8_unit_81 ⟨_, _, rfl, rfl, h⟩
      · replace h := h.2 q
        refine EW_aload_n (pc2 := 58) rfl dX8_unit_57 0 rfl ?_
        refine EW_iload_n (pc2 := 59) rfl dX8_unit_58 1 rfl ?_
        refine EW_iconst (pc2 := 60) (v := 1) rfl dX8_unit_59 (by decide) ?_
        refine EW_iadd (pc2 := 61) rfl dX8_unit_60 ?_
        refine AW_invV (M' := MX8_condition) [.int (v1 + 1)] (rest := []) mlRX8_42 okX8_condition (pc2 := 64) rfl dX8_unit_61 rfl rfl (Nat.le_of_ble_eq_true rfl) (Nat.le_of_ble_eq_true rfl) (d' := dr) (by omega) q158 ⟨by decide, rfl⟩ (EW_mono (fun _ _ hr => ?_) (hRX8_condition (v1 + 1)  x7 _  h))
        obtain ⟨r8, x9, rfl, rfl, h⟩ := hr
        refine EW_if_eq (tgt := 80) (pc2 := 67) rfl dX8_unit_64 (by decide) (fun q => ?_) (fun q => ?_)
        · replace h := h.1 q
          refine EW_iconst (pc2 := 81) (v := 0) rfl dX8_unit_80 (by decide) ?_
          exact AW_zret rfl isB0 dX8_unit_81 ⟨_, _, rfl, rfl, h⟩
        · replace h := h.2 q
          refine EW_aload_n (pc2 := 68) rfl dX8_unit_67 0 rfl ?_
          refine EW_bipush (pc2 := 70) (v := 41) rfl dX8_unit_68 (by decide) ?_
          refine AW_invV (M' := MX8_passes) [.int 41] (rest := []) mlRX8_55 okX8_passes (pc2 := 73) rfl dX8_unit_70 rfl rfl (Nat.le_of_ble_eq_true rfl) (Nat.le_of_ble_eq_true rfl) (d' := 1) (by omega) q158 ⟨by decide, rfl⟩ (EW_mono (fun _ _ hr => ?_) (sX8_passes 41  x9 _ _ 0 0 (Nat.le_refl _) h))
          obtain ⟨r10, x11, rfl, rfl, h⟩ := hr
          refine EW_if_eq (tgt := 80) (pc2 := 76) rfl dX8_unit_73 (by decide) (fun q => ?_) (fun q => ?_)
          · replace h := h.1 q
            refine EW_iconst (pc2 := 81) (v := 0) rfl dX8_unit_80 (by decide) ?_
            exact AW_zret rfl isB0 dX8_unit_81 ⟨_, _, rfl, rfl, h⟩
          · replace h := h.2 q
            refine EW_iconst (pc2 := 77) (v := 1) rfl dX8_unit_76 (by decide) ?_
            refine EW_goto (tgt := 81) dX8_unit_77 (by decide) ?_
            exact AW_zret rfl isB1 dX8_unit_81 ⟨_, _, rfl, rfl, h⟩
  · replace h := h.2 q
    refine EW_aload_n (pc2 := 12) rfl dX8_unit_11 0 rfl ?_
    refine EW_iload_n (pc2 := 13) rfl dX8_unit_12 1 rfl ?_
    refine AW_invV (M' := MX8_opens) [.int v1] (rest := []) mlRX8_85 okX8_opens (pc2 := 16) rfl dX8_unit_13 rfl rfl (Nat.le_of_ble_eq_true rfl) (Nat.le_of_ble_eq_true rfl) (d' := 0) (by omega) q158 ⟨by decide, rfl⟩ (EW_mono (fun _ _ hr => ?_) (sX8_opens v1  x2 _ _ 0 0 (Nat.le_refl _) h))
    obtain ⟨r12, x13, rfl, rfl, h⟩ := hr
    refine EW_if_eq (tgt := 29) (pc2 := 19) rfl dX8_unit_16 (by decide) (fun q => ?_) (fun q => ?_)
    · replace h := h.1 q
      refine EW_iconst (pc2 := 30) (v := 0) rfl dX8_unit_29 (by decide) ?_
      exact AW_zret rfl isB0 dX8_unit_30 ⟨_, _, rfl, rfl, h⟩
    · replace h := h.2 q
      refine EW_aload_n (pc2 := 20) rfl dX8_unit_19 0 rfl ?_
      refine EW_iload_n (pc2 := 21) rfl dX8_unit_20 1 rfl ?_
      refine EW_iconst (pc2 := 22) (v := 1) rfl dX8_unit_21 (by decide) ?_
      refine EW_iadd (pc2 := 23) rfl dX8_unit_22 ?_
      refine AW_invV (M' := MX8_unit) [.int (v1 + 1)] (rest := []) mlRX8_82 okX8_unit (pc2 := 26) rfl dX8_unit_23 rfl rfl (Nat.le_of_ble_eq_true rfl) (Nat.le_of_ble_eq_true rfl) (d' := dr) (by omega) q158 ⟨by decide, rfl⟩ (EW_mono (fun _ _ hr => ?_) (hRX8_unit (v1 + 1)  x13 _  h))
      obtain ⟨r14, x15, rfl, rfl, h⟩ := hr
      refine EW_if_ne (tgt := 31) (pc2 := 29) rfl dX8_unit_26 (by decide) (fun q => ?_) (fun q => ?_)
      · replace h := h.1 q
        refine EW_aload_n (pc2 := 32) rfl dX8_unit_31 0 rfl ?_
        refine AW_getr (r := 160) ⟨gfRX8_24, rfl⟩ (pc2 := 35) rfl dX8_unit_32 q158 rfl ?_
        refine EW_bipush (pc2 := 37) (v := 8) rfl dX8_unit_35 (by decide) ?_
        refine EW_iconst (pc2 := 38) (v := 0) rfl dX8_unit_37 (by decide) ?_
        refine AW_invV (M' := MX9_add) [.int 8, .int 0] (rest := []) mlRX8_58 okX9_add (pc2 := 41) rfl dX8_unit_38 rfl rfl (Nat.le_of_ble_eq_true rfl) (Nat.le_of_ble_eq_true rfl) (d' := 0) (by omega) q160 ⟨by decide, rfl⟩ (EW_mono (fun _ _ hr => ?_) (sX9_add 160 8 0 (Or.inr (Or.inr (Or.inl rfl)) : isT 160) x15 _ _ 0 0 (Nat.le_refl _) h))
        obtain ⟨x16, rfl, rfl, h⟩ := hr
        refine EW_iconst (pc2 := 42) (v := 1) rfl dX8_unit_41 (by decide) ?_
        exact AW_zret rfl isB1 dX8_unit_42 ⟨_, _, rfl, rfl, h⟩
      · replace h := h.2 q
        refine EW_iconst (pc2 := 30) (v := 0) rfl dX8_unit_29 (by decide) ?_
        exact AW_zret rfl isB0 dX8_unit_30 ⟨_, _, rfl, rfl, h⟩
set_option maxHeartbeats 4000000 in
theorem famX8_conditionS : ∀ n, (∀ (v1 : Int32)  (x : ab_X) (K : Int32 → ab_X → Prop), (famX8_condition n).1 v1 x K → EW MX8_condition 0 [(0, .ref 158), (1, .int v1)] [] (aS x) (108 + n) 0 0 (liI K)) ∧ (∀ (v1 : Int32)  (x : ab_X) (K : Int32 → ab_X → Prop), (famX8_condition n).2.1 v1 x K → EW MX8_part 0 [(0, .ref 158), (1, .int v1)] [] (aS x) (108 + n) 0 0 (liI K)) ∧ (∀ (v1 : Int32)  (x : ab_X) (K : Int32 → ab_X → Prop), (famX8_condition n).2.2 v1 x K → EW MX8_unit 0 [(0, .ref 158), (1, .int v1)] [] (aS x) (108 + n) 0 0 (liI K)) := by
  intro n
  induction n with
  | zero => exact ⟨fun v1  x K h => False.elim h, fun v1  x K h => False.elim h, fun v1  x K h => False.elim h⟩
  | succ n ih =>
    obtain ⟨i0, i1, i2⟩ := ih
    exact ⟨fun v1  x K h => bsX8_condition _ _ _ v1  x K (108 + (n + 1)) 0 0 (by omega) (108 + n) i0 i1 i2 (by omega) h, fun v1  x K h => bsX8_part _ _ _ v1  x K (108 + (n + 1)) 0 0 (by omega) (108 + n) i0 i1 i2 (by omega) h, fun v1  x K h => bsX8_unit _ _ _ v1  x K (108 + (n + 1)) 0 0 (by omega) (108 + n) i0 i1 i2 (by omega) h⟩
theorem sX8_condition (v1 : Int32)  (x : ab_X) (K : Int32 → ab_X → Prop) (d bc bs : Nat) (hdp : 209 ≤ d) (h : wX8_condition v1 x K) : EW MX8_condition 0 [(0, .ref 158), (1, .int v1)] [] (aS x) d bc bs (liI K) := by
  obtain ⟨n, hn, h⟩ := h
  cases n with
  | zero => exact False.elim h
  | succ n =>
    obtain ⟨i0, i1, i2⟩ := famX8_conditionS n
    exact bsX8_condition _ _ _ v1  x K d bc bs (by omega) (108 + n) i0 i1 i2 (by omega) h
theorem sX8_part (v1 : Int32)  (x : ab_X) (K : Int32 → ab_X → Prop) (d bc bs : Nat) (hdp : 209 ≤ d) (h : wX8_part v1 x K) : EW MX8_part 0 [(0, .ref 158), (1, .int v1)] [] (aS x) d bc bs (liI K) := by
  obtain ⟨n, hn, h⟩ := h
  cases n with
  | zero => exact False.elim h
  | succ n =>
    obtain ⟨i0, i1, i2⟩ := famX8_conditionS n
    exact bsX8_part _ _ _ v1  x K d bc bs (by omega) (108 + n) i0 i1 i2 (by omega) h
theorem sX8_unit (v1 : Int32)  (x : ab_X) (K : Int32 → ab_X → Prop) (d bc bs : Nat) (hdp : 209 ≤ d) (h : wX8_unit v1 x K) : EW MX8_unit 0 [(0, .ref 158), (1, .int v1)] [] (aS x) d bc bs (liI K) := by
  obtain ⟨n, hn, h⟩ := h
  cases n with
  | zero => exact False.elim h
  | succ n =>
    obtain ⟨i0, i1, i2⟩ := famX8_conditionS n
    exact bsX8_unit _ _ _ v1  x K d bc bs (by omega) (108 + n) i0 i1 i2 (by omega) h
theorem mlRX8_62 : Cond.methodLink RX8 62 yX8_actions ∈ ab_G ∧ Cond.instanceMethod yX8_actions ∈ ab_G ∧ Cond.selects RX8 yX8_actions yX8_actions ∈ ab_G := ⟨ab_in 1318 (by decide +kernel) (by decide +kernel), ab_in 1319 (by decide +kernel) (by decide +kernel), ab_in 1320 (by decide +kernel) (by decide +kernel)⟩
abbrev MX8_clause : ab_M := (yX8_clause, cX8_clause, 2, (some .boolean))
theorem dX8_clause_0 : decode cX8_clause 0 = .ok (.aload_n 0, 1) := by decide +kernel
theorem dX8_clause_1 : decode cX8_clause 1 = .ok (.iconst 0, 1) := by decide +kernel
theorem dX8_clause_2 : decode cX8_clause 2 = .ok (.invokevirtual 42, 3) := by decide +kernel
theorem dX8_clause_5 : decode cX8_clause 5 = .ok (.ifCond .eq 12, 3) := by decide +kernel
theorem dX8_clause_8 : decode cX8_clause 8 = .ok (.aload_n 0, 1) := by decide +kernel
theorem dX8_clause_9 : decode cX8_clause 9 = .ok (.bipush 63, 2) := by decide +kernel
theorem dX8_clause_11 : decode cX8_clause 11 = .ok (.invokevirtual 55, 3) := by decide +kernel
theorem dX8_clause_14 : decode cX8_clause 14 = .ok (.ifCond .ne 5, 3) := by decide +kernel
theorem dX8_clause_17 : decode cX8_clause 17 = .ok (.iconst 0, 1) := by decide +kernel
theorem dX8_clause_18 : decode cX8_clause 18 = .ok (.ireturn, 1) := by decide +kernel
theorem dX8_clause_19 : decode cX8_clause 19 = .ok (.aload_n 0, 1) := by decide +kernel
theorem dX8_clause_20 : decode cX8_clause 20 = .ok (.getfield 24, 3) := by decide +kernel
theorem dX8_clause_23 : decode cX8_clause 23 = .ok (.bipush 11, 2) := by decide +kernel
theorem dX8_clause_25 : decode cX8_clause 25 = .ok (.iconst 0, 1) := by decide +kernel
theorem dX8_clause_26 : decode cX8_clause 26 = .ok (.invokevirtual 58, 3) := by decide +kernel
theorem dX8_clause_29 : decode cX8_clause 29 = .ok (.iload_n 1, 1) := by decide +kernel
theorem dX8_clause_30 : decode cX8_clause 30 = .ok (.ifCond .ne 10, 3) := by decide +kernel
theorem dX8_clause_33 : decode cX8_clause 33 = .ok (.aload_n 0, 1) := by decide +kernel
theorem dX8_clause_34 : decode cX8_clause 34 = .ok (.invokevirtual 62, 3) := by decide +kernel
theorem dX8_clause_37 : decode cX8_clause 37 = .ok (.goto 10, 3) := by decide +kernel
theorem dX8_clause_40 : decode cX8_clause 40 = .ok (.aload_n 0, 1) := by decide +kernel
theorem dX8_clause_41 : decode cX8_clause 41 = .ok (.iconst 3, 1) := by decide +kernel
theorem dX8_clause_42 : decode cX8_clause 42 = .ok (.bipush 13, 2) := by decide +kernel
theorem dX8_clause_44 : decode cX8_clause 44 = .ok (.invokevirtual 66, 3) := by decide +kernel
theorem dX8_clause_47 : decode cX8_clause 47 = .ok (.ireturn, 1) := by decide +kernel
theorem okX8_clause : ab_okM MX8_clause 1 := ⟨by decide, ⟨by decide, by decide⟩, ab_in 1317 (by decide +kernel) (by decide +kernel), ab_in 96 (by decide +kernel) (by decide +kernel), by decide +kernel, by decide⟩
set_option maxHeartbeats 4000000 in
set_option maxRecDepth 100000 in
theorem sX8_clause (v1 : Int32)  (x : ab_X) (K : Int32 → ab_X → Prop) (d bc bs : Nat) (hdp : 210 ≤ d) (h : wX8_clause v1 x K) : EW MX8_clause 0 [(0, .ref 158), (1, .int v1)] [] (aS x) d bc bs (liI K) := by
  unfold wX8_clause at h
  refine EW_aload_n (pc2 := 1) rfl dX8_clause_0 0 rfl ?_
  refine EW_iconst (pc2 := 2) (v := 0) rfl dX8_clause_1 (by decide) ?_
  refine AW_invV (M' := MX8_condition) [.int 0] (rest := []) mlRX8_42 okX8_condition (pc2 := 5) rfl dX8_clause_2 rfl rfl (Nat.le_of_ble_eq_true rfl) (Nat.le_of_ble_eq_true rfl) (d' := 209) (by omega) q158 ⟨by decide, rfl⟩ (EW_mono (fun _ _ hr => ?_) (sX8_condition 0  x _ _ 0 0 (Nat.le_refl _) h))
  obtain ⟨r1, x2, rfl, rfl, h⟩ := hr
  refine EW_if_eq (tgt := 17) (pc2 := 8) rfl dX8_clause_5 (by decide) (fun q => ?_) (fun q => ?_)
  · replace h := h.1 q
    refine EW_iconst (pc2 := 18) (v := 0) rfl dX8_clause_17 (by decide) ?_
    exact AW_zret rfl isB0 dX8_clause_18 ⟨_, _, rfl, rfl, h⟩
  · replace h := h.2 q
    refine EW_aload_n (pc2 := 9) rfl dX8_clause_8 0 rfl ?_
    refine EW_bipush (pc2 := 11) (v := 63) rfl dX8_clause_9 (by decide) ?_
    refine AW_invV (M' := MX8_passes) [.int 63] (rest := []) mlRX8_55 okX8_passes (pc2 := 14) rfl dX8_clause_11 rfl rfl (Nat.le_of_ble_eq_true rfl) (Nat.le_of_ble_eq_true rfl) (d' := 1) (by omega) q158 ⟨by decide, rfl⟩ (EW_mono (fun _ _ hr => ?_) (sX8_passes 63  x2 _ _ 0 0 (Nat.le_refl _) h))
    obtain ⟨r3, x4, rfl, rfl, h⟩ := hr
    refine EW_if_ne (tgt := 19) (pc2 := 17) rfl dX8_clause_14 (by decide) (fun q => ?_) (fun q => ?_)
    · replace h := h.1 q
      refine EW_aload_n (pc2 := 20) rfl dX8_clause_19 0 rfl ?_
      refine AW_getr (r := 160) ⟨gfRX8_24, rfl⟩ (pc2 := 23) rfl dX8_clause_20 q158 rfl ?_
      refine EW_bipush (pc2 := 25) (v := 11) rfl dX8_clause_23 (by decide) ?_
      refine EW_iconst (pc2 := 26) (v := 0) rfl dX8_clause_25 (by decide) ?_
      refine AW_invV (M' := MX9_add) [.int 11, .int 0] (rest := []) mlRX8_58 okX9_add (pc2 := 29) rfl dX8_clause_26 rfl rfl (Nat.le_of_ble_eq_true rfl) (Nat.le_of_ble_eq_true rfl) (d' := 0) (by omega) q160 ⟨by decide, rfl⟩ (EW_mono (fun _ _ hr => ?_) (sX9_add 160 11 0 (Or.inr (Or.inr (Or.inl rfl)) : isT 160) x4 _ _ 0 0 (Nat.le_refl _) h))
      obtain ⟨x5, rfl, rfl, h⟩ := hr
      refine EW_iload_n (pc2 := 30) rfl dX8_clause_29 1 rfl ?_
      refine EW_if_ne (tgt := 40) (pc2 := 33) rfl dX8_clause_30 (by decide) (fun q => ?_) (fun q => ?_)
      · replace h := h.1 q
        refine EW_aload_n (pc2 := 41) rfl dX8_clause_40 0 rfl ?_
        refine EW_iconst (pc2 := 42) (v := 3) rfl dX8_clause_41 (by decide) ?_
        refine EW_bipush (pc2 := 44) (v := 13) rfl dX8_clause_42 (by decide) ?_
        refine AW_invV (M' := MX8_number) [.int 3, .int 13] (rest := []) mlRX8_66 okX8_number (pc2 := 47) rfl dX8_clause_44 rfl rfl (Nat.le_of_ble_eq_true rfl) (Nat.le_of_ble_eq_true rfl) (d' := 1) (by omega) q158 ⟨by decide, rfl⟩ (EW_mono (fun _ _ hr => ?_) (sX8_number 3 13  x5 _ _ 0 0 (Nat.le_refl _) h))
        obtain ⟨r6, x7, rfl, rfl, h⟩ := hr
        obtain ⟨z8, h⟩ := h
        exact AW_zret rfl z8 dX8_clause_47 ⟨_, _, rfl, rfl, h⟩
      · replace h := h.2 q
        refine EW_aload_n (pc2 := 34) rfl dX8_clause_33 0 rfl ?_
        refine AW_invV (M' := MX8_actions) [] (rest := []) mlRX8_62 okX8_actions (pc2 := 37) rfl dX8_clause_34 rfl rfl (Nat.le_of_ble_eq_true rfl) (Nat.le_of_ble_eq_true rfl) (d' := 5) (by omega) q158 ⟨by decide, rfl⟩ (EW_mono (fun _ _ hr => ?_) (sX8_actions   x5 _ _ 0 0 (Nat.le_refl _) h))
        obtain ⟨r9, x10, rfl, rfl, h⟩ := hr
        refine EW_goto (tgt := 47) dX8_clause_37 (by decide) ?_
        obtain ⟨z11, h⟩ := h
        exact AW_zret rfl z11 dX8_clause_47 ⟨_, _, rfl, rfl, h⟩
    · replace h := h.2 q
      refine EW_iconst (pc2 := 18) (v := 0) rfl dX8_clause_17 (by decide) ?_
      exact AW_zret rfl isB0 dX8_clause_18 ⟨_, _, rfl, rfl, h⟩
theorem mlRX8_52 : Cond.methodLink RX8 52 yX8_clause ∈ ab_G ∧ Cond.instanceMethod yX8_clause ∈ ab_G ∧ Cond.selects RX8 yX8_clause yX8_clause ∈ ab_G := ⟨ab_in 1314 (by decide +kernel) (by decide +kernel), ab_in 1315 (by decide +kernel) (by decide +kernel), ab_in 1316 (by decide +kernel) (by decide +kernel)⟩
theorem gfRX8_39 : ab_L RX8 39 9 1 := ⟨by decide, by decide, ab_in 369 (by decide +kernel) (by decide +kernel)⟩
abbrev MX8_parse : ab_M := (yX8_parse, cX8_parse, 3, (some .boolean))
theorem dX8_parse_0 : decode cX8_parse 0 = .ok (.aload_n 0, 1) := by decide +kernel
theorem dX8_parse_1 : decode cX8_parse 1 = .ok (.iconst 0, 1) := by decide +kernel
theorem dX8_parse_2 : decode cX8_parse 2 = .ok (.putfield 36, 3) := by decide +kernel
theorem dX8_parse_5 : decode cX8_parse 5 = .ok (.aload_n 0, 1) := by decide +kernel
theorem dX8_parse_6 : decode cX8_parse 6 = .ok (.getfield 24, 3) := by decide +kernel
theorem dX8_parse_9 : decode cX8_parse 9 = .ok (.iconst 0, 1) := by decide +kernel
theorem dX8_parse_10 : decode cX8_parse 10 = .ok (.putfield 39, 3) := by decide +kernel
theorem dX8_parse_13 : decode cX8_parse 13 = .ok (.iload_n 1, 1) := by decide +kernel
theorem dX8_parse_14 : decode cX8_parse 14 = .ok (.iconst 1, 1) := by decide +kernel
theorem dX8_parse_15 : decode cX8_parse 15 = .ok (.if_icmp .ne 31, 3) := by decide +kernel
theorem dX8_parse_18 : decode cX8_parse 18 = .ok (.aload_n 0, 1) := by decide +kernel
theorem dX8_parse_19 : decode cX8_parse 19 = .ok (.ldc 40, 2) := by decide +kernel
theorem dX8_parse_21 : decode cX8_parse 21 = .ok (.putfield 17, 3) := by decide +kernel
theorem dX8_parse_24 : decode cX8_parse 24 = .ok (.aload_n 0, 1) := by decide +kernel
theorem dX8_parse_25 : decode cX8_parse 25 = .ok (.iconst 0, 1) := by decide +kernel
theorem dX8_parse_26 : decode cX8_parse 26 = .ok (.invokevirtual 42, 3) := by decide +kernel
theorem dX8_parse_29 : decode cX8_parse 29 = .ok (.ifCond .eq 15, 3) := by decide +kernel
theorem dX8_parse_32 : decode cX8_parse 32 = .ok (.aload_n 0, 1) := by decide +kernel
theorem dX8_parse_33 : decode cX8_parse 33 = .ok (.invokevirtual 46, 3) := by decide +kernel
theorem dX8_parse_36 : decode cX8_parse 36 = .ok (.iconst (-1), 1) := by decide +kernel
theorem dX8_parse_37 : decode cX8_parse 37 = .ok (.if_icmp .ne 7, 3) := by decide +kernel
theorem dX8_parse_40 : decode cX8_parse 40 = .ok (.iconst 1, 1) := by decide +kernel
theorem dX8_parse_41 : decode cX8_parse 41 = .ok (.goto 4, 3) := by decide +kernel
theorem dX8_parse_44 : decode cX8_parse 44 = .ok (.iconst 0, 1) := by decide +kernel
theorem dX8_parse_45 : decode cX8_parse 45 = .ok (.ireturn, 1) := by decide +kernel
theorem dX8_parse_46 : decode cX8_parse 46 = .ok (.aload_n 0, 1) := by decide +kernel
theorem dX8_parse_47 : decode cX8_parse 47 = .ok (.iload_n 1, 1) := by decide +kernel
theorem dX8_parse_48 : decode cX8_parse 48 = .ok (.ifCond .ne 8, 3) := by decide +kernel
theorem dX8_parse_51 : decode cX8_parse 51 = .ok (.ldc 15, 2) := by decide +kernel
theorem dX8_parse_53 : decode cX8_parse 53 = .ok (.goto 5, 3) := by decide +kernel
theorem dX8_parse_56 : decode cX8_parse 56 = .ok (.ldc 50, 2) := by decide +kernel
theorem dX8_parse_58 : decode cX8_parse 58 = .ok (.putfield 17, 3) := by decide +kernel
theorem dX8_parse_61 : decode cX8_parse 61 = .ok (.iconst 0, 1) := by decide +kernel
theorem dX8_parse_62 : decode cX8_parse 62 = .ok (.istore_n 2, 1) := by decide +kernel
theorem dX8_parse_63 : decode cX8_parse 63 = .ok (.iload_n 2, 1) := by decide +kernel
theorem dX8_parse_64 : decode cX8_parse 64 = .ok (.sipush 200, 3) := by decide +kernel
theorem dX8_parse_67 : decode cX8_parse 67 = .ok (.if_icmp .ge 40, 3) := by decide +kernel
theorem dX8_parse_70 : decode cX8_parse 70 = .ok (.aload_n 0, 1) := by decide +kernel
theorem dX8_parse_71 : decode cX8_parse 71 = .ok (.iload_n 1, 1) := by decide +kernel
theorem dX8_parse_72 : decode cX8_parse 72 = .ok (.invokevirtual 52, 3) := by decide +kernel
theorem dX8_parse_75 : decode cX8_parse 75 = .ok (.ifCond .ne 5, 3) := by decide +kernel
theorem dX8_parse_78 : decode cX8_parse 78 = .ok (.iconst 0, 1) := by decide +kernel
theorem dX8_parse_79 : decode cX8_parse 79 = .ok (.ireturn, 1) := by decide +kernel
theorem dX8_parse_80 : decode cX8_parse 80 = .ok (.aload_n 0, 1) := by decide +kernel
theorem dX8_parse_81 : decode cX8_parse 81 = .ok (.invokevirtual 46, 3) := by decide +kernel
theorem dX8_parse_84 : decode cX8_parse 84 = .ok (.iconst (-1), 1) := by decide +kernel
theorem dX8_parse_85 : decode cX8_parse 85 = .ok (.if_icmp .ne 5, 3) := by decide +kernel
theorem dX8_parse_88 : decode cX8_parse 88 = .ok (.iconst 1, 1) := by decide +kernel
theorem dX8_parse_89 : decode cX8_parse 89 = .ok (.ireturn, 1) := by decide +kernel
theorem dX8_parse_90 : decode cX8_parse 90 = .ok (.aload_n 0, 1) := by decide +kernel
theorem dX8_parse_91 : decode cX8_parse 91 = .ok (.bipush 59, 2) := by decide +kernel
theorem dX8_parse_93 : decode cX8_parse 93 = .ok (.invokevirtual 55, 3) := by decide +kernel
theorem dX8_parse_96 : decode cX8_parse 96 = .ok (.ifCond .ne 5, 3) := by decide +kernel
theorem dX8_parse_99 : decode cX8_parse 99 = .ok (.iconst 0, 1) := by decide +kernel
theorem dX8_parse_100 : decode cX8_parse 100 = .ok (.ireturn, 1) := by decide +kernel
theorem dX8_parse_101 : decode cX8_parse 101 = .ok (.iinc 2 1, 3) := by decide +kernel
theorem dX8_parse_104 : decode cX8_parse 104 = .ok (.goto (-41), 3) := by decide +kernel
theorem dX8_parse_107 : decode cX8_parse 107 = .ok (.iconst 0, 1) := by decide +kernel
theorem dX8_parse_108 : decode cX8_parse 108 = .ok (.ireturn, 1) := by decide +kernel
theorem okX8_parse : ab_okM MX8_parse 1 := ⟨by decide, ⟨by decide, by decide⟩, ab_in 1174 (by decide +kernel) (by decide +kernel), ab_in 96 (by decide +kernel) (by decide +kernel), by decide +kernel, by decide⟩
set_option maxHeartbeats 4000000 in
set_option maxRecDepth 100000 in
theorem sX8_parse_63 (v1 : Int32) (v2 : Int32)  (x : ab_X) (K : Int32 → ab_X → Prop)  (d bc bs : Nat) (hdp : 211 ≤ d)  (h : Lp2 (lX8_parse_63 v1 K ) v2 x) : EW MX8_parse 63 [(0, .ref 158), (1, .int v1), (2, .int v2)] [] (aS x) d bc bs (liI K) := by
  refine Lp2.use (P := fun v2 x => EW MX8_parse 63 [(0, .ref 158), (1, .int v1), (2, .int v2)] [] (aS x) d bc bs (liI K)) (fun L63 v2 x hL63 h => ?_) v2 x h
  unfold lX8_parse_63 at h
  refine EW_iload_n (pc2 := 64) rfl dX8_parse_63 2 rfl ?_
  refine EW_sipush (pc2 := 67) (v := 200) rfl dX8_parse_64 (by decide) ?_
  refine EW_icmp_ge (tgt := 107) (pc2 := 70) rfl dX8_parse_67 (by decide) (fun q => ?_) (fun q => ?_)
  · replace h := h.1 q
    refine EW_iconst (pc2 := 108) (v := 0) rfl dX8_parse_107 (by decide) ?_
    exact AW_zret rfl isB0 dX8_parse_108 ⟨_, _, rfl, rfl, h⟩
  · replace h := h.2 q
    refine EW_aload_n (pc2 := 71) rfl dX8_parse_70 0 rfl ?_
    refine EW_iload_n (pc2 := 72) rfl dX8_parse_71 1 rfl ?_
    refine AW_invV (M' := MX8_clause) [.int v1] (rest := []) mlRX8_52 okX8_clause (pc2 := 75) rfl dX8_parse_72 rfl rfl (Nat.le_of_ble_eq_true rfl) (Nat.le_of_ble_eq_true rfl) (d' := 210) (by omega) q158 ⟨by decide, rfl⟩ (EW_mono (fun _ _ hr => ?_) (sX8_clause v1  x _ _ 0 0 (Nat.le_refl _) h))
    obtain ⟨r5, x6, rfl, rfl, h⟩ := hr
    refine EW_if_ne (tgt := 80) (pc2 := 78) rfl dX8_parse_75 (by decide) (fun q => ?_) (fun q => ?_)
    · replace h := h.1 q
      refine EW_aload_n (pc2 := 81) rfl dX8_parse_80 0 rfl ?_
      refine AW_invV (M' := MX8_peek) [] (rest := []) mlRX8_46 okX8_peek (pc2 := 84) rfl dX8_parse_81 rfl rfl (Nat.le_of_ble_eq_true rfl) (Nat.le_of_ble_eq_true rfl) (d' := 0) (by omega) q158 ⟨by decide, rfl⟩ (EW_mono (fun _ _ hr => ?_) (sX8_peek   x6 _ _ 0 0 (Nat.le_refl _) h))
      obtain ⟨r7, x8, rfl, rfl, h⟩ := hr
      refine EW_iconst (pc2 := 85) (v := (-1)) rfl dX8_parse_84 (by decide) ?_
      refine EW_icmp_ne (tgt := 90) (pc2 := 88) rfl dX8_parse_85 (by decide) (fun q => ?_) (fun q => ?_)
      · replace h := h.1 q
        refine EW_aload_n (pc2 := 91) rfl dX8_parse_90 0 rfl ?_
        refine EW_bipush (pc2 := 93) (v := 59) rfl dX8_parse_91 (by decide) ?_
        refine AW_invV (M' := MX8_passes) [.int 59] (rest := []) mlRX8_55 okX8_passes (pc2 := 96) rfl dX8_parse_93 rfl rfl (Nat.le_of_ble_eq_true rfl) (Nat.le_of_ble_eq_true rfl) (d' := 1) (by omega) q158 ⟨by decide, rfl⟩ (EW_mono (fun _ _ hr => ?_) (sX8_passes 59  x8 _ _ 0 0 (Nat.le_refl _) h))
        obtain ⟨r9, x10, rfl, rfl, h⟩ := hr
        refine EW_if_ne (tgt := 101) (pc2 := 99) rfl dX8_parse_96 (by decide) (fun q => ?_) (fun q => ?_)
        · replace h := h.1 q
          refine EW_iinc (v2 + 1) (pc2 := 104) rfl dX8_parse_101 2 rfl rfl (by decide) [1, 2, 0] [(0, .ref 158), (1, .int v1), (2, .int (v2 + 1))] rfl ?_
          refine EW_goto (tgt := 63) dX8_parse_104 (by decide) ?_
          exact hL63 (v2 + 1) x10 h
        · replace h := h.2 q
          refine EW_iconst (pc2 := 100) (v := 0) rfl dX8_parse_99 (by decide) ?_
          exact AW_zret rfl isB0 dX8_parse_100 ⟨_, _, rfl, rfl, h⟩
      · replace h := h.2 q
        refine EW_iconst (pc2 := 89) (v := 1) rfl dX8_parse_88 (by decide) ?_
        exact AW_zret rfl isB1 dX8_parse_89 ⟨_, _, rfl, rfl, h⟩
    · replace h := h.2 q
      refine EW_iconst (pc2 := 79) (v := 0) rfl dX8_parse_78 (by decide) ?_
      exact AW_zret rfl isB0 dX8_parse_79 ⟨_, _, rfl, rfl, h⟩
set_option maxHeartbeats 4000000 in
set_option maxRecDepth 100000 in
theorem sX8_parse (v1 : Int32)  (x : ab_X) (K : Int32 → ab_X → Prop) (d bc bs : Nat) (hdp : 211 ≤ d) (h : wX8_parse v1 x K) : EW MX8_parse 0 [(0, .ref 158), (1, .int v1)] [] (aS x) d bc bs (liI K) := by
  unfold wX8_parse at h
  refine EW_aload_n (pc2 := 1) rfl dX8_parse_0 0 rfl ?_
  refine EW_iconst (pc2 := 2) (v := 0) rfl dX8_parse_1 (by decide) ?_
  refine AW_puti ⟨gfRX8_36, rfl, rfl⟩ (pc2 := 5) rfl dX8_parse_2 q158 ?_
  refine EW_aload_n (pc2 := 6) rfl dX8_parse_5 0 rfl ?_
  refine AW_getr (r := 160) ⟨gfRX8_24, rfl⟩ (pc2 := 9) rfl dX8_parse_6 q158 rfl ?_
  refine EW_iconst (pc2 := 10) (v := 0) rfl dX8_parse_9 (by decide) ?_
  refine AW_puti ⟨gfRX8_39, rfl, rfl⟩ (pc2 := 13) rfl dX8_parse_10 q160 ?_
  refine EW_iload_n (pc2 := 14) rfl dX8_parse_13 1 rfl ?_
  refine EW_iconst (pc2 := 15) (v := 1) rfl dX8_parse_14 (by decide) ?_
  refine EW_icmp_ne (tgt := 46) (pc2 := 18) rfl dX8_parse_15 (by decide) (fun q => ?_) (fun q => ?_)
  · replace h := h.1 q
    refine EW_aload_n (pc2 := 47) rfl dX8_parse_46 0 rfl ?_
    refine EW_iload_n (pc2 := 48) rfl dX8_parse_47 1 rfl ?_
    refine EW_if_ne (tgt := 56) (pc2 := 51) rfl dX8_parse_48 (by decide) (fun q => ?_) (fun q => ?_)
    · replace h := h.1 q
      refine AW_str_T50 rfl (pc2 := 58) rfl dX8_parse_56 ?_
      refine AW_putlt gfRX8_17 (pc2 := 61) rfl dX8_parse_58 ?_
      refine EW_iconst (pc2 := 62) (v := 0) rfl dX8_parse_61 (by decide) ?_
      refine EW_istore_n (pc2 := 63) rfl dX8_parse_62 (by decide) [1, 2, 0] [(0, .ref 158), (1, .int v1), (2, .int 0)] rfl ?_
      exact sX8_parse_63 v1 0 (wlt (wr (wr x 158 2 0) 160 1 0) 1000002) K d bc bs hdp h
    · replace h := h.2 q
      refine AW_str_T15 rfl (pc2 := 53) rfl dX8_parse_51 ?_
      refine EW_goto (tgt := 58) dX8_parse_53 (by decide) ?_
      refine AW_putlt gfRX8_17 (pc2 := 61) rfl dX8_parse_58 ?_
      refine EW_iconst (pc2 := 62) (v := 0) rfl dX8_parse_61 (by decide) ?_
      refine EW_istore_n (pc2 := 63) rfl dX8_parse_62 (by decide) [1, 2, 0] [(0, .ref 158), (1, .int v1), (2, .int 0)] rfl ?_
      exact sX8_parse_63 v1 0 (wlt (wr (wr x 158 2 0) 160 1 0) 1000000) K d bc bs hdp h
  · replace h := h.2 q
    refine EW_aload_n (pc2 := 19) rfl dX8_parse_18 0 rfl ?_
    refine AW_str_T40 rfl (pc2 := 21) rfl dX8_parse_19 ?_
    refine AW_putlt gfRX8_17 (pc2 := 24) rfl dX8_parse_21 ?_
    refine EW_aload_n (pc2 := 25) rfl dX8_parse_24 0 rfl ?_
    refine EW_iconst (pc2 := 26) (v := 0) rfl dX8_parse_25 (by decide) ?_
    refine AW_invV (M' := MX8_condition) [.int 0] (rest := []) mlRX8_42 okX8_condition (pc2 := 29) rfl dX8_parse_26 rfl rfl (Nat.le_of_ble_eq_true rfl) (Nat.le_of_ble_eq_true rfl) (d' := 209) (by omega) q158 ⟨by decide, rfl⟩ (EW_mono (fun _ _ hr => ?_) (sX8_condition 0  (wlt (wr (wr x 158 2 0) 160 1 0) 1000001) _ _ 0 0 (Nat.le_refl _) h))
    obtain ⟨r1, x2, rfl, rfl, h⟩ := hr
    refine EW_if_eq (tgt := 44) (pc2 := 32) rfl dX8_parse_29 (by decide) (fun q => ?_) (fun q => ?_)
    · replace h := h.1 q
      refine EW_iconst (pc2 := 45) (v := 0) rfl dX8_parse_44 (by decide) ?_
      exact AW_zret rfl isB0 dX8_parse_45 ⟨_, _, rfl, rfl, h⟩
    · replace h := h.2 q
      refine EW_aload_n (pc2 := 33) rfl dX8_parse_32 0 rfl ?_
      refine AW_invV (M' := MX8_peek) [] (rest := []) mlRX8_46 okX8_peek (pc2 := 36) rfl dX8_parse_33 rfl rfl (Nat.le_of_ble_eq_true rfl) (Nat.le_of_ble_eq_true rfl) (d' := 0) (by omega) q158 ⟨by decide, rfl⟩ (EW_mono (fun _ _ hr => ?_) (sX8_peek   x2 _ _ 0 0 (Nat.le_refl _) h))
      obtain ⟨r3, x4, rfl, rfl, h⟩ := hr
      refine EW_iconst (pc2 := 37) (v := (-1)) rfl dX8_parse_36 (by decide) ?_
      refine EW_icmp_ne (tgt := 44) (pc2 := 40) rfl dX8_parse_37 (by decide) (fun q => ?_) (fun q => ?_)
      · replace h := h.1 q
        refine EW_iconst (pc2 := 45) (v := 0) rfl dX8_parse_44 (by decide) ?_
        exact AW_zret rfl isB0 dX8_parse_45 ⟨_, _, rfl, rfl, h⟩
      · replace h := h.2 q
        refine EW_iconst (pc2 := 41) (v := 1) rfl dX8_parse_40 (by decide) ?_
        refine EW_goto (tgt := 45) dX8_parse_41 (by decide) ?_
        exact AW_zret rfl isB1 dX8_parse_45 ⟨_, _, rfl, rfl, h⟩
theorem mlRX11_74 : Cond.methodLink RX11 74 yX11_within ∈ ab_G ∧ Cond.static yX11_within ∈ ab_G := ⟨ab_in 770 (by decide +kernel) (by decide +kernel), ab_in 771 (by decide +kernel) (by decide +kernel)⟩
theorem gfRX11_46 : ab_L RX11 46 11 4 := ⟨by decide, by decide, ab_in 736 (by decide +kernel) (by decide +kernel)⟩
theorem gfRX11_406 : ab_L RX11 406 5 4 := ⟨by decide, by decide, ab_in 635 (by decide +kernel) (by decide +kernel)⟩
theorem gfRX11_37 : ab_L RX11 37 11 3 := ⟨by decide, by decide, ab_in 735 (by decide +kernel) (by decide +kernel)⟩
theorem mlRX11_368 : Cond.methodLink RX11 368 yX8_parse ∈ ab_G ∧ Cond.instanceMethod yX8_parse ∈ ab_G ∧ Cond.selects RX8 yX8_parse yX8_parse ∈ ab_G := ⟨ab_in 1171 (by decide +kernel) (by decide +kernel), ab_in 1172 (by decide +kernel) (by decide +kernel), ab_in 1173 (by decide +kernel) (by decide +kernel)⟩
theorem gfRX11_30 : ab_L RX11 30 11 2 := ⟨by decide, by decide, ab_in 734 (by decide +kernel) (by decide +kernel)⟩
theorem gfRX11_400 : ab_L RX11 400 0 12 := ⟨by decide, by decide, ab_in 564 (by decide +kernel) (by decide +kernel)⟩
theorem mlRX11_409 : Cond.methodLink RX11 409 yX5_addAct ∈ ab_G ∧ Cond.instanceMethod yX5_addAct ∈ ab_G ∧ Cond.selects RX5 yX5_addAct yX5_addAct ∈ ab_G := ⟨ab_in 1515 (by decide +kernel) (by decide +kernel), ab_in 1516 (by decide +kernel) (by decide +kernel), ab_in 1517 (by decide +kernel) (by decide +kernel)⟩
theorem gfRX11_412 : ab_L RX11 412 5 1 := ⟨by decide, by decide, ab_in 631 (by decide +kernel) (by decide +kernel)⟩
theorem mlRX11_381 : Cond.methodLink RX11 381 yX8_handOver ∈ ab_G ∧ Cond.instanceMethod yX8_handOver ∈ ab_G ∧ Cond.selects RX8 yX8_handOver yX8_handOver ∈ ab_G := ⟨ab_in 1327 (by decide +kernel) (by decide +kernel), ab_in 1328 (by decide +kernel) (by decide +kernel), ab_in 1329 (by decide +kernel) (by decide +kernel)⟩
abbrev MX11_act : ab_M := (yX11_act, cX11_act, 3, (some .int))
theorem dX11_act_0 : decode cX11_act 0 = .ok (.iload_n 1, 1) := by decide +kernel
theorem dX11_act_1 : decode cX11_act 1 = .ok (.iconst 1, 1) := by decide +kernel
theorem dX11_act_2 : decode cX11_act 2 = .ok (.sipush 200, 3) := by decide +kernel
theorem dX11_act_5 : decode cX11_act 5 = .ok (.invokestatic 74, 3) := by decide +kernel
theorem dX11_act_8 : decode cX11_act 8 = .ok (.ifCond .eq 26, 3) := by decide +kernel
theorem dX11_act_11 : decode cX11_act 11 = .ok (.aload_n 0, 1) := by decide +kernel
theorem dX11_act_12 : decode cX11_act 12 = .ok (.getfield 46, 3) := by decide +kernel
theorem dX11_act_15 : decode cX11_act 15 = .ok (.getfield 406, 3) := by decide +kernel
theorem dX11_act_18 : decode cX11_act 18 = .ok (.bipush 12, 2) := by decide +kernel
theorem dX11_act_20 : decode cX11_act 20 = .ok (.if_icmp .ge 14, 3) := by decide +kernel
theorem dX11_act_23 : decode cX11_act 23 = .ok (.aload_n 0, 1) := by decide +kernel
theorem dX11_act_24 : decode cX11_act 24 = .ok (.getfield 37, 3) := by decide +kernel
theorem dX11_act_27 : decode cX11_act 27 = .ok (.iconst 2, 1) := by decide +kernel
theorem dX11_act_28 : decode cX11_act 28 = .ok (.invokevirtual 368, 3) := by decide +kernel
theorem dX11_act_31 : decode cX11_act 31 = .ok (.ifCond .ne 5, 3) := by decide +kernel
theorem dX11_act_34 : decode cX11_act 34 = .ok (.iconst (-1), 1) := by decide +kernel
theorem dX11_act_35 : decode cX11_act 35 = .ok (.ireturn, 1) := by decide +kernel
theorem dX11_act_36 : decode cX11_act 36 = .ok (.aload_n 0, 1) := by decide +kernel
theorem dX11_act_37 : decode cX11_act 37 = .ok (.getfield 46, 3) := by decide +kernel
theorem dX11_act_40 : decode cX11_act 40 = .ok (.iload_n 1, 1) := by decide +kernel
theorem dX11_act_41 : decode cX11_act 41 = .ok (.aload_n 0, 1) := by decide +kernel
theorem dX11_act_42 : decode cX11_act 42 = .ok (.getfield 30, 3) := by decide +kernel
theorem dX11_act_45 : decode cX11_act 45 = .ok (.getfield 400, 3) := by decide +kernel
theorem dX11_act_48 : decode cX11_act 48 = .ok (.invokevirtual 409, 3) := by decide +kernel
theorem dX11_act_51 : decode cX11_act 51 = .ok (.istore_n 2, 1) := by decide +kernel
theorem dX11_act_52 : decode cX11_act 52 = .ok (.aload_n 0, 1) := by decide +kernel
theorem dX11_act_53 : decode cX11_act 53 = .ok (.getfield 37, 3) := by decide +kernel
theorem dX11_act_56 : decode cX11_act 56 = .ok (.aload_n 0, 1) := by decide +kernel
theorem dX11_act_57 : decode cX11_act 57 = .ok (.getfield 46, 3) := by decide +kernel
theorem dX11_act_60 : decode cX11_act 60 = .ok (.getfield 412, 3) := by decide +kernel
theorem dX11_act_63 : decode cX11_act 63 = .ok (.iload_n 2, 1) := by decide +kernel
theorem dX11_act_64 : decode cX11_act 64 = .ok (.aaload, 1) := by decide +kernel
theorem dX11_act_65 : decode cX11_act 65 = .ok (.invokevirtual 381, 3) := by decide +kernel
theorem dX11_act_68 : decode cX11_act 68 = .ok (.iload_n 2, 1) := by decide +kernel
theorem dX11_act_69 : decode cX11_act 69 = .ok (.ireturn, 1) := by decide +kernel
theorem okX11_act : ab_okM MX11_act 1 := ⟨by decide, ⟨by decide, by decide⟩, ab_in 1514 (by decide +kernel) (by decide +kernel), ab_in 86 (by decide +kernel) (by decide +kernel), by decide +kernel, by decide⟩
set_option maxHeartbeats 4000000 in
set_option maxRecDepth 100000 in
theorem sX11_act (v1 : Int32)  (x : ab_X) (K : Int32 → ab_X → Prop) (d bc bs : Nat) (hdp : 212 ≤ d) (h : wX11_act v1 x K) : EW MX11_act 0 [(0, .ref 0), (1, .int v1)] [] (aS x) d bc bs (liI K) := by
  unfold wX11_act at h
  refine EW_iload_n (pc2 := 1) rfl dX11_act_0 1 rfl ?_
  refine EW_iconst (pc2 := 2) (v := 1) rfl dX11_act_1 (by decide) ?_
  refine EW_sipush (pc2 := 5) (v := 200) rfl dX11_act_2 (by decide) ?_
  refine AW_invS (M' := MX11_within) [.int v1, .int 1, .int 200] (rest := []) mlRX11_74 okX11_within (pc2 := 8) rfl dX11_act_5 rfl rfl (Nat.le_of_ble_eq_true rfl) (Nat.le_of_ble_eq_true rfl) (d' := 0) (by omega) (EW_mono (fun _ _ hr => ?_) (sX11_within v1 1 200  x _ _ 0 0 (Nat.le_refl _) h))
  obtain ⟨r1, rfl, rfl, h⟩ := hr
  refine EW_if_eq (tgt := 34) (pc2 := 11) rfl dX11_act_8 (by decide) (fun q => ?_) (fun q => ?_)
  · replace h := h.1 q
    refine EW_iconst (pc2 := 35) (v := (-1)) rfl dX11_act_34 (by decide) ?_
    exact AW_iret rfl dX11_act_35 ⟨_, _, rfl, rfl, h⟩
  · replace h := h.2 q
    refine EW_aload_n (pc2 := 12) rfl dX11_act_11 0 rfl ?_
    refine AW_getr (r := 165) ⟨gfRX11_46, rfl⟩ (pc2 := 15) rfl dX11_act_12 q0 rfl ?_
    refine AW_geti ⟨gfRX11_406, rfl⟩ (pc2 := 18) rfl dX11_act_15 q165 ?_
    refine EW_bipush (pc2 := 20) (v := 12) rfl dX11_act_18 (by decide) ?_
    refine EW_icmp_ge (tgt := 34) (pc2 := 23) rfl dX11_act_20 (by decide) (fun q => ?_) (fun q => ?_)
    · replace h := h.1 q
      refine EW_iconst (pc2 := 35) (v := (-1)) rfl dX11_act_34 (by decide) ?_
      exact AW_iret rfl dX11_act_35 ⟨_, _, rfl, rfl, h⟩
    · replace h := h.2 q
      refine EW_aload_n (pc2 := 24) rfl dX11_act_23 0 rfl ?_
      refine AW_getr (r := 158) ⟨gfRX11_37, rfl⟩ (pc2 := 27) rfl dX11_act_24 q0 rfl ?_
      refine EW_iconst (pc2 := 28) (v := 2) rfl dX11_act_27 (by decide) ?_
      refine AW_invV (M' := MX8_parse) [.int 2] (rest := []) mlRX11_368 okX8_parse (pc2 := 31) rfl dX11_act_28 rfl rfl (Nat.le_of_ble_eq_true rfl) (Nat.le_of_ble_eq_true rfl) (d' := 211) (by omega) q158 ⟨by decide, rfl⟩ (EW_mono (fun _ _ hr => ?_) (sX8_parse 2  x _ _ 0 0 (Nat.le_refl _) h))
      obtain ⟨r2, x3, rfl, rfl, h⟩ := hr
      refine EW_if_ne (tgt := 36) (pc2 := 34) rfl dX11_act_31 (by decide) (fun q => ?_) (fun q => ?_)
      · replace h := h.1 q
        refine EW_aload_n (pc2 := 37) rfl dX11_act_36 0 rfl ?_
        refine AW_getr (r := 165) ⟨gfRX11_46, rfl⟩ (pc2 := 40) rfl dX11_act_37 q0 rfl ?_
        refine EW_iload_n (pc2 := 41) rfl dX11_act_40 1 rfl ?_
        refine EW_aload_n (pc2 := 42) rfl dX11_act_41 0 rfl ?_
        refine AW_getr (r := 66) ⟨gfRX11_30, rfl⟩ (pc2 := 45) rfl dX11_act_42 q0 rfl ?_
        refine AW_geti ⟨gfRX11_400, rfl⟩ (pc2 := 48) rfl dX11_act_45 q66 ?_
        refine AW_invV (M' := MX5_addAct) [.int v1, .int (x3.1 66 12)] (rest := []) mlRX11_409 okX5_addAct (pc2 := 51) rfl dX11_act_48 rfl rfl (Nat.le_of_ble_eq_true rfl) (Nat.le_of_ble_eq_true rfl) (d' := 0) (by omega) q165 ⟨by decide, rfl⟩ (EW_mono (fun _ _ hr => ?_) (sX5_addAct v1 (x3.1 66 12)  x3 _ _ 0 0 (Nat.le_refl _) h))
        obtain ⟨r4, x5, rfl, rfl, h⟩ := hr
        refine EW_istore_n (pc2 := 52) rfl dX11_act_51 (by decide) [1, 2, 0] [(0, .ref 0), (1, .int v1), (2, .int r4)] rfl ?_
        refine EW_aload_n (pc2 := 53) rfl dX11_act_52 0 rfl ?_
        refine AW_getr (r := 158) ⟨gfRX11_37, rfl⟩ (pc2 := 56) rfl dX11_act_53 q0 rfl ?_
        refine EW_aload_n (pc2 := 57) rfl dX11_act_56 0 rfl ?_
        refine AW_getr (r := 165) ⟨gfRX11_46, rfl⟩ (pc2 := 60) rfl dX11_act_57 q0 rfl ?_
        refine AW_getr (r := 166) ⟨gfRX11_412, rfl⟩ (pc2 := 63) rfl dX11_act_60 q165 rfl ?_
        refine EW_iload_n (pc2 := 64) rfl dX11_act_63 2 rfl ?_
        obtain ⟨b6, h⟩ := h
        refine AW_aald8 (pc2 := 65) rfl dX11_act_64 b6 ?_
        refine AW_invV (M' := MX8_handOver) [.ref (174 + 5 * Int32.toNatClampNeg r4)] (rest := []) mlRX11_381 okX8_handOver (pc2 := 68) rfl dX11_act_65 rfl rfl (Nat.le_of_ble_eq_true rfl) (Nat.le_of_ble_eq_true rfl) (d' := 2) (by omega) q158 ⟨by decide, rfl⟩ (EW_mono (fun _ _ hr => ?_) (sX8_handOver (174 + 5 * Int32.toNatClampNeg r4) (isT_of b6) x5 _ _ 0 0 (Nat.le_refl _) h))
        obtain ⟨x7, rfl, rfl, h⟩ := hr
        refine EW_iload_n (pc2 := 69) rfl dX11_act_68 2 rfl ?_
        exact AW_iret rfl dX11_act_69 ⟨_, _, rfl, rfl, h⟩
      · replace h := h.2 q
        refine EW_iconst (pc2 := 35) (v := (-1)) rfl dX11_act_34 (by decide) ?_
        exact AW_iret rfl dX11_act_35 ⟨_, _, rfl, rfl, h⟩
theorem mlRX11_70 : Cond.methodLink RX11 70 yX11_isCorner ∈ ab_G ∧ Cond.static yX11_isCorner ∈ ab_G := ⟨ab_in 767 (by decide +kernel) (by decide +kernel), ab_in 768 (by decide +kernel) (by decide +kernel)⟩
theorem mlRX11_388 : Cond.methodLink RX11 388 yX0_readOrders ∈ ab_G ∧ Cond.instanceMethod yX0_readOrders ∈ ab_G ∧ Cond.selects RX0 yX0_readOrders yX0_readOrders ∈ ab_G := ⟨ab_in 1346 (by decide +kernel) (by decide +kernel), ab_in 1056 (by decide +kernel) (by decide +kernel), ab_in 1057 (by decide +kernel) (by decide +kernel)⟩
theorem gfRX11_377 : ab_L RX11 377 0 6 := ⟨by decide, by decide, ab_in 556 (by decide +kernel) (by decide +kernel)⟩
theorem gfRX11_392 : ab_L RX11 392 9 7 := ⟨by decide, by decide, ab_in 378 (by decide +kernel) (by decide +kernel)⟩
abbrev MX11_asks : ab_M := (yX11_asks, cX11_asks, 4, (some .int))
theorem dX11_asks_0 : decode cX11_asks 0 = .ok (.iload_n 1, 1) := by decide +kernel
theorem dX11_asks_1 : decode cX11_asks 1 = .ok (.invokestatic 70, 3) := by decide +kernel
theorem dX11_asks_4 : decode cX11_asks 4 = .ok (.ifCond .eq 21, 3) := by decide +kernel
theorem dX11_asks_7 : decode cX11_asks 7 = .ok (.iload_n 2, 1) := by decide +kernel
theorem dX11_asks_8 : decode cX11_asks 8 = .ok (.iconst 1, 1) := by decide +kernel
theorem dX11_asks_9 : decode cX11_asks 9 = .ok (.iconst 3, 1) := by decide +kernel
theorem dX11_asks_10 : decode cX11_asks 10 = .ok (.invokestatic 74, 3) := by decide +kernel
theorem dX11_asks_13 : decode cX11_asks 13 = .ok (.ifCond .eq 12, 3) := by decide +kernel
theorem dX11_asks_16 : decode cX11_asks 16 = .ok (.iload_n 3, 1) := by decide +kernel
theorem dX11_asks_17 : decode cX11_asks 17 = .ok (.iconst 0, 1) := by decide +kernel
theorem dX11_asks_18 : decode cX11_asks 18 = .ok (.iconst 4, 1) := by decide +kernel
theorem dX11_asks_19 : decode cX11_asks 19 = .ok (.invokestatic 74, 3) := by decide +kernel
theorem dX11_asks_22 : decode cX11_asks 22 = .ok (.ifCond .ne 5, 3) := by decide +kernel
theorem dX11_asks_25 : decode cX11_asks 25 = .ok (.iconst (-1), 1) := by decide +kernel
theorem dX11_asks_26 : decode cX11_asks 26 = .ok (.ireturn, 1) := by decide +kernel
theorem dX11_asks_27 : decode cX11_asks 27 = .ok (.aload_n 0, 1) := by decide +kernel
theorem dX11_asks_28 : decode cX11_asks 28 = .ok (.getfield 30, 3) := by decide +kernel
theorem dX11_asks_31 : decode cX11_asks 31 = .ok (.iload_n 1, 1) := by decide +kernel
theorem dX11_asks_32 : decode cX11_asks 32 = .ok (.iload_n 2, 1) := by decide +kernel
theorem dX11_asks_33 : decode cX11_asks 33 = .ok (.invokevirtual 388, 3) := by decide +kernel
theorem dX11_asks_36 : decode cX11_asks 36 = .ok (.aload_n 0, 1) := by decide +kernel
theorem dX11_asks_37 : decode cX11_asks 37 = .ok (.getfield 30, 3) := by decide +kernel
theorem dX11_asks_40 : decode cX11_asks 40 = .ok (.getfield 377, 3) := by decide +kernel
theorem dX11_asks_43 : decode cX11_asks 43 = .ok (.getfield 392, 3) := by decide +kernel
theorem dX11_asks_46 : decode cX11_asks 46 = .ok (.iload_n 3, 1) := by decide +kernel
theorem dX11_asks_47 : decode cX11_asks 47 = .ok (.iaload, 1) := by decide +kernel
theorem dX11_asks_48 : decode cX11_asks 48 = .ok (.ireturn, 1) := by decide +kernel
theorem okX11_asks : ab_okM MX11_asks 3 := ⟨by decide, ⟨by decide, by decide⟩, ab_in 1345 (by decide +kernel) (by decide +kernel), ab_in 86 (by decide +kernel) (by decide +kernel), by decide +kernel, by decide⟩
set_option maxHeartbeats 4000000 in
set_option maxRecDepth 100000 in
theorem sX11_asks (v1 : Int32) (v2 : Int32) (v3 : Int32)  (x : ab_X) (K : Int32 → ab_X → Prop) (d bc bs : Nat) (hdp : 4 ≤ d) (h : wX11_asks v1 v2 v3 x K) : EW MX11_asks 0 [(0, .ref 0), (1, .int v1), (2, .int v2), (3, .int v3)] [] (aS x) d bc bs (liI K) := by
  unfold wX11_asks at h
  refine EW_iload_n (pc2 := 1) rfl dX11_asks_0 1 rfl ?_
  refine AW_invS (M' := MX11_isCorner) [.int v1] (rest := []) mlRX11_70 okX11_isCorner (pc2 := 4) rfl dX11_asks_1 rfl rfl (Nat.le_of_ble_eq_true rfl) (Nat.le_of_ble_eq_true rfl) (d' := 0) (by omega) (EW_mono (fun _ _ hr => ?_) (sX11_isCorner v1  x _ _ 0 0 (Nat.le_refl _) h))
  obtain ⟨r1, rfl, rfl, h⟩ := hr
  refine EW_if_eq (tgt := 25) (pc2 := 7) rfl dX11_asks_4 (by decide) (fun q => ?_) (fun q => ?_)
  · replace h := h.1 q
    refine EW_iconst (pc2 := 26) (v := (-1)) rfl dX11_asks_25 (by decide) ?_
    exact AW_iret rfl dX11_asks_26 ⟨_, _, rfl, rfl, h⟩
  · replace h := h.2 q
    refine EW_iload_n (pc2 := 8) rfl dX11_asks_7 2 rfl ?_
    refine EW_iconst (pc2 := 9) (v := 1) rfl dX11_asks_8 (by decide) ?_
    refine EW_iconst (pc2 := 10) (v := 3) rfl dX11_asks_9 (by decide) ?_
    refine AW_invS (M' := MX11_within) [.int v2, .int 1, .int 3] (rest := []) mlRX11_74 okX11_within (pc2 := 13) rfl dX11_asks_10 rfl rfl (Nat.le_of_ble_eq_true rfl) (Nat.le_of_ble_eq_true rfl) (d' := 0) (by omega) (EW_mono (fun _ _ hr => ?_) (sX11_within v2 1 3  x _ _ 0 0 (Nat.le_refl _) h))
    obtain ⟨r2, rfl, rfl, h⟩ := hr
    refine EW_if_eq (tgt := 25) (pc2 := 16) rfl dX11_asks_13 (by decide) (fun q => ?_) (fun q => ?_)
    · replace h := h.1 q
      refine EW_iconst (pc2 := 26) (v := (-1)) rfl dX11_asks_25 (by decide) ?_
      exact AW_iret rfl dX11_asks_26 ⟨_, _, rfl, rfl, h⟩
    · replace h := h.2 q
      refine EW_iload_n (pc2 := 17) rfl dX11_asks_16 3 rfl ?_
      refine EW_iconst (pc2 := 18) (v := 0) rfl dX11_asks_17 (by decide) ?_
      refine EW_iconst (pc2 := 19) (v := 4) rfl dX11_asks_18 (by decide) ?_
      refine AW_invS (M' := MX11_within) [.int v3, .int 0, .int 4] (rest := []) mlRX11_74 okX11_within (pc2 := 22) rfl dX11_asks_19 rfl rfl (Nat.le_of_ble_eq_true rfl) (Nat.le_of_ble_eq_true rfl) (d' := 0) (by omega) (EW_mono (fun _ _ hr => ?_) (sX11_within v3 0 4  x _ _ 0 0 (Nat.le_refl _) h))
      obtain ⟨r3, rfl, rfl, h⟩ := hr
      refine EW_if_ne (tgt := 27) (pc2 := 25) rfl dX11_asks_22 (by decide) (fun q => ?_) (fun q => ?_)
      · replace h := h.1 q
        refine EW_aload_n (pc2 := 28) rfl dX11_asks_27 0 rfl ?_
        refine AW_getr (r := 66) ⟨gfRX11_30, rfl⟩ (pc2 := 31) rfl dX11_asks_28 q0 rfl ?_
        refine EW_iload_n (pc2 := 32) rfl dX11_asks_31 1 rfl ?_
        refine EW_iload_n (pc2 := 33) rfl dX11_asks_32 2 rfl ?_
        refine AW_invV (M' := MX0_readOrders) [.int v1, .int v2] (rest := []) mlRX11_388 okX0_readOrders (pc2 := 36) rfl dX11_asks_33 rfl rfl (Nat.le_of_ble_eq_true rfl) (Nat.le_of_ble_eq_true rfl) (d' := 3) (by omega) q66 ⟨by decide, rfl⟩ (EW_mono (fun _ _ hr => ?_) (sX0_readOrders v1 v2  x _ _ 0 0 (Nat.le_refl _) h))
        obtain ⟨x4, rfl, rfl, h⟩ := hr
        refine EW_aload_n (pc2 := 37) rfl dX11_asks_36 0 rfl ?_
        refine AW_getr (r := 66) ⟨gfRX11_30, rfl⟩ (pc2 := 40) rfl dX11_asks_37 q0 rfl ?_
        refine AW_getr (r := 69) ⟨gfRX11_377, rfl⟩ (pc2 := 43) rfl dX11_asks_40 q66 rfl ?_
        refine AW_getr (r := 72) ⟨gfRX11_392, rfl⟩ (pc2 := 46) rfl dX11_asks_43 q69 rfl ?_
        refine EW_iload_n (pc2 := 47) rfl dX11_asks_46 3 rfl ?_
        obtain ⟨b5, h⟩ := h
        refine AW_iald (pc2 := 48) rfl dX11_asks_47 q72 b5 ?_
        exact AW_iret rfl dX11_asks_48 ⟨_, _, rfl, rfl, h⟩
      · replace h := h.2 q
        refine EW_iconst (pc2 := 26) (v := (-1)) rfl dX11_asks_25 (by decide) ?_
        exact AW_iret rfl dX11_asks_26 ⟨_, _, rfl, rfl, h⟩
theorem gfRX11_21 : ab_L RX11 21 11 1 := ⟨by decide, by decide, ab_in 733 (by decide +kernel) (by decide +kernel)⟩
theorem mlRX11_124 : Cond.methodLink RX11 124 yX10_has ∈ ab_G ∧ Cond.instanceMethod yX10_has ∈ ab_G ∧ Cond.selects RX10 yX10_has yX10_has ∈ ab_G := ⟨ab_in 842 (by decide +kernel) (by decide +kernel), ab_in 834 (by decide +kernel) (by decide +kernel), ab_in 835 (by decide +kernel) (by decide +kernel)⟩
theorem gfRX11_127 : ab_L RX11 127 10 1 := ⟨by decide, by decide, ab_in 311 (by decide +kernel) (by decide +kernel)⟩
theorem gfRX11_131 : ab_L RX11 131 4 6 := ⟨by decide, by decide, ab_in 240 (by decide +kernel) (by decide +kernel)⟩
theorem gfRX11_135 : ab_L RX11 135 4 7 := ⟨by decide, by decide, ab_in 243 (by decide +kernel) (by decide +kernel)⟩
theorem gfRX11_138 : ab_L RX11 138 4 8 := ⟨by decide, by decide, ab_in 248 (by decide +kernel) (by decide +kernel)⟩
abbrev MX11_build : ab_M := (yX11_build, cX11_build, 6, (some .boolean))
theorem dX11_build_0 : decode cX11_build 0 = .ok (.aload_n 0, 1) := by decide +kernel
theorem dX11_build_1 : decode cX11_build 1 = .ok (.getfield 21, 3) := by decide +kernel
theorem dX11_build_4 : decode cX11_build 4 = .ok (.iload_n 1, 1) := by decide +kernel
theorem dX11_build_5 : decode cX11_build 5 = .ok (.invokevirtual 124, 3) := by decide +kernel
theorem dX11_build_8 : decode cX11_build 8 = .ok (.ifCond .eq 24, 3) := by decide +kernel
theorem dX11_build_11 : decode cX11_build 11 = .ok (.iload_n 3, 1) := by decide +kernel
theorem dX11_build_12 : decode cX11_build 12 = .ok (.iconst 0, 1) := by decide +kernel
theorem dX11_build_13 : decode cX11_build 13 = .ok (.iconst 3, 1) := by decide +kernel
theorem dX11_build_14 : decode cX11_build 14 = .ok (.invokestatic 74, 3) := by decide +kernel
theorem dX11_build_17 : decode cX11_build 17 = .ok (.ifCond .eq 15, 3) := by decide +kernel
theorem dX11_build_20 : decode cX11_build 20 = .ok (.iload 4, 2) := by decide +kernel
theorem dX11_build_22 : decode cX11_build 22 = .ok (.iconst 1, 1) := by decide +kernel
theorem dX11_build_23 : decode cX11_build 23 = .ok (.sipush 200, 3) := by decide +kernel
theorem dX11_build_26 : decode cX11_build 26 = .ok (.invokestatic 74, 3) := by decide +kernel
theorem dX11_build_29 : decode cX11_build 29 = .ok (.ifCond .ne 5, 3) := by decide +kernel
theorem dX11_build_32 : decode cX11_build 32 = .ok (.iconst 0, 1) := by decide +kernel
theorem dX11_build_33 : decode cX11_build 33 = .ok (.ireturn, 1) := by decide +kernel
theorem dX11_build_34 : decode cX11_build 34 = .ok (.aload_n 0, 1) := by decide +kernel
theorem dX11_build_35 : decode cX11_build 35 = .ok (.getfield 21, 3) := by decide +kernel
theorem dX11_build_38 : decode cX11_build 38 = .ok (.getfield 127, 3) := by decide +kernel
theorem dX11_build_41 : decode cX11_build 41 = .ok (.iload_n 1, 1) := by decide +kernel
theorem dX11_build_42 : decode cX11_build 42 = .ok (.aaload, 1) := by decide +kernel
theorem dX11_build_43 : decode cX11_build 43 = .ok (.astore 5, 2) := by decide +kernel
theorem dX11_build_45 : decode cX11_build 45 = .ok (.aload 5, 2) := by decide +kernel
theorem dX11_build_47 : decode cX11_build 47 = .ok (.iload_n 2, 1) := by decide +kernel
theorem dX11_build_48 : decode cX11_build 48 = .ok (.putfield 131, 3) := by decide +kernel
theorem dX11_build_51 : decode cX11_build 51 = .ok (.aload 5, 2) := by decide +kernel
theorem dX11_build_53 : decode cX11_build 53 = .ok (.iload_n 3, 1) := by decide +kernel
theorem dX11_build_54 : decode cX11_build 54 = .ok (.putfield 135, 3) := by decide +kernel
theorem dX11_build_57 : decode cX11_build 57 = .ok (.aload 5, 2) := by decide +kernel
theorem dX11_build_59 : decode cX11_build 59 = .ok (.iload 4, 2) := by decide +kernel
theorem dX11_build_61 : decode cX11_build 61 = .ok (.putfield 138, 3) := by decide +kernel
theorem dX11_build_64 : decode cX11_build 64 = .ok (.iconst 1, 1) := by decide +kernel
theorem dX11_build_65 : decode cX11_build 65 = .ok (.ireturn, 1) := by decide +kernel
theorem okX11_build : ab_okM MX11_build 4 := ⟨by decide, ⟨by decide, by decide⟩, ab_in 841 (by decide +kernel) (by decide +kernel), ab_in 86 (by decide +kernel) (by decide +kernel), by decide +kernel, by decide⟩
set_option maxHeartbeats 4000000 in
set_option maxRecDepth 100000 in
theorem sX11_build (v1 : Int32) (v2 : Int32) (v3 : Int32) (v4 : Int32)  (x : ab_X) (K : Int32 → ab_X → Prop) (d bc bs : Nat) (hdp : 2 ≤ d) (h : wX11_build v1 v2 v3 v4 x K) : EW MX11_build 0 [(0, .ref 0), (1, .int v1), (2, .int v2), (3, .int v3), (4, .int v4)] [] (aS x) d bc bs (liI K) := by
  unfold wX11_build at h
  refine EW_aload_n (pc2 := 1) rfl dX11_build_0 0 rfl ?_
  refine AW_getr (r := 9) ⟨gfRX11_21, rfl⟩ (pc2 := 4) rfl dX11_build_1 q0 rfl ?_
  refine EW_iload_n (pc2 := 5) rfl dX11_build_4 1 rfl ?_
  refine AW_invV (M' := MX10_has) [.int v1] (rest := []) mlRX11_124 okX10_has (pc2 := 8) rfl dX11_build_5 rfl rfl (Nat.le_of_ble_eq_true rfl) (Nat.le_of_ble_eq_true rfl) (d' := 1) (by omega) q9 ⟨by decide, rfl⟩ (EW_mono (fun _ _ hr => ?_) (sX10_has v1  x _ _ 0 0 (Nat.le_refl _) h))
  obtain ⟨r1, rfl, rfl, h⟩ := hr
  refine EW_if_eq (tgt := 32) (pc2 := 11) rfl dX11_build_8 (by decide) (fun q => ?_) (fun q => ?_)
  · replace h := h.1 q
    refine EW_iconst (pc2 := 33) (v := 0) rfl dX11_build_32 (by decide) ?_
    exact AW_zret rfl isB0 dX11_build_33 ⟨_, _, rfl, rfl, h⟩
  · replace h := h.2 q
    refine EW_iload_n (pc2 := 12) rfl dX11_build_11 3 rfl ?_
    refine EW_iconst (pc2 := 13) (v := 0) rfl dX11_build_12 (by decide) ?_
    refine EW_iconst (pc2 := 14) (v := 3) rfl dX11_build_13 (by decide) ?_
    refine AW_invS (M' := MX11_within) [.int v3, .int 0, .int 3] (rest := []) mlRX11_74 okX11_within (pc2 := 17) rfl dX11_build_14 rfl rfl (Nat.le_of_ble_eq_true rfl) (Nat.le_of_ble_eq_true rfl) (d' := 0) (by omega) (EW_mono (fun _ _ hr => ?_) (sX11_within v3 0 3  x _ _ 0 0 (Nat.le_refl _) h))
    obtain ⟨r2, rfl, rfl, h⟩ := hr
    refine EW_if_eq (tgt := 32) (pc2 := 20) rfl dX11_build_17 (by decide) (fun q => ?_) (fun q => ?_)
    · replace h := h.1 q
      refine EW_iconst (pc2 := 33) (v := 0) rfl dX11_build_32 (by decide) ?_
      exact AW_zret rfl isB0 dX11_build_33 ⟨_, _, rfl, rfl, h⟩
    · replace h := h.2 q
      refine EW_iload (pc2 := 22) rfl dX11_build_20 4 rfl ?_
      refine EW_iconst (pc2 := 23) (v := 1) rfl dX11_build_22 (by decide) ?_
      refine EW_sipush (pc2 := 26) (v := 200) rfl dX11_build_23 (by decide) ?_
      refine AW_invS (M' := MX11_within) [.int v4, .int 1, .int 200] (rest := []) mlRX11_74 okX11_within (pc2 := 29) rfl dX11_build_26 rfl rfl (Nat.le_of_ble_eq_true rfl) (Nat.le_of_ble_eq_true rfl) (d' := 0) (by omega) (EW_mono (fun _ _ hr => ?_) (sX11_within v4 1 200  x _ _ 0 0 (Nat.le_refl _) h))
      obtain ⟨r3, rfl, rfl, h⟩ := hr
      refine EW_if_ne (tgt := 34) (pc2 := 32) rfl dX11_build_29 (by decide) (fun q => ?_) (fun q => ?_)
      · replace h := h.1 q
        refine EW_aload_n (pc2 := 35) rfl dX11_build_34 0 rfl ?_
        refine AW_getr (r := 9) ⟨gfRX11_21, rfl⟩ (pc2 := 38) rfl dX11_build_35 q0 rfl ?_
        refine AW_getr (r := 10) ⟨gfRX11_127, rfl⟩ (pc2 := 41) rfl dX11_build_38 q9 rfl ?_
        refine EW_iload_n (pc2 := 42) rfl dX11_build_41 1 rfl ?_
        obtain ⟨b4, h⟩ := h
        refine AW_aald5 (pc2 := 43) rfl dX11_build_42 b4 ?_
        refine EW_astore (pc2 := 45) rfl dX11_build_43 (by decide) [1, 2, 3, 4, 5, 0] [(0, .ref 0), (1, .int v1), (2, .int v2), (3, .int v3), (4, .int v4), (5, .ref (30 + 3 * Int32.toNatClampNeg v1))] rfl ?_
        refine EW_aload (pc2 := 47) rfl dX11_build_45 5 rfl ?_
        refine EW_iload_n (pc2 := 48) rfl dX11_build_47 2 rfl ?_
        obtain ⟨z5, h⟩ := h
        refine AW_putz ⟨gfRX11_131, rfl, rfl⟩ z5 (pc2 := 51) rfl dX11_build_48 (isH.o (isH_of b4)) ?_
        refine EW_aload (pc2 := 53) rfl dX11_build_51 5 rfl ?_
        refine EW_iload_n (pc2 := 54) rfl dX11_build_53 3 rfl ?_
        refine AW_puti ⟨gfRX11_135, rfl, rfl⟩ (pc2 := 57) rfl dX11_build_54 (isH.o (isH_of b4)) ?_
        refine EW_aload (pc2 := 59) rfl dX11_build_57 5 rfl ?_
        refine EW_iload (pc2 := 61) rfl dX11_build_59 4 rfl ?_
        refine AW_puti ⟨gfRX11_138, rfl, rfl⟩ (pc2 := 64) rfl dX11_build_61 (isH.o (isH_of b4)) ?_
        refine EW_iconst (pc2 := 65) (v := 1) rfl dX11_build_64 (by decide) ?_
        exact AW_zret rfl isB1 dX11_build_65 ⟨_, _, rfl, rfl, h⟩
      · replace h := h.2 q
        refine EW_iconst (pc2 := 33) (v := 0) rfl dX11_build_32 (by decide) ?_
        exact AW_zret rfl isB0 dX11_build_33 ⟨_, _, rfl, rfl, h⟩
theorem mlRX11_324 : Cond.methodLink RX11 324 yX0_answer ∈ ab_G ∧ Cond.instanceMethod yX0_answer ∈ ab_G ∧ Cond.selects RX0 yX0_answer yX0_answer ∈ ab_G := ⟨ab_in 1043 (by decide +kernel) (by decide +kernel), ab_in 1044 (by decide +kernel) (by decide +kernel), ab_in 1045 (by decide +kernel) (by decide +kernel)⟩
abbrev MX11_call : ab_M := (yX11_call, cX11_call, 2, (some .int))
theorem dX11_call_0 : decode cX11_call 0 = .ok (.iload_n 1, 1) := by decide +kernel
theorem dX11_call_1 : decode cX11_call 1 = .ok (.invokestatic 70, 3) := by decide +kernel
theorem dX11_call_4 : decode cX11_call 4 = .ok (.ifCond .eq 14, 3) := by decide +kernel
theorem dX11_call_7 : decode cX11_call 7 = .ok (.aload_n 0, 1) := by decide +kernel
theorem dX11_call_8 : decode cX11_call 8 = .ok (.getfield 30, 3) := by decide +kernel
theorem dX11_call_11 : decode cX11_call 11 = .ok (.iload_n 1, 1) := by decide +kernel
theorem dX11_call_12 : decode cX11_call 12 = .ok (.invokevirtual 324, 3) := by decide +kernel
theorem dX11_call_15 : decode cX11_call 15 = .ok (.goto 4, 3) := by decide +kernel
theorem dX11_call_18 : decode cX11_call 18 = .ok (.iconst (-1), 1) := by decide +kernel
theorem dX11_call_19 : decode cX11_call 19 = .ok (.ireturn, 1) := by decide +kernel
theorem okX11_call : ab_okM MX11_call 1 := ⟨by decide, ⟨by decide, by decide⟩, ab_in 1042 (by decide +kernel) (by decide +kernel), ab_in 86 (by decide +kernel) (by decide +kernel), by decide +kernel, by decide⟩
set_option maxHeartbeats 4000000 in
set_option maxRecDepth 100000 in
theorem sX11_call (v1 : Int32)  (x : ab_X) (K : Int32 → ab_X → Prop) (d bc bs : Nat) (hdp : 6 ≤ d) (h : wX11_call v1 x K) : EW MX11_call 0 [(0, .ref 0), (1, .int v1)] [] (aS x) d bc bs (liI K) := by
  unfold wX11_call at h
  refine EW_iload_n (pc2 := 1) rfl dX11_call_0 1 rfl ?_
  refine AW_invS (M' := MX11_isCorner) [.int v1] (rest := []) mlRX11_70 okX11_isCorner (pc2 := 4) rfl dX11_call_1 rfl rfl (Nat.le_of_ble_eq_true rfl) (Nat.le_of_ble_eq_true rfl) (d' := 0) (by omega) (EW_mono (fun _ _ hr => ?_) (sX11_isCorner v1  x _ _ 0 0 (Nat.le_refl _) h))
  obtain ⟨r1, rfl, rfl, h⟩ := hr
  refine EW_if_eq (tgt := 18) (pc2 := 7) rfl dX11_call_4 (by decide) (fun q => ?_) (fun q => ?_)
  · replace h := h.1 q
    refine EW_iconst (pc2 := 19) (v := (-1)) rfl dX11_call_18 (by decide) ?_
    exact AW_iret rfl dX11_call_19 ⟨_, _, rfl, rfl, h⟩
  · replace h := h.2 q
    refine EW_aload_n (pc2 := 8) rfl dX11_call_7 0 rfl ?_
    refine AW_getr (r := 66) ⟨gfRX11_30, rfl⟩ (pc2 := 11) rfl dX11_call_8 q0 rfl ?_
    refine EW_iload_n (pc2 := 12) rfl dX11_call_11 1 rfl ?_
    refine AW_invV (M' := MX0_answer) [.int v1] (rest := []) mlRX11_324 okX0_answer (pc2 := 15) rfl dX11_call_12 rfl rfl (Nat.le_of_ble_eq_true rfl) (Nat.le_of_ble_eq_true rfl) (d' := 5) (by omega) q66 ⟨by decide, rfl⟩ (EW_mono (fun _ _ hr => ?_) (sX0_answer v1  x _ _ 0 0 (Nat.le_refl _) h))
    obtain ⟨r2, x3, rfl, rfl, h⟩ := hr
    refine EW_goto (tgt := 19) dX11_call_15 (by decide) ?_
    exact AW_iret rfl dX11_call_19 ⟨_, _, rfl, rfl, h⟩
