theorem gfRX8_17 : ab_L RX8 17 8 3 := ⟨by decide, by decide, ab_in 606 (by decide +kernel) (by decide +kernel)⟩
theorem mlRX8_66 : Cond.methodLink RX8 66 yX8_number ∈ ab_G ∧ Cond.instanceMethod yX8_number ∈ ab_G ∧ Cond.selects RX8 yX8_number yX8_number ∈ ab_G := ⟨ab_in 1223 (by decide +kernel) (by decide +kernel), ab_in 1224 (by decide +kernel) (by decide +kernel), ab_in 1225 (by decide +kernel) (by decide +kernel)⟩
theorem mlRX8_85 : Cond.methodLink RX8 85 yX8_opens ∈ ab_G ∧ Cond.instanceMethod yX8_opens ∈ ab_G ∧ Cond.selects RX8 yX8_opens yX8_opens ∈ ab_G := ⟨ab_in 1192 (by decide +kernel) (by decide +kernel), ab_in 1193 (by decide +kernel) (by decide +kernel), ab_in 1194 (by decide +kernel) (by decide +kernel)⟩
theorem mlRX8_91 : Cond.methodLink RX8 91 yX8_sum ∈ ab_G ∧ Cond.instanceMethod yX8_sum ∈ ab_G ∧ Cond.selects RX8 yX8_sum yX8_sum ∈ ab_G := ⟨ab_in 1208 (by decide +kernel) (by decide +kernel), ab_in 1210 (by decide +kernel) (by decide +kernel), ab_in 4 (by decide +kernel) (by decide +kernel)⟩
theorem mlRX8_55 : Cond.methodLink RX8 55 yX8_passes ∈ ab_G ∧ Cond.instanceMethod yX8_passes ∈ ab_G ∧ Cond.selects RX8 yX8_passes yX8_passes ∈ ab_G := ⟨ab_in 1200 (by decide +kernel) (by decide +kernel), ab_in 1201 (by decide +kernel) (by decide +kernel), ab_in 1202 (by decide +kernel) (by decide +kernel)⟩
theorem mlRX8_94 : Cond.methodLink RX8 94 yX8_term ∈ ab_G ∧ Cond.instanceMethod yX8_term ∈ ab_G ∧ Cond.selects RX8 yX8_term yX8_term ∈ ab_G := ⟨ab_in 1212 (by decide +kernel) (by decide +kernel), ab_in 1214 (by decide +kernel) (by decide +kernel), ab_in 5 (by decide +kernel) (by decide +kernel)⟩
theorem mlRX8_97 : Cond.methodLink RX8 97 yX8_atom ∈ ab_G ∧ Cond.instanceMethod yX8_atom ∈ ab_G ∧ Cond.selects RX8 yX8_atom yX8_atom ∈ ab_G := ⟨ab_in 1216 (by decide +kernel) (by decide +kernel), ab_in 1218 (by decide +kernel) (by decide +kernel), ab_in 6 (by decide +kernel) (by decide +kernel)⟩
abbrev MX8_atom : ab_M := (yX8_atom, cX8_atom, 4, (some .boolean))
theorem dX8_atom_0 : decode cX8_atom 0 = .ok (.aload_n 0, 1) := by decide +kernel
theorem dX8_atom_1 : decode cX8_atom 1 = .ok (.invokevirtual 46, 3) := by decide +kernel
theorem dX8_atom_4 : decode cX8_atom 4 = .ok (.istore_n 2, 1) := by decide +kernel
theorem dX8_atom_5 : decode cX8_atom 5 = .ok (.iload_n 2, 1) := by decide +kernel
theorem dX8_atom_6 : decode cX8_atom 6 = .ok (.bipush 91, 2) := by decide +kernel
theorem dX8_atom_8 : decode cX8_atom 8 = .ok (.if_icmp .ne 36, 3) := by decide +kernel
theorem dX8_atom_11 : decode cX8_atom 11 = .ok (.aload_n 0, 1) := by decide +kernel
theorem dX8_atom_12 : decode cX8_atom 12 = .ok (.iload_n 1, 1) := by decide +kernel
theorem dX8_atom_13 : decode cX8_atom 13 = .ok (.invokevirtual 85, 3) := by decide +kernel
theorem dX8_atom_16 : decode cX8_atom 16 = .ok (.ifCond .eq 26, 3) := by decide +kernel
theorem dX8_atom_19 : decode cX8_atom 19 = .ok (.aload_n 0, 1) := by decide +kernel
theorem dX8_atom_20 : decode cX8_atom 20 = .ok (.iload_n 1, 1) := by decide +kernel
theorem dX8_atom_21 : decode cX8_atom 21 = .ok (.iconst 1, 1) := by decide +kernel
theorem dX8_atom_22 : decode cX8_atom 22 = .ok (.iadd, 1) := by decide +kernel
theorem dX8_atom_23 : decode cX8_atom 23 = .ok (.invokevirtual 91, 3) := by decide +kernel
theorem dX8_atom_26 : decode cX8_atom 26 = .ok (.ifCond .eq 16, 3) := by decide +kernel
theorem dX8_atom_29 : decode cX8_atom 29 = .ok (.aload_n 0, 1) := by decide +kernel
theorem dX8_atom_30 : decode cX8_atom 30 = .ok (.bipush 93, 2) := by decide +kernel
theorem dX8_atom_32 : decode cX8_atom 32 = .ok (.invokevirtual 55, 3) := by decide +kernel
theorem dX8_atom_35 : decode cX8_atom 35 = .ok (.ifCond .eq 7, 3) := by decide +kernel
theorem dX8_atom_38 : decode cX8_atom 38 = .ok (.iconst 1, 1) := by decide +kernel
theorem dX8_atom_39 : decode cX8_atom 39 = .ok (.goto 4, 3) := by decide +kernel
theorem dX8_atom_42 : decode cX8_atom 42 = .ok (.iconst 0, 1) := by decide +kernel
theorem dX8_atom_43 : decode cX8_atom 43 = .ok (.ireturn, 1) := by decide +kernel
theorem dX8_atom_44 : decode cX8_atom 44 = .ok (.iload_n 2, 1) := by decide +kernel
theorem dX8_atom_45 : decode cX8_atom 45 = .ok (.invokestatic 76, 3) := by decide +kernel
theorem dX8_atom_48 : decode cX8_atom 48 = .ok (.ifCond .eq 10, 3) := by decide +kernel
theorem dX8_atom_51 : decode cX8_atom 51 = .ok (.aload_n 0, 1) := by decide +kernel
theorem dX8_atom_52 : decode cX8_atom 52 = .ok (.iconst 4, 1) := by decide +kernel
theorem dX8_atom_53 : decode cX8_atom 53 = .ok (.iconst 0, 1) := by decide +kernel
theorem dX8_atom_54 : decode cX8_atom 54 = .ok (.invokevirtual 66, 3) := by decide +kernel
theorem dX8_atom_57 : decode cX8_atom 57 = .ok (.ireturn, 1) := by decide +kernel
theorem dX8_atom_58 : decode cX8_atom 58 = .ok (.aload_n 0, 1) := by decide +kernel
theorem dX8_atom_59 : decode cX8_atom 59 = .ok (.aload_n 0, 1) := by decide +kernel
theorem dX8_atom_60 : decode cX8_atom 60 = .ok (.getfield 17, 3) := by decide +kernel
theorem dX8_atom_63 : decode cX8_atom 63 = .ok (.invokevirtual 72, 3) := by decide +kernel
theorem dX8_atom_66 : decode cX8_atom 66 = .ok (.istore_n 3, 1) := by decide +kernel
theorem dX8_atom_67 : decode cX8_atom 67 = .ok (.iload_n 3, 1) := by decide +kernel
theorem dX8_atom_68 : decode cX8_atom 68 = .ok (.iconst (-1), 1) := by decide +kernel
theorem dX8_atom_69 : decode cX8_atom 69 = .ok (.if_icmp .ne 5, 3) := by decide +kernel
theorem dX8_atom_72 : decode cX8_atom 72 = .ok (.iconst 0, 1) := by decide +kernel
theorem dX8_atom_73 : decode cX8_atom 73 = .ok (.ireturn, 1) := by decide +kernel
theorem dX8_atom_74 : decode cX8_atom 74 = .ok (.aload_n 0, 1) := by decide +kernel
theorem dX8_atom_75 : decode cX8_atom 75 = .ok (.getfield 24, 3) := by decide +kernel
theorem dX8_atom_78 : decode cX8_atom 78 = .ok (.iconst 1, 1) := by decide +kernel
theorem dX8_atom_79 : decode cX8_atom 79 = .ok (.iload_n 3, 1) := by decide +kernel
theorem dX8_atom_80 : decode cX8_atom 80 = .ok (.invokevirtual 58, 3) := by decide +kernel
theorem dX8_atom_83 : decode cX8_atom 83 = .ok (.aload_n 0, 1) := by decide +kernel
theorem dX8_atom_84 : decode cX8_atom 84 = .ok (.dup, 1) := by decide +kernel
theorem dX8_atom_85 : decode cX8_atom 85 = .ok (.getfield 36, 3) := by decide +kernel
theorem dX8_atom_88 : decode cX8_atom 88 = .ok (.iconst 1, 1) := by decide +kernel
theorem dX8_atom_89 : decode cX8_atom 89 = .ok (.iadd, 1) := by decide +kernel
theorem dX8_atom_90 : decode cX8_atom 90 = .ok (.putfield 36, 3) := by decide +kernel
theorem dX8_atom_93 : decode cX8_atom 93 = .ok (.iconst 1, 1) := by decide +kernel
theorem dX8_atom_94 : decode cX8_atom 94 = .ok (.ireturn, 1) := by decide +kernel
theorem okX8_atom : ab_okM MX8_atom 1 := ⟨by decide, ⟨by decide, by decide⟩, ab_in 1219 (by decide +kernel) (by decide +kernel), ab_in 96 (by decide +kernel) (by decide +kernel), by decide +kernel, by decide⟩
abbrev MX8_sum : ab_M := (yX8_sum, cX8_sum, 4, (some .boolean))
theorem dX8_sum_0 : decode cX8_sum 0 = .ok (.aload_n 0, 1) := by decide +kernel
theorem dX8_sum_1 : decode cX8_sum 1 = .ok (.iload_n 1, 1) := by decide +kernel
theorem dX8_sum_2 : decode cX8_sum 2 = .ok (.invokevirtual 94, 3) := by decide +kernel
theorem dX8_sum_5 : decode cX8_sum 5 = .ok (.ifCond .ne 5, 3) := by decide +kernel
theorem dX8_sum_8 : decode cX8_sum 8 = .ok (.iconst 0, 1) := by decide +kernel
theorem dX8_sum_9 : decode cX8_sum 9 = .ok (.ireturn, 1) := by decide +kernel
theorem dX8_sum_10 : decode cX8_sum 10 = .ok (.iconst 0, 1) := by decide +kernel
theorem dX8_sum_11 : decode cX8_sum 11 = .ok (.istore_n 2, 1) := by decide +kernel
theorem dX8_sum_12 : decode cX8_sum 12 = .ok (.iload_n 2, 1) := by decide +kernel
theorem dX8_sum_13 : decode cX8_sum 13 = .ok (.sipush 200, 3) := by decide +kernel
theorem dX8_sum_16 : decode cX8_sum 16 = .ok (.if_icmp .ge 67, 3) := by decide +kernel
theorem dX8_sum_19 : decode cX8_sum 19 = .ok (.aload_n 0, 1) := by decide +kernel
theorem dX8_sum_20 : decode cX8_sum 20 = .ok (.invokevirtual 46, 3) := by decide +kernel
theorem dX8_sum_23 : decode cX8_sum 23 = .ok (.istore_n 3, 1) := by decide +kernel
theorem dX8_sum_24 : decode cX8_sum 24 = .ok (.iload_n 3, 1) := by decide +kernel
theorem dX8_sum_25 : decode cX8_sum 25 = .ok (.bipush 43, 2) := by decide +kernel
theorem dX8_sum_27 : decode cX8_sum 27 = .ok (.if_icmp .eq 11, 3) := by decide +kernel
theorem dX8_sum_30 : decode cX8_sum 30 = .ok (.iload_n 3, 1) := by decide +kernel
theorem dX8_sum_31 : decode cX8_sum 31 = .ok (.bipush 45, 2) := by decide +kernel
theorem dX8_sum_33 : decode cX8_sum 33 = .ok (.if_icmp .eq 5, 3) := by decide +kernel
theorem dX8_sum_36 : decode cX8_sum 36 = .ok (.iconst 1, 1) := by decide +kernel
theorem dX8_sum_37 : decode cX8_sum 37 = .ok (.ireturn, 1) := by decide +kernel
theorem dX8_sum_38 : decode cX8_sum 38 = .ok (.aload_n 0, 1) := by decide +kernel
theorem dX8_sum_39 : decode cX8_sum 39 = .ok (.dup, 1) := by decide +kernel
theorem dX8_sum_40 : decode cX8_sum 40 = .ok (.getfield 36, 3) := by decide +kernel
theorem dX8_sum_43 : decode cX8_sum 43 = .ok (.iconst 1, 1) := by decide +kernel
theorem dX8_sum_44 : decode cX8_sum 44 = .ok (.iadd, 1) := by decide +kernel
theorem dX8_sum_45 : decode cX8_sum 45 = .ok (.putfield 36, 3) := by decide +kernel
theorem dX8_sum_48 : decode cX8_sum 48 = .ok (.aload_n 0, 1) := by decide +kernel
theorem dX8_sum_49 : decode cX8_sum 49 = .ok (.iload_n 1, 1) := by decide +kernel
theorem dX8_sum_50 : decode cX8_sum 50 = .ok (.invokevirtual 94, 3) := by decide +kernel
theorem dX8_sum_53 : decode cX8_sum 53 = .ok (.ifCond .ne 5, 3) := by decide +kernel
theorem dX8_sum_56 : decode cX8_sum 56 = .ok (.iconst 0, 1) := by decide +kernel
theorem dX8_sum_57 : decode cX8_sum 57 = .ok (.ireturn, 1) := by decide +kernel
theorem dX8_sum_58 : decode cX8_sum 58 = .ok (.aload_n 0, 1) := by decide +kernel
theorem dX8_sum_59 : decode cX8_sum 59 = .ok (.getfield 24, 3) := by decide +kernel
theorem dX8_sum_62 : decode cX8_sum 62 = .ok (.iload_n 3, 1) := by decide +kernel
theorem dX8_sum_63 : decode cX8_sum 63 = .ok (.bipush 43, 2) := by decide +kernel
theorem dX8_sum_65 : decode cX8_sum 65 = .ok (.if_icmp .ne 7, 3) := by decide +kernel
theorem dX8_sum_68 : decode cX8_sum 68 = .ok (.iconst 2, 1) := by decide +kernel
theorem dX8_sum_69 : decode cX8_sum 69 = .ok (.goto 4, 3) := by decide +kernel
theorem dX8_sum_72 : decode cX8_sum 72 = .ok (.iconst 3, 1) := by decide +kernel
theorem dX8_sum_73 : decode cX8_sum 73 = .ok (.iconst 0, 1) := by decide +kernel
theorem dX8_sum_74 : decode cX8_sum 74 = .ok (.invokevirtual 58, 3) := by decide +kernel
theorem dX8_sum_77 : decode cX8_sum 77 = .ok (.iinc 2 1, 3) := by decide +kernel
theorem dX8_sum_80 : decode cX8_sum 80 = .ok (.goto (-68), 3) := by decide +kernel
theorem dX8_sum_83 : decode cX8_sum 83 = .ok (.iconst 1, 1) := by decide +kernel
theorem dX8_sum_84 : decode cX8_sum 84 = .ok (.ireturn, 1) := by decide +kernel
theorem okX8_sum : ab_okM MX8_sum 1 := ⟨by decide, ⟨by decide, by decide⟩, ab_in 1211 (by decide +kernel) (by decide +kernel), ab_in 96 (by decide +kernel) (by decide +kernel), by decide +kernel, by decide⟩
abbrev MX8_term : ab_M := (yX8_term, cX8_term, 3, (some .boolean))
theorem dX8_term_0 : decode cX8_term 0 = .ok (.aload_n 0, 1) := by decide +kernel
theorem dX8_term_1 : decode cX8_term 1 = .ok (.iload_n 1, 1) := by decide +kernel
theorem dX8_term_2 : decode cX8_term 2 = .ok (.invokevirtual 97, 3) := by decide +kernel
theorem dX8_term_5 : decode cX8_term 5 = .ok (.ifCond .ne 5, 3) := by decide +kernel
theorem dX8_term_8 : decode cX8_term 8 = .ok (.iconst 0, 1) := by decide +kernel
theorem dX8_term_9 : decode cX8_term 9 = .ok (.ireturn, 1) := by decide +kernel
theorem dX8_term_10 : decode cX8_term 10 = .ok (.iconst 0, 1) := by decide +kernel
theorem dX8_term_11 : decode cX8_term 11 = .ok (.istore_n 2, 1) := by decide +kernel
theorem dX8_term_12 : decode cX8_term 12 = .ok (.iload_n 2, 1) := by decide +kernel
theorem dX8_term_13 : decode cX8_term 13 = .ok (.sipush 200, 3) := by decide +kernel
theorem dX8_term_16 : decode cX8_term 16 = .ok (.if_icmp .ge 37, 3) := by decide +kernel
theorem dX8_term_19 : decode cX8_term 19 = .ok (.aload_n 0, 1) := by decide +kernel
theorem dX8_term_20 : decode cX8_term 20 = .ok (.bipush 42, 2) := by decide +kernel
theorem dX8_term_22 : decode cX8_term 22 = .ok (.invokevirtual 55, 3) := by decide +kernel
theorem dX8_term_25 : decode cX8_term 25 = .ok (.ifCond .eq 28, 3) := by decide +kernel
theorem dX8_term_28 : decode cX8_term 28 = .ok (.aload_n 0, 1) := by decide +kernel
theorem dX8_term_29 : decode cX8_term 29 = .ok (.iload_n 1, 1) := by decide +kernel
theorem dX8_term_30 : decode cX8_term 30 = .ok (.invokevirtual 97, 3) := by decide +kernel
theorem dX8_term_33 : decode cX8_term 33 = .ok (.ifCond .ne 5, 3) := by decide +kernel
theorem dX8_term_36 : decode cX8_term 36 = .ok (.iconst 0, 1) := by decide +kernel
theorem dX8_term_37 : decode cX8_term 37 = .ok (.ireturn, 1) := by decide +kernel
theorem dX8_term_38 : decode cX8_term 38 = .ok (.aload_n 0, 1) := by decide +kernel
theorem dX8_term_39 : decode cX8_term 39 = .ok (.getfield 24, 3) := by decide +kernel
theorem dX8_term_42 : decode cX8_term 42 = .ok (.iconst 4, 1) := by decide +kernel
theorem dX8_term_43 : decode cX8_term 43 = .ok (.iconst 0, 1) := by decide +kernel
theorem dX8_term_44 : decode cX8_term 44 = .ok (.invokevirtual 58, 3) := by decide +kernel
theorem dX8_term_47 : decode cX8_term 47 = .ok (.iinc 2 1, 3) := by decide +kernel
theorem dX8_term_50 : decode cX8_term 50 = .ok (.goto (-38), 3) := by decide +kernel
theorem dX8_term_53 : decode cX8_term 53 = .ok (.iconst 1, 1) := by decide +kernel
theorem dX8_term_54 : decode cX8_term 54 = .ok (.ireturn, 1) := by decide +kernel
theorem okX8_term : ab_okM MX8_term 1 := ⟨by decide, ⟨by decide, by decide⟩, ab_in 1215 (by decide +kernel) (by decide +kernel), ab_in 96 (by decide +kernel) (by decide +kernel), by decide +kernel, by decide⟩
set_option maxHeartbeats 4000000 in
set_option maxRecDepth 100000 in
def bX8_atom (RX8_atom : Int32 → ab_X → (Int32 → ab_X → Prop) → Prop) (RX8_sum : Int32 → ab_X → (Int32 → ab_X → Prop) → Prop) (RX8_term : Int32 → ab_X → (Int32 → ab_X → Prop) → Prop) (v1 : Int32) (x : ab_X) (K : Int32 → ab_X → Prop) : Prop := wX8_peek x (fun r1 x2 => ((¬ r1 = 91 → wX8_isDigit r1 x2 (fun r3 => ((r3 = 0 → (isS x2.2.2.2.1 ∧ wX8_indexIn x2.2.2.2.1 x2 (fun r5 x6 => ((¬ r5 = (-1) → wX9_add 160 1 r5 x6 (fun x7 => K 1 (wr x7 158 2 ((x7.1 158 2) + 1)))) ∧ (r5 = (-1) → K 0 x6))))) ∧ (¬ r3 = 0 → wX8_number 4 0 x2 (fun r8 x9 => (isB r8 ∧ K r8 x9)))))) ∧ (r1 = 91 → wX8_opens v1 x2 (fun r11 x12 => ((r11 = 0 → K 0 x12) ∧ (¬ r11 = 0 → RX8_sum (v1 + 1) x12 (fun r13 x14 => ((r13 = 0 → K 0 x14) ∧ (¬ r13 = 0 → wX8_passes 93 x14 (fun r15 x16 => ((r15 = 0 → K 0 x16) ∧ (¬ r15 = 0 → K 1 x16))))))))))))
set_option maxHeartbeats 4000000 in
set_option maxRecDepth 100000 in
theorem bsX8_atom (RX8_atom : Int32 → ab_X → (Int32 → ab_X → Prop) → Prop) (RX8_sum : Int32 → ab_X → (Int32 → ab_X → Prop) → Prop) (RX8_term : Int32 → ab_X → (Int32 → ab_X → Prop) → Prop) (v1 : Int32)  (x : ab_X) (K : Int32 → ab_X → Prop) (d bc bs : Nat) (hdp : 5 ≤ d) (dr : Nat) (hRX8_atom : ∀ (v1 : Int32)  (x : ab_X) (K : Int32 → ab_X → Prop), RX8_atom v1 x K → EW MX8_atom 0 [(0, .ref 158), (1, .int v1)] [] (aS x) dr 0 0 (liI K)) (hRX8_sum : ∀ (v1 : Int32)  (x : ab_X) (K : Int32 → ab_X → Prop), RX8_sum v1 x K → EW MX8_sum 0 [(0, .ref 158), (1, .int v1)] [] (aS x) dr 0 0 (liI K)) (hRX8_term : ∀ (v1 : Int32)  (x : ab_X) (K : Int32 → ab_X → Prop), RX8_term v1 x K → EW MX8_term 0 [(0, .ref 158), (1, .int v1)] [] (aS x) dr 0 0 (liI K)) (hdr : dr + 1 ≤ d) (h : bX8_atom RX8_atom RX8_sum RX8_term v1 x K) : EW MX8_atom 0 [(0, .ref 158), (1, .int v1)] [] (aS x) d bc bs (liI K) := by
  unfold bX8_atom at h
  refine EW_aload_n (pc2 := 1) rfl dX8_atom_0 0 rfl ?_
  refine AW_invV (M' := MX8_peek) [] (rest := []) mlRX8_46 okX8_peek (pc2 := 4) rfl dX8_atom_1 rfl rfl (Nat.le_of_ble_eq_true rfl) (Nat.le_of_ble_eq_true rfl) (d' := 0) (by omega) q158 ⟨by decide, rfl⟩ (EW_mono (fun _ _ hr => ?_) (sX8_peek   x _ _ 0 0 (Nat.le_refl _) h))
  obtain ⟨r1, x2, rfl, rfl, h⟩ := hr
  refine EW_istore_n (pc2 := 5) rfl dX8_atom_4 (by decide) [1, 2, 0] [(0, .ref 158), (1, .int v1), (2, .int r1)] rfl ?_
  refine EW_iload_n (pc2 := 6) rfl dX8_atom_5 2 rfl ?_
  refine EW_bipush (pc2 := 8) (v := 91) rfl dX8_atom_6 (by decide) ?_
  refine EW_icmp_ne (tgt := 44) (pc2 := 11) rfl dX8_atom_8 (by decide) (fun q => ?_) (fun q => ?_)
  · replace h := h.1 q
    refine EW_iload_n (pc2 := 45) rfl dX8_atom_44 2 rfl ?_
    refine AW_invS (M' := MX8_isDigit) [.int r1] (rest := []) mlRX8_76 okX8_isDigit (pc2 := 48) rfl dX8_atom_45 rfl rfl (Nat.le_of_ble_eq_true rfl) (Nat.le_of_ble_eq_true rfl) (d' := 0) (by omega) (EW_mono (fun _ _ hr => ?_) (sX8_isDigit r1  x2 _ _ 0 0 (Nat.le_refl _) h))
    obtain ⟨r3, rfl, rfl, h⟩ := hr
    refine EW_if_eq (tgt := 58) (pc2 := 51) rfl dX8_atom_48 (by decide) (fun q => ?_) (fun q => ?_)
    · replace h := h.1 q
      refine EW_aload_n (pc2 := 59) rfl dX8_atom_58 0 rfl ?_
      refine EW_aload_n (pc2 := 60) rfl dX8_atom_59 0 rfl ?_
      refine AW_getr (r := x2.2.2.2.1) ⟨gfRX8_17, rfl⟩ (pc2 := 63) rfl dX8_atom_60 q158 rfl ?_
      obtain ⟨z4, h⟩ := h
      refine AW_invV (M' := MX8_indexIn) [.ref x2.2.2.2.1] (rest := []) mlRX8_72 okX8_indexIn (pc2 := 66) rfl dX8_atom_63 rfl rfl (Nat.le_of_ble_eq_true rfl) (Nat.le_of_ble_eq_true rfl) (d' := 4) (by omega) q158 ⟨by decide, rfl⟩ (EW_mono (fun _ _ hr => ?_) (sX8_indexIn x2.2.2.2.1 z4 x2 _ _ 0 0 (Nat.le_refl _) h))
      obtain ⟨r5, x6, rfl, rfl, h⟩ := hr
      refine EW_istore_n (pc2 := 67) rfl dX8_atom_66 (by decide) [1, 2, 3, 0] [(0, .ref 158), (1, .int v1), (2, .int r1), (3, .int r5)] rfl ?_
      refine EW_iload_n (pc2 := 68) rfl dX8_atom_67 3 rfl ?_
      refine EW_iconst (pc2 := 69) (v := (-1)) rfl dX8_atom_68 (by decide) ?_
      refine EW_icmp_ne (tgt := 74) (pc2 := 72) rfl dX8_atom_69 (by decide) (fun q => ?_) (fun q => ?_)
      · replace h := h.1 q
        refine EW_aload_n (pc2 := 75) rfl dX8_atom_74 0 rfl ?_
        refine AW_getr (r := 160) ⟨gfRX8_24, rfl⟩ (pc2 := 78) rfl dX8_atom_75 q158 rfl ?_
        refine EW_iconst (pc2 := 79) (v := 1) rfl dX8_atom_78 (by decide) ?_
        refine EW_iload_n (pc2 := 80) rfl dX8_atom_79 3 rfl ?_
        refine AW_invV (M' := MX9_add) [.int 1, .int r5] (rest := []) mlRX8_58 okX9_add (pc2 := 83) rfl dX8_atom_80 rfl rfl (Nat.le_of_ble_eq_true rfl) (Nat.le_of_ble_eq_true rfl) (d' := 0) (by omega) q160 ⟨by decide, rfl⟩ (EW_mono (fun _ _ hr => ?_) (sX9_add 160 1 r5 (Or.inr (Or.inr (Or.inl rfl)) : isT 160) x6 _ _ 0 0 (Nat.le_refl _) h))
        obtain ⟨x7, rfl, rfl, h⟩ := hr
        refine EW_aload_n (pc2 := 84) rfl dX8_atom_83 0 rfl ?_
        refine EW_dup (pc2 := 85) rfl dX8_atom_84 rfl ?_
        refine AW_geti ⟨gfRX8_36, rfl⟩ (pc2 := 88) rfl dX8_atom_85 q158 ?_
        refine EW_iconst (pc2 := 89) (v := 1) rfl dX8_atom_88 (by decide) ?_
        refine EW_iadd (pc2 := 90) rfl dX8_atom_89 ?_
        refine AW_puti ⟨gfRX8_36, rfl, rfl⟩ (pc2 := 93) rfl dX8_atom_90 q158 ?_
        refine EW_iconst (pc2 := 94) (v := 1) rfl dX8_atom_93 (by decide) ?_
        exact AW_zret rfl isB1 dX8_atom_94 ⟨_, _, rfl, rfl, h⟩
      · replace h := h.2 q
        refine EW_iconst (pc2 := 73) (v := 0) rfl dX8_atom_72 (by decide) ?_
        exact AW_zret rfl isB0 dX8_atom_73 ⟨_, _, rfl, rfl, h⟩
    · replace h := h.2 q
      refine EW_aload_n (pc2 := 52) rfl dX8_atom_51 0 rfl ?_
      refine EW_iconst (pc2 := 53) (v := 4) rfl dX8_atom_52 (by decide) ?_
      refine EW_iconst (pc2 := 54) (v := 0) rfl dX8_atom_53 (by decide) ?_
      refine AW_invV (M' := MX8_number) [.int 4, .int 0] (rest := []) mlRX8_66 okX8_number (pc2 := 57) rfl dX8_atom_54 rfl rfl (Nat.le_of_ble_eq_true rfl) (Nat.le_of_ble_eq_true rfl) (d' := 1) (by omega) q158 ⟨by decide, rfl⟩ (EW_mono (fun _ _ hr => ?_) (sX8_number 4 0  x2 _ _ 0 0 (Nat.le_refl _) h))
      obtain ⟨r8, x9, rfl, rfl, h⟩ := hr
      obtain ⟨z10, h⟩ := h
      exact AW_zret rfl z10 dX8_atom_57 ⟨_, _, rfl, rfl, h⟩
  · replace h := h.2 q
    refine EW_aload_n (pc2 := 12) rfl dX8_atom_11 0 rfl ?_
    refine EW_iload_n (pc2 := 13) rfl dX8_atom_12 1 rfl ?_
    refine AW_invV (M' := MX8_opens) [.int v1] (rest := []) mlRX8_85 okX8_opens (pc2 := 16) rfl dX8_atom_13 rfl rfl (Nat.le_of_ble_eq_true rfl) (Nat.le_of_ble_eq_true rfl) (d' := 0) (by omega) q158 ⟨by decide, rfl⟩ (EW_mono (fun _ _ hr => ?_) (sX8_opens v1  x2 _ _ 0 0 (Nat.le_refl _) h))
    obtain ⟨r11, x12, rfl, rfl, h⟩ := hr
    refine EW_if_eq (tgt := 42) (pc2 := 19) rfl dX8_atom_16 (by decide) (fun q => ?_) (fun q => ?_)
    · replace h := h.1 q
      refine EW_iconst (pc2 := 43) (v := 0) rfl dX8_atom_42 (by decide) ?_
      exact AW_zret rfl isB0 dX8_atom_43 ⟨_, _, rfl, rfl, h⟩
    · replace h := h.2 q
      refine EW_aload_n (pc2 := 20) rfl dX8_atom_19 0 rfl ?_
      refine EW_iload_n (pc2 := 21) rfl dX8_atom_20 1 rfl ?_
      refine EW_iconst (pc2 := 22) (v := 1) rfl dX8_atom_21 (by decide) ?_
      refine EW_iadd (pc2 := 23) rfl dX8_atom_22 ?_
      refine AW_invV (M' := MX8_sum) [.int (v1 + 1)] (rest := []) mlRX8_91 okX8_sum (pc2 := 26) rfl dX8_atom_23 rfl rfl (Nat.le_of_ble_eq_true rfl) (Nat.le_of_ble_eq_true rfl) (d' := dr) (by omega) q158 ⟨by decide, rfl⟩ (EW_mono (fun _ _ hr => ?_) (hRX8_sum (v1 + 1)  x12 _  h))
      obtain ⟨r13, x14, rfl, rfl, h⟩ := hr
      refine EW_if_eq (tgt := 42) (pc2 := 29) rfl dX8_atom_26 (by decide) (fun q => ?_) (fun q => ?_)
      · replace h := h.1 q
        refine EW_iconst (pc2 := 43) (v := 0) rfl dX8_atom_42 (by decide) ?_
        exact AW_zret rfl isB0 dX8_atom_43 ⟨_, _, rfl, rfl, h⟩
      · replace h := h.2 q
        refine EW_aload_n (pc2 := 30) rfl dX8_atom_29 0 rfl ?_
        refine EW_bipush (pc2 := 32) (v := 93) rfl dX8_atom_30 (by decide) ?_
        refine AW_invV (M' := MX8_passes) [.int 93] (rest := []) mlRX8_55 okX8_passes (pc2 := 35) rfl dX8_atom_32 rfl rfl (Nat.le_of_ble_eq_true rfl) (Nat.le_of_ble_eq_true rfl) (d' := 1) (by omega) q158 ⟨by decide, rfl⟩ (EW_mono (fun _ _ hr => ?_) (sX8_passes 93  x14 _ _ 0 0 (Nat.le_refl _) h))
        obtain ⟨r15, x16, rfl, rfl, h⟩ := hr
        refine EW_if_eq (tgt := 42) (pc2 := 38) rfl dX8_atom_35 (by decide) (fun q => ?_) (fun q => ?_)
        · replace h := h.1 q
          refine EW_iconst (pc2 := 43) (v := 0) rfl dX8_atom_42 (by decide) ?_
          exact AW_zret rfl isB0 dX8_atom_43 ⟨_, _, rfl, rfl, h⟩
        · replace h := h.2 q
          refine EW_iconst (pc2 := 39) (v := 1) rfl dX8_atom_38 (by decide) ?_
          refine EW_goto (tgt := 43) dX8_atom_39 (by decide) ?_
          exact AW_zret rfl isB1 dX8_atom_43 ⟨_, _, rfl, rfl, h⟩
set_option maxHeartbeats 4000000 in
set_option maxRecDepth 100000 in
def wX8_sum_73 (RX8_atom : Int32 → ab_X → (Int32 → ab_X → Prop) → Prop) (RX8_sum : Int32 → ab_X → (Int32 → ab_X → Prop) → Prop) (RX8_term : Int32 → ab_X → (Int32 → ab_X → Prop) → Prop) (v1 : Int32) (v2 : Int32) (s1 : Int32) (x : ab_X) (K : Int32 → ab_X → Prop) (L12 : Int32 → ab_X → Prop) : Prop := wX9_add 160 s1 0 x (fun x7 => L12 (v2 + 1) x7)
set_option maxHeartbeats 4000000 in
set_option maxRecDepth 100000 in
theorem sX8_sum_73 (RX8_atom : Int32 → ab_X → (Int32 → ab_X → Prop) → Prop) (RX8_sum : Int32 → ab_X → (Int32 → ab_X → Prop) → Prop) (RX8_term : Int32 → ab_X → (Int32 → ab_X → Prop) → Prop) (v1 : Int32) (v2 : Int32) (s1 : Int32)  (x : ab_X) (K : Int32 → ab_X → Prop) (L12 : Int32 → ab_X → Prop) (d bc bs : Nat) (hdp : 1 ≤ d) (dr : Nat) (hRX8_atom : ∀ (v1 : Int32)  (x : ab_X) (K : Int32 → ab_X → Prop), RX8_atom v1 x K → EW MX8_atom 0 [(0, .ref 158), (1, .int v1)] [] (aS x) dr 0 0 (liI K)) (hRX8_sum : ∀ (v1 : Int32)  (x : ab_X) (K : Int32 → ab_X → Prop), RX8_sum v1 x K → EW MX8_sum 0 [(0, .ref 158), (1, .int v1)] [] (aS x) dr 0 0 (liI K)) (hRX8_term : ∀ (v1 : Int32)  (x : ab_X) (K : Int32 → ab_X → Prop), RX8_term v1 x K → EW MX8_term 0 [(0, .ref 158), (1, .int v1)] [] (aS x) dr 0 0 (liI K)) (hdr : dr + 1 ≤ d) (hL12 : ∀ (v2 : Int32) (x : ab_X), L12 v2 x → EW MX8_sum 12 [(0, .ref 158), (1, .int v1), (2, .int v2)] [] (aS x) d bc bs (liI K)) (h : wX8_sum_73 RX8_atom RX8_sum RX8_term v1 v2 s1 x K L12) : EW MX8_sum 73 [(0, .ref 158), (1, .int v1), (2, .int v2)] [.int s1, .ref 160] (aS x) d bc bs (liI K) := by
  unfold wX8_sum_73 at h
  refine EW_iconst (pc2 := 74) (v := 0) rfl dX8_sum_73 (by decide) ?_
  refine AW_invV (M' := MX9_add) [.int s1, .int 0] (rest := []) mlRX8_58 okX9_add (pc2 := 77) rfl dX8_sum_74 rfl rfl (Nat.le_of_ble_eq_true rfl) (Nat.le_of_ble_eq_true rfl) (d' := 0) (by omega) q160 ⟨by decide, rfl⟩ (EW_mono (fun _ _ hr => ?_) (sX9_add 160 s1 0 (Or.inr (Or.inr (Or.inl rfl)) : isT 160) x _ _ 0 0 (Nat.le_refl _) h))
  obtain ⟨x7, rfl, rfl, h⟩ := hr
  refine EW_iinc (v2 + 1) (pc2 := 80) rfl dX8_sum_77 2 rfl rfl (by decide) [1, 2, 0] [(0, .ref 158), (1, .int v1), (2, .int (v2 + 1))] rfl ?_
  refine EW_goto (tgt := 12) dX8_sum_80 (by decide) ?_
  exact hL12 (v2 + 1) x7 h
set_option maxHeartbeats 4000000 in
set_option maxRecDepth 100000 in
def wX8_sum_38 (RX8_atom : Int32 → ab_X → (Int32 → ab_X → Prop) → Prop) (RX8_sum : Int32 → ab_X → (Int32 → ab_X → Prop) → Prop) (RX8_term : Int32 → ab_X → (Int32 → ab_X → Prop) → Prop) (v1 : Int32) (v2 : Int32) (v3 : Int32) (x : ab_X) (K : Int32 → ab_X → Prop) (L12 : Int32 → ab_X → Prop) : Prop := RX8_term v1 (wr x 158 2 ((x.1 158 2) + 1)) (fun r5 x6 => ((¬ r5 = 0 → ((¬ v3 = 43 → wX8_sum_73 RX8_atom RX8_sum RX8_term v1 v2 3 x6 K L12) ∧ (v3 = 43 → wX8_sum_73 RX8_atom RX8_sum RX8_term v1 v2 2 x6 K L12))) ∧ (r5 = 0 → K 0 x6)))
set_option maxHeartbeats 4000000 in
set_option maxRecDepth 100000 in
theorem sX8_sum_38 (RX8_atom : Int32 → ab_X → (Int32 → ab_X → Prop) → Prop) (RX8_sum : Int32 → ab_X → (Int32 → ab_X → Prop) → Prop) (RX8_term : Int32 → ab_X → (Int32 → ab_X → Prop) → Prop) (v1 : Int32) (v2 : Int32) (v3 : Int32)  (x : ab_X) (K : Int32 → ab_X → Prop) (L12 : Int32 → ab_X → Prop) (d bc bs : Nat) (hdp : 1 ≤ d) (dr : Nat) (hRX8_atom : ∀ (v1 : Int32)  (x : ab_X) (K : Int32 → ab_X → Prop), RX8_atom v1 x K → EW MX8_atom 0 [(0, .ref 158), (1, .int v1)] [] (aS x) dr 0 0 (liI K)) (hRX8_sum : ∀ (v1 : Int32)  (x : ab_X) (K : Int32 → ab_X → Prop), RX8_sum v1 x K → EW MX8_sum 0 [(0, .ref 158), (1, .int v1)] [] (aS x) dr 0 0 (liI K)) (hRX8_term : ∀ (v1 : Int32)  (x : ab_X) (K : Int32 → ab_X → Prop), RX8_term v1 x K → EW MX8_term 0 [(0, .ref 158), (1, .int v1)] [] (aS x) dr 0 0 (liI K)) (hdr : dr + 1 ≤ d) (hL12 : ∀ (v2 : Int32) (x : ab_X), L12 v2 x → EW MX8_sum 12 [(0, .ref 158), (1, .int v1), (2, .int v2)] [] (aS x) d bc bs (liI K)) (h : wX8_sum_38 RX8_atom RX8_sum RX8_term v1 v2 v3 x K L12) : EW MX8_sum 38 [(0, .ref 158), (1, .int v1), (2, .int v2), (3, .int v3)] [] (aS x) d bc bs (liI K) := by
  unfold wX8_sum_38 at h
  refine EW_aload_n (pc2 := 39) rfl dX8_sum_38 0 rfl ?_
  refine EW_dup (pc2 := 40) rfl dX8_sum_39 rfl ?_
  refine AW_geti ⟨gfRX8_36, rfl⟩ (pc2 := 43) rfl dX8_sum_40 q158 ?_
  refine EW_iconst (pc2 := 44) (v := 1) rfl dX8_sum_43 (by decide) ?_
  refine EW_iadd (pc2 := 45) rfl dX8_sum_44 ?_
  refine AW_puti ⟨gfRX8_36, rfl, rfl⟩ (pc2 := 48) rfl dX8_sum_45 q158 ?_
  refine EW_aload_n (pc2 := 49) rfl dX8_sum_48 0 rfl ?_
  refine EW_iload_n (pc2 := 50) rfl dX8_sum_49 1 rfl ?_
  refine AW_invV (M' := MX8_term) [.int v1] (rest := []) mlRX8_94 okX8_term (pc2 := 53) rfl dX8_sum_50 rfl rfl (Nat.le_of_ble_eq_true rfl) (Nat.le_of_ble_eq_true rfl) (d' := dr) (by omega) q158 ⟨by decide, rfl⟩ (EW_mono (fun _ _ hr => ?_) (hRX8_term v1  (wr x 158 2 ((x.1 158 2) + 1)) _  h))
  obtain ⟨r5, x6, rfl, rfl, h⟩ := hr
  refine EW_if_ne (tgt := 58) (pc2 := 56) rfl dX8_sum_53 (by decide) (fun q => ?_) (fun q => ?_)
  · replace h := h.1 q
    refine EW_aload_n (pc2 := 59) rfl dX8_sum_58 0 rfl ?_
    refine AW_getr (r := 160) ⟨gfRX8_24, rfl⟩ (pc2 := 62) rfl dX8_sum_59 q158 rfl ?_
    refine EW_iload_n (pc2 := 63) rfl dX8_sum_62 3 rfl ?_
    refine EW_bipush (pc2 := 65) (v := 43) rfl dX8_sum_63 (by decide) ?_
    refine EW_icmp_ne (tgt := 72) (pc2 := 68) rfl dX8_sum_65 (by decide) (fun q => ?_) (fun q => ?_)
    · replace h := h.1 q
      refine EW_iconst (pc2 := 73) (v := 3) rfl dX8_sum_72 (by decide) ?_
      refine EW_ls [0, 1, 2] rfl ?_
      exact sX8_sum_73 RX8_atom RX8_sum RX8_term v1 v2 3 x6 K L12 d bc bs hdp dr hRX8_atom hRX8_sum hRX8_term hdr hL12 h
    · replace h := h.2 q
      refine EW_iconst (pc2 := 69) (v := 2) rfl dX8_sum_68 (by decide) ?_
      refine EW_goto (tgt := 73) dX8_sum_69 (by decide) ?_
      refine EW_ls [0, 1, 2] rfl ?_
      exact sX8_sum_73 RX8_atom RX8_sum RX8_term v1 v2 2 x6 K L12 d bc bs hdp dr hRX8_atom hRX8_sum hRX8_term hdr hL12 h
  · replace h := h.2 q
    refine EW_iconst (pc2 := 57) (v := 0) rfl dX8_sum_56 (by decide) ?_
    exact AW_zret rfl isB0 dX8_sum_57 ⟨_, _, rfl, rfl, h⟩
set_option maxHeartbeats 4000000 in
set_option maxRecDepth 100000 in
def lX8_sum_12 (RX8_atom : Int32 → ab_X → (Int32 → ab_X → Prop) → Prop) (RX8_sum : Int32 → ab_X → (Int32 → ab_X → Prop) → Prop) (RX8_term : Int32 → ab_X → (Int32 → ab_X → Prop) → Prop) (v1 : Int32) (K : Int32 → ab_X → Prop)  (L12 : Int32 → ab_X → Prop) (v2 : Int32) (x : ab_X) : Prop := ((200 ≤ v2 → K 1 x) ∧ (¬ 200 ≤ v2 → wX8_peek x (fun r3 x4 => ((r3 = 43 → wX8_sum_38 RX8_atom RX8_sum RX8_term v1 v2 r3 x4 K L12) ∧ (¬ r3 = 43 → ((r3 = 45 → wX8_sum_38 RX8_atom RX8_sum RX8_term v1 v2 r3 x4 K L12) ∧ (¬ r3 = 45 → K 1 x4)))))))
set_option maxHeartbeats 4000000 in
set_option maxRecDepth 100000 in
theorem sX8_sum_12 (RX8_atom : Int32 → ab_X → (Int32 → ab_X → Prop) → Prop) (RX8_sum : Int32 → ab_X → (Int32 → ab_X → Prop) → Prop) (RX8_term : Int32 → ab_X → (Int32 → ab_X → Prop) → Prop) (v1 : Int32) (v2 : Int32)  (x : ab_X) (K : Int32 → ab_X → Prop)  (d bc bs : Nat) (hdp : 1 ≤ d) (dr : Nat) (hRX8_atom : ∀ (v1 : Int32)  (x : ab_X) (K : Int32 → ab_X → Prop), RX8_atom v1 x K → EW MX8_atom 0 [(0, .ref 158), (1, .int v1)] [] (aS x) dr 0 0 (liI K)) (hRX8_sum : ∀ (v1 : Int32)  (x : ab_X) (K : Int32 → ab_X → Prop), RX8_sum v1 x K → EW MX8_sum 0 [(0, .ref 158), (1, .int v1)] [] (aS x) dr 0 0 (liI K)) (hRX8_term : ∀ (v1 : Int32)  (x : ab_X) (K : Int32 → ab_X → Prop), RX8_term v1 x K → EW MX8_term 0 [(0, .ref 158), (1, .int v1)] [] (aS x) dr 0 0 (liI K)) (hdr : dr + 1 ≤ d)  (h : Lp2 (lX8_sum_12 RX8_atom RX8_sum RX8_term v1 K ) v2 x) : EW MX8_sum 12 [(0, .ref 158), (1, .int v1), (2, .int v2)] [] (aS x) d bc bs (liI K) := by
  refine Lp2.use (P := fun v2 x => EW MX8_sum 12 [(0, .ref 158), (1, .int v1), (2, .int v2)] [] (aS x) d bc bs (liI K)) (fun L12 v2 x hL12 h => ?_) v2 x h
  unfold lX8_sum_12 at h
  refine EW_iload_n (pc2 := 13) rfl dX8_sum_12 2 rfl ?_
  refine EW_sipush (pc2 := 16) (v := 200) rfl dX8_sum_13 (by decide) ?_
  refine EW_icmp_ge (tgt := 83) (pc2 := 19) rfl dX8_sum_16 (by decide) (fun q => ?_) (fun q => ?_)
  · replace h := h.1 q
    refine EW_iconst (pc2 := 84) (v := 1) rfl dX8_sum_83 (by decide) ?_
    exact AW_zret rfl isB1 dX8_sum_84 ⟨_, _, rfl, rfl, h⟩
  · replace h := h.2 q
    refine EW_aload_n (pc2 := 20) rfl dX8_sum_19 0 rfl ?_
    refine AW_invV (M' := MX8_peek) [] (rest := []) mlRX8_46 okX8_peek (pc2 := 23) rfl dX8_sum_20 rfl rfl (Nat.le_of_ble_eq_true rfl) (Nat.le_of_ble_eq_true rfl) (d' := 0) (by omega) q158 ⟨by decide, rfl⟩ (EW_mono (fun _ _ hr => ?_) (sX8_peek   x _ _ 0 0 (Nat.le_refl _) h))
    obtain ⟨r3, x4, rfl, rfl, h⟩ := hr
    refine EW_istore_n (pc2 := 24) rfl dX8_sum_23 (by decide) [1, 2, 3, 0] [(0, .ref 158), (1, .int v1), (2, .int v2), (3, .int r3)] rfl ?_
    refine EW_iload_n (pc2 := 25) rfl dX8_sum_24 3 rfl ?_
    refine EW_bipush (pc2 := 27) (v := 43) rfl dX8_sum_25 (by decide) ?_
    refine EW_icmp_eq (tgt := 38) (pc2 := 30) rfl dX8_sum_27 (by decide) (fun q => ?_) (fun q => ?_)
    · replace h := h.1 q
      exact sX8_sum_38 RX8_atom RX8_sum RX8_term v1 v2 r3 x4 K L12 d bc bs hdp dr hRX8_atom hRX8_sum hRX8_term hdr hL12 h
    · replace h := h.2 q
      refine EW_iload_n (pc2 := 31) rfl dX8_sum_30 3 rfl ?_
      refine EW_bipush (pc2 := 33) (v := 45) rfl dX8_sum_31 (by decide) ?_
      refine EW_icmp_eq (tgt := 38) (pc2 := 36) rfl dX8_sum_33 (by decide) (fun q => ?_) (fun q => ?_)
      · replace h := h.1 q
        exact sX8_sum_38 RX8_atom RX8_sum RX8_term v1 v2 r3 x4 K L12 d bc bs hdp dr hRX8_atom hRX8_sum hRX8_term hdr hL12 h
      · replace h := h.2 q
        refine EW_iconst (pc2 := 37) (v := 1) rfl dX8_sum_36 (by decide) ?_
        exact AW_zret rfl isB1 dX8_sum_37 ⟨_, _, rfl, rfl, h⟩
set_option maxHeartbeats 4000000 in
set_option maxRecDepth 100000 in
def bX8_sum (RX8_atom : Int32 → ab_X → (Int32 → ab_X → Prop) → Prop) (RX8_sum : Int32 → ab_X → (Int32 → ab_X → Prop) → Prop) (RX8_term : Int32 → ab_X → (Int32 → ab_X → Prop) → Prop) (v1 : Int32) (x : ab_X) (K : Int32 → ab_X → Prop) : Prop := RX8_term v1 x (fun r1 x2 => ((¬ r1 = 0 → Lp2 (lX8_sum_12 RX8_atom RX8_sum RX8_term v1 K ) 0 x2) ∧ (r1 = 0 → K 0 x2)))
set_option maxHeartbeats 4000000 in
set_option maxRecDepth 100000 in
theorem bsX8_sum (RX8_atom : Int32 → ab_X → (Int32 → ab_X → Prop) → Prop) (RX8_sum : Int32 → ab_X → (Int32 → ab_X → Prop) → Prop) (RX8_term : Int32 → ab_X → (Int32 → ab_X → Prop) → Prop) (v1 : Int32)  (x : ab_X) (K : Int32 → ab_X → Prop) (d bc bs : Nat) (hdp : 1 ≤ d) (dr : Nat) (hRX8_atom : ∀ (v1 : Int32)  (x : ab_X) (K : Int32 → ab_X → Prop), RX8_atom v1 x K → EW MX8_atom 0 [(0, .ref 158), (1, .int v1)] [] (aS x) dr 0 0 (liI K)) (hRX8_sum : ∀ (v1 : Int32)  (x : ab_X) (K : Int32 → ab_X → Prop), RX8_sum v1 x K → EW MX8_sum 0 [(0, .ref 158), (1, .int v1)] [] (aS x) dr 0 0 (liI K)) (hRX8_term : ∀ (v1 : Int32)  (x : ab_X) (K : Int32 → ab_X → Prop), RX8_term v1 x K → EW MX8_term 0 [(0, .ref 158), (1, .int v1)] [] (aS x) dr 0 0 (liI K)) (hdr : dr + 1 ≤ d) (h : bX8_sum RX8_atom RX8_sum RX8_term v1 x K) : EW MX8_sum 0 [(0, .ref 158), (1, .int v1)] [] (aS x) d bc bs (liI K) := by
  unfold bX8_sum at h
  refine EW_aload_n (pc2 := 1) rfl dX8_sum_0 0 rfl ?_
  refine EW_iload_n (pc2 := 2) rfl dX8_sum_1 1 rfl ?_
  refine AW_invV (M' := MX8_term) [.int v1] (rest := []) mlRX8_94 okX8_term (pc2 := 5) rfl dX8_sum_2 rfl rfl (Nat.le_of_ble_eq_true rfl) (Nat.le_of_ble_eq_true rfl) (d' := dr) (by omega) q158 ⟨by decide, rfl⟩ (EW_mono (fun _ _ hr => ?_) (hRX8_term v1  x _  h))
  obtain ⟨r1, x2, rfl, rfl, h⟩ := hr
  refine EW_if_ne (tgt := 10) (pc2 := 8) rfl dX8_sum_5 (by decide) (fun q => ?_) (fun q => ?_)
  · replace h := h.1 q
    refine EW_iconst (pc2 := 11) (v := 0) rfl dX8_sum_10 (by decide) ?_
    refine EW_istore_n (pc2 := 12) rfl dX8_sum_11 (by decide) [1, 2, 0] [(0, .ref 158), (1, .int v1), (2, .int 0)] rfl ?_
    exact sX8_sum_12 RX8_atom RX8_sum RX8_term v1 0 x2 K d bc bs hdp dr hRX8_atom hRX8_sum hRX8_term hdr h
  · replace h := h.2 q
    refine EW_iconst (pc2 := 9) (v := 0) rfl dX8_sum_8 (by decide) ?_
    exact AW_zret rfl isB0 dX8_sum_9 ⟨_, _, rfl, rfl, h⟩
set_option maxHeartbeats 4000000 in
set_option maxRecDepth 100000 in
def lX8_term_12 (RX8_atom : Int32 → ab_X → (Int32 → ab_X → Prop) → Prop) (RX8_sum : Int32 → ab_X → (Int32 → ab_X → Prop) → Prop) (RX8_term : Int32 → ab_X → (Int32 → ab_X → Prop) → Prop) (v1 : Int32) (K : Int32 → ab_X → Prop)  (L12 : Int32 → ab_X → Prop) (v2 : Int32) (x : ab_X) : Prop := ((200 ≤ v2 → K 1 x) ∧ (¬ 200 ≤ v2 → wX8_passes 42 x (fun r3 x4 => ((r3 = 0 → K 1 x4) ∧ (¬ r3 = 0 → RX8_atom v1 x4 (fun r5 x6 => ((¬ r5 = 0 → wX9_add 160 4 0 x6 (fun x7 => L12 (v2 + 1) x7)) ∧ (r5 = 0 → K 0 x6))))))))
set_option maxHeartbeats 4000000 in
set_option maxRecDepth 100000 in
theorem sX8_term_12 (RX8_atom : Int32 → ab_X → (Int32 → ab_X → Prop) → Prop) (RX8_sum : Int32 → ab_X → (Int32 → ab_X → Prop) → Prop) (RX8_term : Int32 → ab_X → (Int32 → ab_X → Prop) → Prop) (v1 : Int32) (v2 : Int32)  (x : ab_X) (K : Int32 → ab_X → Prop)  (d bc bs : Nat) (hdp : 2 ≤ d) (dr : Nat) (hRX8_atom : ∀ (v1 : Int32)  (x : ab_X) (K : Int32 → ab_X → Prop), RX8_atom v1 x K → EW MX8_atom 0 [(0, .ref 158), (1, .int v1)] [] (aS x) dr 0 0 (liI K)) (hRX8_sum : ∀ (v1 : Int32)  (x : ab_X) (K : Int32 → ab_X → Prop), RX8_sum v1 x K → EW MX8_sum 0 [(0, .ref 158), (1, .int v1)] [] (aS x) dr 0 0 (liI K)) (hRX8_term : ∀ (v1 : Int32)  (x : ab_X) (K : Int32 → ab_X → Prop), RX8_term v1 x K → EW MX8_term 0 [(0, .ref 158), (1, .int v1)] [] (aS x) dr 0 0 (liI K)) (hdr : dr + 1 ≤ d)  (h : Lp2 (lX8_term_12 RX8_atom RX8_sum RX8_term v1 K ) v2 x) : EW MX8_term 12 [(0, .ref 158), (1, .int v1), (2, .int v2)] [] (aS x) d bc bs (liI K) := by
  refine Lp2.use (P := fun v2 x => EW MX8_term 12 [(0, .ref 158), (1, .int v1), (2, .int v2)] [] (aS x) d bc bs (liI K)) (fun L12 v2 x hL12 h => ?_) v2 x h
  unfold lX8_term_12 at h
  refine EW_iload_n (pc2 := 13) rfl dX8_term_12 2 rfl ?_
  refine EW_sipush (pc2 := 16) (v := 200) rfl dX8_term_13 (by decide) ?_
  refine EW_icmp_ge (tgt := 53) (pc2 := 19) rfl dX8_term_16 (by decide) (fun q => ?_) (fun q => ?_)
  · replace h := h.1 q
    refine EW_iconst (pc2 := 54) (v := 1) rfl dX8_term_53 (by decide) ?_
    exact AW_zret rfl isB1 dX8_term_54 ⟨_, _, rfl, rfl, h⟩
  · replace h := h.2 q
    refine EW_aload_n (pc2 := 20) rfl dX8_term_19 0 rfl ?_
    refine EW_bipush (pc2 := 22) (v := 42) rfl dX8_term_20 (by decide) ?_
    refine AW_invV (M' := MX8_passes) [.int 42] (rest := []) mlRX8_55 okX8_passes (pc2 := 25) rfl dX8_term_22 rfl rfl (Nat.le_of_ble_eq_true rfl) (Nat.le_of_ble_eq_true rfl) (d' := 1) (by omega) q158 ⟨by decide, rfl⟩ (EW_mono (fun _ _ hr => ?_) (sX8_passes 42  x _ _ 0 0 (Nat.le_refl _) h))
    obtain ⟨r3, x4, rfl, rfl, h⟩ := hr
    refine EW_if_eq (tgt := 53) (pc2 := 28) rfl dX8_term_25 (by decide) (fun q => ?_) (fun q => ?_)
    · replace h := h.1 q
      refine EW_iconst (pc2 := 54) (v := 1) rfl dX8_term_53 (by decide) ?_
      exact AW_zret rfl isB1 dX8_term_54 ⟨_, _, rfl, rfl, h⟩
    · replace h := h.2 q
      refine EW_aload_n (pc2 := 29) rfl dX8_term_28 0 rfl ?_
      refine EW_iload_n (pc2 := 30) rfl dX8_term_29 1 rfl ?_
      refine AW_invV (M' := MX8_atom) [.int v1] (rest := []) mlRX8_97 okX8_atom (pc2 := 33) rfl dX8_term_30 rfl rfl (Nat.le_of_ble_eq_true rfl) (Nat.le_of_ble_eq_true rfl) (d' := dr) (by omega) q158 ⟨by decide, rfl⟩ (EW_mono (fun _ _ hr => ?_) (hRX8_atom v1  x4 _  h))
      obtain ⟨r5, x6, rfl, rfl, h⟩ := hr
      refine EW_if_ne (tgt := 38) (pc2 := 36) rfl dX8_term_33 (by decide) (fun q => ?_) (fun q => ?_)
      · replace h := h.1 q
        refine EW_aload_n (pc2 := 39) rfl dX8_term_38 0 rfl ?_
        refine AW_getr (r := 160) ⟨gfRX8_24, rfl⟩ (pc2 := 42) rfl dX8_term_39 q158 rfl ?_
        refine EW_iconst (pc2 := 43) (v := 4) rfl dX8_term_42 (by decide) ?_
        refine EW_iconst (pc2 := 44) (v := 0) rfl dX8_term_43 (by decide) ?_
        refine AW_invV (M' := MX9_add) [.int 4, .int 0] (rest := []) mlRX8_58 okX9_add (pc2 := 47) rfl dX8_term_44 rfl rfl (Nat.le_of_ble_eq_true rfl) (Nat.le_of_ble_eq_true rfl) (d' := 0) (by omega) q160 ⟨by decide, rfl⟩ (EW_mono (fun _ _ hr => ?_) (sX9_add 160 4 0 (Or.inr (Or.inr (Or.inl rfl)) : isT 160) x6 _ _ 0 0 (Nat.le_refl _) h))
        obtain ⟨x7, rfl, rfl, h⟩ := hr
        refine EW_iinc (v2 + 1) (pc2 := 50) rfl dX8_term_47 2 rfl rfl (by decide) [1, 2, 0] [(0, .ref 158), (1, .int v1), (2, .int (v2 + 1))] rfl ?_
        refine EW_goto (tgt := 12) dX8_term_50 (by decide) ?_
        exact hL12 (v2 + 1) x7 h
      · replace h := h.2 q
        refine EW_iconst (pc2 := 37) (v := 0) rfl dX8_term_36 (by decide) ?_
        exact AW_zret rfl isB0 dX8_term_37 ⟨_, _, rfl, rfl, h⟩
set_option maxHeartbeats 4000000 in
set_option maxRecDepth 100000 in
def bX8_term (RX8_atom : Int32 → ab_X → (Int32 → ab_X → Prop) → Prop) (RX8_sum : Int32 → ab_X → (Int32 → ab_X → Prop) → Prop) (RX8_term : Int32 → ab_X → (Int32 → ab_X → Prop) → Prop) (v1 : Int32) (x : ab_X) (K : Int32 → ab_X → Prop) : Prop := RX8_atom v1 x (fun r1 x2 => ((¬ r1 = 0 → Lp2 (lX8_term_12 RX8_atom RX8_sum RX8_term v1 K ) 0 x2) ∧ (r1 = 0 → K 0 x2)))
set_option maxHeartbeats 4000000 in
set_option maxRecDepth 100000 in
theorem bsX8_term (RX8_atom : Int32 → ab_X → (Int32 → ab_X → Prop) → Prop) (RX8_sum : Int32 → ab_X → (Int32 → ab_X → Prop) → Prop) (RX8_term : Int32 → ab_X → (Int32 → ab_X → Prop) → Prop) (v1 : Int32)  (x : ab_X) (K : Int32 → ab_X → Prop) (d bc bs : Nat) (hdp : 2 ≤ d) (dr : Nat) (hRX8_atom : ∀ (v1 : Int32)  (x : ab_X) (K : Int32 → ab_X → Prop), RX8_atom v1 x K → EW MX8_atom 0 [(0, .ref 158), (1, .int v1)] [] (aS x) dr 0 0 (liI K)) (hRX8_sum : ∀ (v1 : Int32)  (x : ab_X) (K : Int32 → ab_X → Prop), RX8_sum v1 x K → EW MX8_sum 0 [(0, .ref 158), (1, .int v1)] [] (aS x) dr 0 0 (liI K)) (hRX8_term : ∀ (v1 : Int32)  (x : ab_X) (K : Int32 → ab_X → Prop), RX8_term v1 x K → EW MX8_term 0 [(0, .ref 158), (1, .int v1)] [] (aS x) dr 0 0 (liI K)) (hdr : dr + 1 ≤ d) (h : bX8_term RX8_atom RX8_sum RX8_term v1 x K) : EW MX8_term 0 [(0, .ref 158), (1, .int v1)] [] (aS x) d bc bs (liI K) := by
  unfold bX8_term at h
  refine EW_aload_n (pc2 := 1) rfl dX8_term_0 0 rfl ?_
  refine EW_iload_n (pc2 := 2) rfl dX8_term_1 1 rfl ?_
  refine AW_invV (M' := MX8_atom) [.int v1] (rest := []) mlRX8_97 okX8_atom (pc2 := 5) rfl dX8_term_2 rfl rfl (Nat.le_of_ble_eq_true rfl) (Nat.le_of_ble_eq_true rfl) (d' := dr) (by omega) q158 ⟨by decide, rfl⟩ (EW_mono (fun _ _ hr => ?_) (hRX8_atom v1  x _  h))
  obtain ⟨r1, x2, rfl, rfl, h⟩ := hr
  refine EW_if_ne (tgt := 10) (pc2 := 8) rfl dX8_term_5 (by decide) (fun q => ?_) (fun q => ?_)
  · replace h := h.1 q
    refine EW_iconst (pc2 := 11) (v := 0) rfl dX8_term_10 (by decide) ?_
    refine EW_istore_n (pc2 := 12) rfl dX8_term_11 (by decide) [1, 2, 0] [(0, .ref 158), (1, .int v1), (2, .int 0)] rfl ?_
    exact sX8_term_12 RX8_atom RX8_sum RX8_term v1 0 x2 K d bc bs hdp dr hRX8_atom hRX8_sum hRX8_term hdr h
  · replace h := h.2 q
    refine EW_iconst (pc2 := 9) (v := 0) rfl dX8_term_8 (by decide) ?_
    exact AW_zret rfl isB0 dX8_term_9 ⟨_, _, rfl, rfl, h⟩
def famX8_atom : Nat → (Int32 → ab_X → (Int32 → ab_X → Prop) → Prop) × (Int32 → ab_X → (Int32 → ab_X → Prop) → Prop) × (Int32 → ab_X → (Int32 → ab_X → Prop) → Prop)
  | 0 => ((fun v1 x K => False), (fun v1 x K => False), (fun v1 x K => False))
  | n + 1 => ((fun v1 x K => bX8_atom (famX8_atom n).1 (famX8_atom n).2.1 (famX8_atom n).2.2 v1 x K), (fun v1 x K => bX8_sum (famX8_atom n).1 (famX8_atom n).2.1 (famX8_atom n).2.2 v1 x K), (fun v1 x K => bX8_term (famX8_atom n).1 (famX8_atom n).2.1 (famX8_atom n).2.2 v1 x K))
set_option maxHeartbeats 4000000 in
theorem famX8_atomS : ∀ n, (∀ (v1 : Int32)  (x : ab_X) (K : Int32 → ab_X → Prop), (famX8_atom n).1 v1 x K → EW MX8_atom 0 [(0, .ref 158), (1, .int v1)] [] (aS x) (5 + n) 0 0 (liI K)) ∧ (∀ (v1 : Int32)  (x : ab_X) (K : Int32 → ab_X → Prop), (famX8_atom n).2.1 v1 x K → EW MX8_sum 0 [(0, .ref 158), (1, .int v1)] [] (aS x) (5 + n) 0 0 (liI K)) ∧ (∀ (v1 : Int32)  (x : ab_X) (K : Int32 → ab_X → Prop), (famX8_atom n).2.2 v1 x K → EW MX8_term 0 [(0, .ref 158), (1, .int v1)] [] (aS x) (5 + n) 0 0 (liI K)) := by
  intro n
  induction n with
  | zero => exact ⟨fun v1  x K h => False.elim h, fun v1  x K h => False.elim h, fun v1  x K h => False.elim h⟩
  | succ n ih =>
    obtain ⟨i0, i1, i2⟩ := ih
    exact ⟨fun v1  x K h => bsX8_atom _ _ _ v1  x K (5 + (n + 1)) 0 0 (by omega) (5 + n) i0 i1 i2 (by omega) h, fun v1  x K h => bsX8_sum _ _ _ v1  x K (5 + (n + 1)) 0 0 (by omega) (5 + n) i0 i1 i2 (by omega) h, fun v1  x K h => bsX8_term _ _ _ v1  x K (5 + (n + 1)) 0 0 (by omega) (5 + n) i0 i1 i2 (by omega) h⟩
def wX8_atom (v1 : Int32) (x : ab_X) (K : Int32 → ab_X → Prop) : Prop := ∃ n, n ≤ 100 ∧ (famX8_atom n).1 v1 x K
theorem sX8_atom (v1 : Int32)  (x : ab_X) (K : Int32 → ab_X → Prop) (d bc bs : Nat) (hdp : 106 ≤ d) (h : wX8_atom v1 x K) : EW MX8_atom 0 [(0, .ref 158), (1, .int v1)] [] (aS x) d bc bs (liI K) := by
  obtain ⟨n, hn, h⟩ := h
  cases n with
  | zero => exact False.elim h
  | succ n =>
    obtain ⟨i0, i1, i2⟩ := famX8_atomS n
    exact bsX8_atom _ _ _ v1  x K d bc bs (by omega) (5 + n) i0 i1 i2 (by omega) h
def wX8_sum (v1 : Int32) (x : ab_X) (K : Int32 → ab_X → Prop) : Prop := ∃ n, n ≤ 100 ∧ (famX8_atom n).2.1 v1 x K
theorem sX8_sum (v1 : Int32)  (x : ab_X) (K : Int32 → ab_X → Prop) (d bc bs : Nat) (hdp : 106 ≤ d) (h : wX8_sum v1 x K) : EW MX8_sum 0 [(0, .ref 158), (1, .int v1)] [] (aS x) d bc bs (liI K) := by
  obtain ⟨n, hn, h⟩ := h
  cases n with
  | zero => exact False.elim h
  | succ n =>
    obtain ⟨i0, i1, i2⟩ := famX8_atomS n
    exact bsX8_sum _ _ _ v1  x K d bc bs (by omega) (5 + n) i0 i1 i2 (by omega) h
def wX8_term (v1 : Int32) (x : ab_X) (K : Int32 → ab_X → Prop) : Prop := ∃ n, n ≤ 100 ∧ (famX8_atom n).2.2 v1 x K
theorem sX8_term (v1 : Int32)  (x : ab_X) (K : Int32 → ab_X → Prop) (d bc bs : Nat) (hdp : 106 ≤ d) (h : wX8_term v1 x K) : EW MX8_term 0 [(0, .ref 158), (1, .int v1)] [] (aS x) d bc bs (liI K) := by
  obtain ⟨n, hn, h⟩ := h
  cases n with
  | zero => exact False.elim h
  | succ n =>
    obtain ⟨i0, i1, i2⟩ := famX8_atomS n
    exact bsX8_term _ _ _ v1  x K d bc bs (by omega) (5 + n) i0 i1 i2 (by omega) h
abbrev MX8_comparison : ab_M := (yX8_comparison, cX8_comparison, 3, (some .boolean))
theorem dX8_comparison_0 : decode cX8_comparison 0 = .ok (.aload_n 0, 1) := by decide +kernel
theorem dX8_comparison_1 : decode cX8_comparison 1 = .ok (.iload_n 1, 1) := by decide +kernel
theorem dX8_comparison_2 : decode cX8_comparison 2 = .ok (.invokevirtual 91, 3) := by decide +kernel
theorem dX8_comparison_5 : decode cX8_comparison 5 = .ok (.ifCond .ne 5, 3) := by decide +kernel
theorem dX8_comparison_8 : decode cX8_comparison 8 = .ok (.iconst 0, 1) := by decide +kernel
theorem dX8_comparison_9 : decode cX8_comparison 9 = .ok (.ireturn, 1) := by decide +kernel
theorem dX8_comparison_10 : decode cX8_comparison 10 = .ok (.aload_n 0, 1) := by decide +kernel
theorem dX8_comparison_11 : decode cX8_comparison 11 = .ok (.invokevirtual 46, 3) := by decide +kernel
theorem dX8_comparison_14 : decode cX8_comparison 14 = .ok (.istore_n 2, 1) := by decide +kernel
theorem dX8_comparison_15 : decode cX8_comparison 15 = .ok (.iload_n 2, 1) := by decide +kernel
theorem dX8_comparison_16 : decode cX8_comparison 16 = .ok (.bipush 61, 2) := by decide +kernel
theorem dX8_comparison_18 : decode cX8_comparison 18 = .ok (.if_icmp .eq 17, 3) := by decide +kernel
theorem dX8_comparison_21 : decode cX8_comparison 21 = .ok (.iload_n 2, 1) := by decide +kernel
theorem dX8_comparison_22 : decode cX8_comparison 22 = .ok (.bipush 60, 2) := by decide +kernel
theorem dX8_comparison_24 : decode cX8_comparison 24 = .ok (.if_icmp .eq 11, 3) := by decide +kernel
theorem dX8_comparison_27 : decode cX8_comparison 27 = .ok (.iload_n 2, 1) := by decide +kernel
theorem dX8_comparison_28 : decode cX8_comparison 28 = .ok (.bipush 62, 2) := by decide +kernel
theorem dX8_comparison_30 : decode cX8_comparison 30 = .ok (.if_icmp .eq 5, 3) := by decide +kernel
theorem dX8_comparison_33 : decode cX8_comparison 33 = .ok (.iconst 0, 1) := by decide +kernel
theorem dX8_comparison_34 : decode cX8_comparison 34 = .ok (.ireturn, 1) := by decide +kernel
theorem dX8_comparison_35 : decode cX8_comparison 35 = .ok (.aload_n 0, 1) := by decide +kernel
theorem dX8_comparison_36 : decode cX8_comparison 36 = .ok (.dup, 1) := by decide +kernel
theorem dX8_comparison_37 : decode cX8_comparison 37 = .ok (.getfield 36, 3) := by decide +kernel
theorem dX8_comparison_40 : decode cX8_comparison 40 = .ok (.iconst 1, 1) := by decide +kernel
theorem dX8_comparison_41 : decode cX8_comparison 41 = .ok (.iadd, 1) := by decide +kernel
theorem dX8_comparison_42 : decode cX8_comparison 42 = .ok (.putfield 36, 3) := by decide +kernel
theorem dX8_comparison_45 : decode cX8_comparison 45 = .ok (.aload_n 0, 1) := by decide +kernel
theorem dX8_comparison_46 : decode cX8_comparison 46 = .ok (.iload_n 1, 1) := by decide +kernel
theorem dX8_comparison_47 : decode cX8_comparison 47 = .ok (.invokevirtual 91, 3) := by decide +kernel
theorem dX8_comparison_50 : decode cX8_comparison 50 = .ok (.ifCond .ne 5, 3) := by decide +kernel
theorem dX8_comparison_53 : decode cX8_comparison 53 = .ok (.iconst 0, 1) := by decide +kernel
theorem dX8_comparison_54 : decode cX8_comparison 54 = .ok (.ireturn, 1) := by decide +kernel
theorem dX8_comparison_55 : decode cX8_comparison 55 = .ok (.aload_n 0, 1) := by decide +kernel
theorem dX8_comparison_56 : decode cX8_comparison 56 = .ok (.getfield 24, 3) := by decide +kernel
theorem dX8_comparison_59 : decode cX8_comparison 59 = .ok (.iload_n 2, 1) := by decide +kernel
theorem dX8_comparison_60 : decode cX8_comparison 60 = .ok (.bipush 61, 2) := by decide +kernel
theorem dX8_comparison_62 : decode cX8_comparison 62 = .ok (.if_icmp .ne 7, 3) := by decide +kernel
theorem dX8_comparison_65 : decode cX8_comparison 65 = .ok (.iconst 5, 1) := by decide +kernel
theorem dX8_comparison_66 : decode cX8_comparison 66 = .ok (.goto 16, 3) := by decide +kernel
theorem dX8_comparison_69 : decode cX8_comparison 69 = .ok (.iload_n 2, 1) := by decide +kernel
theorem dX8_comparison_70 : decode cX8_comparison 70 = .ok (.bipush 60, 2) := by decide +kernel
theorem dX8_comparison_72 : decode cX8_comparison 72 = .ok (.if_icmp .ne 8, 3) := by decide +kernel
theorem dX8_comparison_75 : decode cX8_comparison 75 = .ok (.bipush 6, 2) := by decide +kernel
theorem dX8_comparison_77 : decode cX8_comparison 77 = .ok (.goto 5, 3) := by decide +kernel
theorem dX8_comparison_80 : decode cX8_comparison 80 = .ok (.bipush 7, 2) := by decide +kernel
theorem dX8_comparison_82 : decode cX8_comparison 82 = .ok (.iconst 0, 1) := by decide +kernel
theorem dX8_comparison_83 : decode cX8_comparison 83 = .ok (.invokevirtual 58, 3) := by decide +kernel
theorem dX8_comparison_86 : decode cX8_comparison 86 = .ok (.iconst 1, 1) := by decide +kernel
theorem dX8_comparison_87 : decode cX8_comparison 87 = .ok (.ireturn, 1) := by decide +kernel
theorem okX8_comparison : ab_okM MX8_comparison 1 := ⟨by decide, ⟨by decide, by decide⟩, ab_in 1207 (by decide +kernel) (by decide +kernel), ab_in 96 (by decide +kernel) (by decide +kernel), by decide +kernel, by decide⟩
set_option maxHeartbeats 4000000 in
set_option maxRecDepth 100000 in
def wX8_comparison_82 (s1 : Int32) (x : ab_X) (K : Int32 → ab_X → Prop)  : Prop := wX9_add 160 s1 0 x (fun x7 => K 1 x7)
set_option maxHeartbeats 4000000 in
set_option maxRecDepth 100000 in
theorem sX8_comparison_82 (s1 : Int32)  (x : ab_X) (K : Int32 → ab_X → Prop)  (d bc bs : Nat) (hdp : 107 ≤ d)  (h : wX8_comparison_82 s1 x K ) : EW MX8_comparison 82 [] [.int s1, .ref 160] (aS x) d bc bs (liI K) := by
  unfold wX8_comparison_82 at h
  refine EW_iconst (pc2 := 83) (v := 0) rfl dX8_comparison_82 (by decide) ?_
  refine AW_invV (M' := MX9_add) [.int s1, .int 0] (rest := []) mlRX8_58 okX9_add (pc2 := 86) rfl dX8_comparison_83 rfl rfl (Nat.le_of_ble_eq_true rfl) (Nat.le_of_ble_eq_true rfl) (d' := 0) (by omega) q160 ⟨by decide, rfl⟩ (EW_mono (fun _ _ hr => ?_) (sX9_add 160 s1 0 (Or.inr (Or.inr (Or.inl rfl)) : isT 160) x _ _ 0 0 (Nat.le_refl _) h))
  obtain ⟨x7, rfl, rfl, h⟩ := hr
  refine EW_iconst (pc2 := 87) (v := 1) rfl dX8_comparison_86 (by decide) ?_
  exact AW_zret rfl isB1 dX8_comparison_87 ⟨_, _, rfl, rfl, h⟩
set_option maxHeartbeats 4000000 in
set_option maxRecDepth 100000 in
def wX8_comparison_35 (v1 : Int32) (v2 : Int32) (x : ab_X) (K : Int32 → ab_X → Prop)  : Prop := wX8_sum v1 (wr x 158 2 ((x.1 158 2) + 1)) (fun r5 x6 => ((¬ r5 = 0 → ((¬ v2 = 61 → ((¬ v2 = 60 → wX8_comparison_82 7 x6 K) ∧ (v2 = 60 → wX8_comparison_82 6 x6 K))) ∧ (v2 = 61 → wX8_comparison_82 5 x6 K))) ∧ (r5 = 0 → K 0 x6)))
set_option maxHeartbeats 4000000 in
set_option maxRecDepth 100000 in
theorem sX8_comparison_35 (v1 : Int32) (v2 : Int32)  (x : ab_X) (K : Int32 → ab_X → Prop)  (d bc bs : Nat) (hdp : 107 ≤ d)  (h : wX8_comparison_35 v1 v2 x K ) : EW MX8_comparison 35 [(0, .ref 158), (1, .int v1), (2, .int v2)] [] (aS x) d bc bs (liI K) := by
  unfold wX8_comparison_35 at h
  refine EW_aload_n (pc2 := 36) rfl dX8_comparison_35 0 rfl ?_
  refine EW_dup (pc2 := 37) rfl dX8_comparison_36 rfl ?_
  refine AW_geti ⟨gfRX8_36, rfl⟩ (pc2 := 40) rfl dX8_comparison_37 q158 ?_
  refine EW_iconst (pc2 := 41) (v := 1) rfl dX8_comparison_40 (by decide) ?_
  refine EW_iadd (pc2 := 42) rfl dX8_comparison_41 ?_
  refine AW_puti ⟨gfRX8_36, rfl, rfl⟩ (pc2 := 45) rfl dX8_comparison_42 q158 ?_
  refine EW_aload_n (pc2 := 46) rfl dX8_comparison_45 0 rfl ?_
  refine EW_iload_n (pc2 := 47) rfl dX8_comparison_46 1 rfl ?_
  refine AW_invV (M' := MX8_sum) [.int v1] (rest := []) mlRX8_91 okX8_sum (pc2 := 50) rfl dX8_comparison_47 rfl rfl (Nat.le_of_ble_eq_true rfl) (Nat.le_of_ble_eq_true rfl) (d' := 106) (by omega) q158 ⟨by decide, rfl⟩ (EW_mono (fun _ _ hr => ?_) (sX8_sum v1  (wr x 158 2 ((x.1 158 2) + 1)) _ _ 0 0 (Nat.le_refl _) h))
  obtain ⟨r5, x6, rfl, rfl, h⟩ := hr
  refine EW_if_ne (tgt := 55) (pc2 := 53) rfl dX8_comparison_50 (by decide) (fun q => ?_) (fun q => ?_)
  · replace h := h.1 q
    refine EW_aload_n (pc2 := 56) rfl dX8_comparison_55 0 rfl ?_
    refine AW_getr (r := 160) ⟨gfRX8_24, rfl⟩ (pc2 := 59) rfl dX8_comparison_56 q158 rfl ?_
    refine EW_iload_n (pc2 := 60) rfl dX8_comparison_59 2 rfl ?_
    refine EW_bipush (pc2 := 62) (v := 61) rfl dX8_comparison_60 (by decide) ?_
    refine EW_icmp_ne (tgt := 69) (pc2 := 65) rfl dX8_comparison_62 (by decide) (fun q => ?_) (fun q => ?_)
    · replace h := h.1 q
      refine EW_iload_n (pc2 := 70) rfl dX8_comparison_69 2 rfl ?_
      refine EW_bipush (pc2 := 72) (v := 60) rfl dX8_comparison_70 (by decide) ?_
      refine EW_icmp_ne (tgt := 80) (pc2 := 75) rfl dX8_comparison_72 (by decide) (fun q => ?_) (fun q => ?_)
      · replace h := h.1 q
        refine EW_bipush (pc2 := 82) (v := 7) rfl dX8_comparison_80 (by decide) ?_
        refine EW_ls [] rfl ?_
        exact sX8_comparison_82 7 x6 K d bc bs hdp h
      · replace h := h.2 q
        refine EW_bipush (pc2 := 77) (v := 6) rfl dX8_comparison_75 (by decide) ?_
        refine EW_goto (tgt := 82) dX8_comparison_77 (by decide) ?_
        refine EW_ls [] rfl ?_
        exact sX8_comparison_82 6 x6 K d bc bs hdp h
    · replace h := h.2 q
      refine EW_iconst (pc2 := 66) (v := 5) rfl dX8_comparison_65 (by decide) ?_
      refine EW_goto (tgt := 82) dX8_comparison_66 (by decide) ?_
      refine EW_ls [] rfl ?_
      exact sX8_comparison_82 5 x6 K d bc bs hdp h
  · replace h := h.2 q
    refine EW_iconst (pc2 := 54) (v := 0) rfl dX8_comparison_53 (by decide) ?_
    exact AW_zret rfl isB0 dX8_comparison_54 ⟨_, _, rfl, rfl, h⟩
set_option maxHeartbeats 4000000 in
set_option maxRecDepth 100000 in
def wX8_comparison (v1 : Int32) (x : ab_X) (K : Int32 → ab_X → Prop) : Prop := wX8_sum v1 x (fun r1 x2 => ((¬ r1 = 0 → wX8_peek x2 (fun r3 x4 => ((r3 = 61 → wX8_comparison_35 v1 r3 x4 K) ∧ (¬ r3 = 61 → ((r3 = 60 → wX8_comparison_35 v1 r3 x4 K) ∧ (¬ r3 = 60 → ((r3 = 62 → wX8_comparison_35 v1 r3 x4 K) ∧ (¬ r3 = 62 → K 0 x4)))))))) ∧ (r1 = 0 → K 0 x2)))
set_option maxHeartbeats 4000000 in
set_option maxRecDepth 100000 in
theorem sX8_comparison (v1 : Int32)  (x : ab_X) (K : Int32 → ab_X → Prop) (d bc bs : Nat) (hdp : 107 ≤ d) (h : wX8_comparison v1 x K) : EW MX8_comparison 0 [(0, .ref 158), (1, .int v1)] [] (aS x) d bc bs (liI K) := by
  unfold wX8_comparison at h
  refine EW_aload_n (pc2 := 1) rfl dX8_comparison_0 0 rfl ?_
  refine EW_iload_n (pc2 := 2) rfl dX8_comparison_1 1 rfl ?_
  refine AW_invV (M' := MX8_sum) [.int v1] (rest := []) mlRX8_91 okX8_sum (pc2 := 5) rfl dX8_comparison_2 rfl rfl (Nat.le_of_ble_eq_true rfl) (Nat.le_of_ble_eq_true rfl) (d' := 106) (by omega) q158 ⟨by decide, rfl⟩ (EW_mono (fun _ _ hr => ?_) (sX8_sum v1  x _ _ 0 0 (Nat.le_refl _) h))
  obtain ⟨r1, x2, rfl, rfl, h⟩ := hr
  refine EW_if_ne (tgt := 10) (pc2 := 8) rfl dX8_comparison_5 (by decide) (fun q => ?_) (fun q => ?_)
  · replace h := h.1 q
    refine EW_aload_n (pc2 := 11) rfl dX8_comparison_10 0 rfl ?_
    refine AW_invV (M' := MX8_peek) [] (rest := []) mlRX8_46 okX8_peek (pc2 := 14) rfl dX8_comparison_11 rfl rfl (Nat.le_of_ble_eq_true rfl) (Nat.le_of_ble_eq_true rfl) (d' := 0) (by omega) q158 ⟨by decide, rfl⟩ (EW_mono (fun _ _ hr => ?_) (sX8_peek   x2 _ _ 0 0 (Nat.le_refl _) h))
    obtain ⟨r3, x4, rfl, rfl, h⟩ := hr
    refine EW_istore_n (pc2 := 15) rfl dX8_comparison_14 (by decide) [1, 2, 0] [(0, .ref 158), (1, .int v1), (2, .int r3)] rfl ?_
    refine EW_iload_n (pc2 := 16) rfl dX8_comparison_15 2 rfl ?_
    refine EW_bipush (pc2 := 18) (v := 61) rfl dX8_comparison_16 (by decide) ?_
    refine EW_icmp_eq (tgt := 35) (pc2 := 21) rfl dX8_comparison_18 (by decide) (fun q => ?_) (fun q => ?_)
    · replace h := h.1 q
      exact sX8_comparison_35 v1 r3 x4 K d bc bs hdp h
    · replace h := h.2 q
      refine EW_iload_n (pc2 := 22) rfl dX8_comparison_21 2 rfl ?_
      refine EW_bipush (pc2 := 24) (v := 60) rfl dX8_comparison_22 (by decide) ?_
      refine EW_icmp_eq (tgt := 35) (pc2 := 27) rfl dX8_comparison_24 (by decide) (fun q => ?_) (fun q => ?_)
      · replace h := h.1 q
        exact sX8_comparison_35 v1 r3 x4 K d bc bs hdp h
      · replace h := h.2 q
        refine EW_iload_n (pc2 := 28) rfl dX8_comparison_27 2 rfl ?_
        refine EW_bipush (pc2 := 30) (v := 62) rfl dX8_comparison_28 (by decide) ?_
        refine EW_icmp_eq (tgt := 35) (pc2 := 33) rfl dX8_comparison_30 (by decide) (fun q => ?_) (fun q => ?_)
        · replace h := h.1 q
          exact sX8_comparison_35 v1 r3 x4 K d bc bs hdp h
        · replace h := h.2 q
          refine EW_iconst (pc2 := 34) (v := 0) rfl dX8_comparison_33 (by decide) ?_
          exact AW_zret rfl isB0 dX8_comparison_34 ⟨_, _, rfl, rfl, h⟩
  · replace h := h.2 q
    refine EW_iconst (pc2 := 9) (v := 0) rfl dX8_comparison_8 (by decide) ?_
    exact AW_zret rfl isB0 dX8_comparison_9 ⟨_, _, rfl, rfl, h⟩
