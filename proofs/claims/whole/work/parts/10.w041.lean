theorem mlRX12_491 : Cond.methodLink RX12 491 yX12_part ∈ ab_G ∧ Cond.instanceMethod yX12_part ∈ ab_G ∧ Cond.selects RX12 yX12_part yX12_part ∈ ab_G := ⟨ab_in 2419 (by decide +kernel) (by decide +kernel), ab_in 2421 (by decide +kernel) (by decide +kernel), ab_in 37 (by decide +kernel) (by decide +kernel)⟩
theorem mlRX12_485 : Cond.methodLink RX12 485 yX12_unit ∈ ab_G ∧ Cond.instanceMethod yX12_unit ∈ ab_G ∧ Cond.selects RX12 yX12_unit yX12_unit ∈ ab_G := ⟨ab_in 2423 (by decide +kernel) (by decide +kernel), ab_in 2425 (by decide +kernel) (by decide +kernel), ab_in 38 (by decide +kernel) (by decide +kernel)⟩
theorem mlRX12_488 : Cond.methodLink RX12 488 yX12_condition ∈ ab_G ∧ Cond.instanceMethod yX12_condition ∈ ab_G ∧ Cond.selects RX12 yX12_condition yX12_condition ∈ ab_G := ⟨ab_in 2415 (by decide +kernel) (by decide +kernel), ab_in 2417 (by decide +kernel) (by decide +kernel), ab_in 36 (by decide +kernel) (by decide +kernel)⟩
abbrev MX12_condition : ab_M := (yX12_condition, cX12_condition, 3, (some .boolean))
theorem dX12_condition_0 : decode cX12_condition 0 = .ok (.aload_n 0, 1) := by decide +kernel
theorem dX12_condition_1 : decode cX12_condition 1 = .ok (.invokevirtual 491, 3) := by decide +kernel
theorem dX12_condition_4 : decode cX12_condition 4 = .ok (.istore_n 1, 1) := by decide +kernel
theorem dX12_condition_5 : decode cX12_condition 5 = .ok (.aload_n 0, 1) := by decide +kernel
theorem dX12_condition_6 : decode cX12_condition 6 = .ok (.getfield 432, 3) := by decide +kernel
theorem dX12_condition_9 : decode cX12_condition 9 = .ok (.iconst (-1), 1) := by decide +kernel
theorem dX12_condition_10 : decode cX12_condition 10 = .ok (.if_icmp .ne 44, 3) := by decide +kernel
theorem dX12_condition_13 : decode cX12_condition 13 = .ok (.aload_n 0, 1) := by decide +kernel
theorem dX12_condition_14 : decode cX12_condition 14 = .ok (.invokevirtual 442, 3) := by decide +kernel
theorem dX12_condition_17 : decode cX12_condition 17 = .ok (.bipush 124, 2) := by decide +kernel
theorem dX12_condition_19 : decode cX12_condition 19 = .ok (.if_icmp .ne 35, 3) := by decide +kernel
theorem dX12_condition_22 : decode cX12_condition 22 = .ok (.aload_n 0, 1) := by decide +kernel
theorem dX12_condition_23 : decode cX12_condition 23 = .ok (.dup, 1) := by decide +kernel
theorem dX12_condition_24 : decode cX12_condition 24 = .ok (.getfield 423, 3) := by decide +kernel
theorem dX12_condition_27 : decode cX12_condition 27 = .ok (.iconst 1, 1) := by decide +kernel
theorem dX12_condition_28 : decode cX12_condition 28 = .ok (.iadd, 1) := by decide +kernel
theorem dX12_condition_29 : decode cX12_condition 29 = .ok (.putfield 423, 3) := by decide +kernel
theorem dX12_condition_32 : decode cX12_condition 32 = .ok (.aload_n 0, 1) := by decide +kernel
theorem dX12_condition_33 : decode cX12_condition 33 = .ok (.invokevirtual 491, 3) := by decide +kernel
theorem dX12_condition_36 : decode cX12_condition 36 = .ok (.istore_n 2, 1) := by decide +kernel
theorem dX12_condition_37 : decode cX12_condition 37 = .ok (.iload_n 1, 1) := by decide +kernel
theorem dX12_condition_38 : decode cX12_condition 38 = .ok (.ifCond .ne 7, 3) := by decide +kernel
theorem dX12_condition_41 : decode cX12_condition 41 = .ok (.iload_n 2, 1) := by decide +kernel
theorem dX12_condition_42 : decode cX12_condition 42 = .ok (.ifCond .eq 7, 3) := by decide +kernel
theorem dX12_condition_45 : decode cX12_condition 45 = .ok (.iconst 1, 1) := by decide +kernel
theorem dX12_condition_46 : decode cX12_condition 46 = .ok (.goto 4, 3) := by decide +kernel
theorem dX12_condition_49 : decode cX12_condition 49 = .ok (.iconst 0, 1) := by decide +kernel
theorem dX12_condition_50 : decode cX12_condition 50 = .ok (.istore_n 1, 1) := by decide +kernel
theorem dX12_condition_51 : decode cX12_condition 51 = .ok (.goto (-46), 3) := by decide +kernel
theorem dX12_condition_54 : decode cX12_condition 54 = .ok (.iload_n 1, 1) := by decide +kernel
theorem dX12_condition_55 : decode cX12_condition 55 = .ok (.ireturn, 1) := by decide +kernel
theorem okX12_condition : ab_okM MX12_condition 0 := ⟨by decide, ⟨by decide, by decide⟩, ab_in 2418 (by decide +kernel) (by decide +kernel), ab_in 99 (by decide +kernel) (by decide +kernel), by decide +kernel, by decide⟩
abbrev MX12_part : ab_M := (yX12_part, cX12_part, 3, (some .boolean))
theorem dX12_part_0 : decode cX12_part 0 = .ok (.aload_n 0, 1) := by decide +kernel
theorem dX12_part_1 : decode cX12_part 1 = .ok (.invokevirtual 485, 3) := by decide +kernel
theorem dX12_part_4 : decode cX12_part 4 = .ok (.istore_n 1, 1) := by decide +kernel
theorem dX12_part_5 : decode cX12_part 5 = .ok (.aload_n 0, 1) := by decide +kernel
theorem dX12_part_6 : decode cX12_part 6 = .ok (.getfield 432, 3) := by decide +kernel
theorem dX12_part_9 : decode cX12_part 9 = .ok (.iconst (-1), 1) := by decide +kernel
theorem dX12_part_10 : decode cX12_part 10 = .ok (.if_icmp .ne 44, 3) := by decide +kernel
theorem dX12_part_13 : decode cX12_part 13 = .ok (.aload_n 0, 1) := by decide +kernel
theorem dX12_part_14 : decode cX12_part 14 = .ok (.invokevirtual 442, 3) := by decide +kernel
theorem dX12_part_17 : decode cX12_part 17 = .ok (.bipush 38, 2) := by decide +kernel
theorem dX12_part_19 : decode cX12_part 19 = .ok (.if_icmp .ne 35, 3) := by decide +kernel
theorem dX12_part_22 : decode cX12_part 22 = .ok (.aload_n 0, 1) := by decide +kernel
theorem dX12_part_23 : decode cX12_part 23 = .ok (.dup, 1) := by decide +kernel
theorem dX12_part_24 : decode cX12_part 24 = .ok (.getfield 423, 3) := by decide +kernel
theorem dX12_part_27 : decode cX12_part 27 = .ok (.iconst 1, 1) := by decide +kernel
theorem dX12_part_28 : decode cX12_part 28 = .ok (.iadd, 1) := by decide +kernel
theorem dX12_part_29 : decode cX12_part 29 = .ok (.putfield 423, 3) := by decide +kernel
theorem dX12_part_32 : decode cX12_part 32 = .ok (.aload_n 0, 1) := by decide +kernel
theorem dX12_part_33 : decode cX12_part 33 = .ok (.invokevirtual 485, 3) := by decide +kernel
theorem dX12_part_36 : decode cX12_part 36 = .ok (.istore_n 2, 1) := by decide +kernel
theorem dX12_part_37 : decode cX12_part 37 = .ok (.iload_n 1, 1) := by decide +kernel
theorem dX12_part_38 : decode cX12_part 38 = .ok (.ifCond .eq 11, 3) := by decide +kernel
theorem dX12_part_41 : decode cX12_part 41 = .ok (.iload_n 2, 1) := by decide +kernel
theorem dX12_part_42 : decode cX12_part 42 = .ok (.ifCond .eq 7, 3) := by decide +kernel
theorem dX12_part_45 : decode cX12_part 45 = .ok (.iconst 1, 1) := by decide +kernel
theorem dX12_part_46 : decode cX12_part 46 = .ok (.goto 4, 3) := by decide +kernel
theorem dX12_part_49 : decode cX12_part 49 = .ok (.iconst 0, 1) := by decide +kernel
theorem dX12_part_50 : decode cX12_part 50 = .ok (.istore_n 1, 1) := by decide +kernel
theorem dX12_part_51 : decode cX12_part 51 = .ok (.goto (-46), 3) := by decide +kernel
theorem dX12_part_54 : decode cX12_part 54 = .ok (.iload_n 1, 1) := by decide +kernel
theorem dX12_part_55 : decode cX12_part 55 = .ok (.ireturn, 1) := by decide +kernel
theorem okX12_part : ab_okM MX12_part 0 := ⟨by decide, ⟨by decide, by decide⟩, ab_in 2422 (by decide +kernel) (by decide +kernel), ab_in 99 (by decide +kernel) (by decide +kernel), by decide +kernel, by decide⟩
abbrev MX12_unit : ab_M := (yX12_unit, cX12_unit, 5, (some .boolean))
theorem dX12_unit_0 : decode cX12_unit 0 = .ok (.aload_n 0, 1) := by decide +kernel
theorem dX12_unit_1 : decode cX12_unit 1 = .ok (.invokevirtual 442, 3) := by decide +kernel
theorem dX12_unit_4 : decode cX12_unit 4 = .ok (.istore_n 1, 1) := by decide +kernel
theorem dX12_unit_5 : decode cX12_unit 5 = .ok (.iload_n 1, 1) := by decide +kernel
theorem dX12_unit_6 : decode cX12_unit 6 = .ok (.bipush 33, 2) := by decide +kernel
theorem dX12_unit_8 : decode cX12_unit 8 = .ok (.if_icmp .ne 37, 3) := by decide +kernel
theorem dX12_unit_11 : decode cX12_unit 11 = .ok (.aload_n 0, 1) := by decide +kernel
theorem dX12_unit_12 : decode cX12_unit 12 = .ok (.invokevirtual 466, 3) := by decide +kernel
theorem dX12_unit_15 : decode cX12_unit 15 = .ok (.ifCond .ne 5, 3) := by decide +kernel
theorem dX12_unit_18 : decode cX12_unit 18 = .ok (.iconst 0, 1) := by decide +kernel
theorem dX12_unit_19 : decode cX12_unit 19 = .ok (.ireturn, 1) := by decide +kernel
theorem dX12_unit_20 : decode cX12_unit 20 = .ok (.aload_n 0, 1) := by decide +kernel
theorem dX12_unit_21 : decode cX12_unit 21 = .ok (.invokevirtual 485, 3) := by decide +kernel
theorem dX12_unit_24 : decode cX12_unit 24 = .ok (.istore_n 2, 1) := by decide +kernel
theorem dX12_unit_25 : decode cX12_unit 25 = .ok (.aload_n 0, 1) := by decide +kernel
theorem dX12_unit_26 : decode cX12_unit 26 = .ok (.dup, 1) := by decide +kernel
theorem dX12_unit_27 : decode cX12_unit 27 = .ok (.getfield 435, 3) := by decide +kernel
theorem dX12_unit_30 : decode cX12_unit 30 = .ok (.iconst 1, 1) := by decide +kernel
theorem dX12_unit_31 : decode cX12_unit 31 = .ok (.isub, 1) := by decide +kernel
theorem dX12_unit_32 : decode cX12_unit 32 = .ok (.putfield 435, 3) := by decide +kernel
theorem dX12_unit_35 : decode cX12_unit 35 = .ok (.iload_n 2, 1) := by decide +kernel
theorem dX12_unit_36 : decode cX12_unit 36 = .ok (.ifCond .ne 7, 3) := by decide +kernel
theorem dX12_unit_39 : decode cX12_unit 39 = .ok (.iconst 1, 1) := by decide +kernel
theorem dX12_unit_40 : decode cX12_unit 40 = .ok (.goto 4, 3) := by decide +kernel
theorem dX12_unit_43 : decode cX12_unit 43 = .ok (.iconst 0, 1) := by decide +kernel
theorem dX12_unit_44 : decode cX12_unit 44 = .ok (.ireturn, 1) := by decide +kernel
theorem dX12_unit_45 : decode cX12_unit 45 = .ok (.iload_n 1, 1) := by decide +kernel
theorem dX12_unit_46 : decode cX12_unit 46 = .ok (.bipush 40, 2) := by decide +kernel
theorem dX12_unit_48 : decode cX12_unit 48 = .ok (.if_icmp .ne 40, 3) := by decide +kernel
theorem dX12_unit_51 : decode cX12_unit 51 = .ok (.aload_n 0, 1) := by decide +kernel
theorem dX12_unit_52 : decode cX12_unit 52 = .ok (.invokevirtual 466, 3) := by decide +kernel
theorem dX12_unit_55 : decode cX12_unit 55 = .ok (.ifCond .ne 5, 3) := by decide +kernel
theorem dX12_unit_58 : decode cX12_unit 58 = .ok (.iconst 0, 1) := by decide +kernel
theorem dX12_unit_59 : decode cX12_unit 59 = .ok (.ireturn, 1) := by decide +kernel
theorem dX12_unit_60 : decode cX12_unit 60 = .ok (.aload_n 0, 1) := by decide +kernel
theorem dX12_unit_61 : decode cX12_unit 61 = .ok (.invokevirtual 488, 3) := by decide +kernel
theorem dX12_unit_64 : decode cX12_unit 64 = .ok (.istore_n 2, 1) := by decide +kernel
theorem dX12_unit_65 : decode cX12_unit 65 = .ok (.aload_n 0, 1) := by decide +kernel
theorem dX12_unit_66 : decode cX12_unit 66 = .ok (.bipush 41, 2) := by decide +kernel
theorem dX12_unit_68 : decode cX12_unit 68 = .ok (.invokevirtual 472, 3) := by decide +kernel
theorem dX12_unit_71 : decode cX12_unit 71 = .ok (.ifCond .ne 5, 3) := by decide +kernel
theorem dX12_unit_74 : decode cX12_unit 74 = .ok (.iconst 0, 1) := by decide +kernel
theorem dX12_unit_75 : decode cX12_unit 75 = .ok (.ireturn, 1) := by decide +kernel
theorem dX12_unit_76 : decode cX12_unit 76 = .ok (.aload_n 0, 1) := by decide +kernel
theorem dX12_unit_77 : decode cX12_unit 77 = .ok (.dup, 1) := by decide +kernel
theorem dX12_unit_78 : decode cX12_unit 78 = .ok (.getfield 435, 3) := by decide +kernel
theorem dX12_unit_81 : decode cX12_unit 81 = .ok (.iconst 1, 1) := by decide +kernel
theorem dX12_unit_82 : decode cX12_unit 82 = .ok (.isub, 1) := by decide +kernel
theorem dX12_unit_83 : decode cX12_unit 83 = .ok (.putfield 435, 3) := by decide +kernel
theorem dX12_unit_86 : decode cX12_unit 86 = .ok (.iload_n 2, 1) := by decide +kernel
theorem dX12_unit_87 : decode cX12_unit 87 = .ok (.ireturn, 1) := by decide +kernel
theorem dX12_unit_88 : decode cX12_unit 88 = .ok (.aload_n 0, 1) := by decide +kernel
theorem dX12_unit_89 : decode cX12_unit 89 = .ok (.invokevirtual 469, 3) := by decide +kernel
theorem dX12_unit_92 : decode cX12_unit 92 = .ok (.istore_n 2, 1) := by decide +kernel
theorem dX12_unit_93 : decode cX12_unit 93 = .ok (.aload_n 0, 1) := by decide +kernel
theorem dX12_unit_94 : decode cX12_unit 94 = .ok (.getfield 432, 3) := by decide +kernel
theorem dX12_unit_97 : decode cX12_unit 97 = .ok (.iconst (-1), 1) := by decide +kernel
theorem dX12_unit_98 : decode cX12_unit 98 = .ok (.if_icmp .eq 5, 3) := by decide +kernel
theorem dX12_unit_101 : decode cX12_unit 101 = .ok (.iconst 0, 1) := by decide +kernel
theorem dX12_unit_102 : decode cX12_unit 102 = .ok (.ireturn, 1) := by decide +kernel
theorem dX12_unit_103 : decode cX12_unit 103 = .ok (.aload_n 0, 1) := by decide +kernel
theorem dX12_unit_104 : decode cX12_unit 104 = .ok (.invokevirtual 442, 3) := by decide +kernel
theorem dX12_unit_107 : decode cX12_unit 107 = .ok (.istore_n 3, 1) := by decide +kernel
theorem dX12_unit_108 : decode cX12_unit 108 = .ok (.iload_n 3, 1) := by decide +kernel
theorem dX12_unit_109 : decode cX12_unit 109 = .ok (.bipush 61, 2) := by decide +kernel
theorem dX12_unit_111 : decode cX12_unit 111 = .ok (.if_icmp .eq 20, 3) := by decide +kernel
theorem dX12_unit_114 : decode cX12_unit 114 = .ok (.iload_n 3, 1) := by decide +kernel
theorem dX12_unit_115 : decode cX12_unit 115 = .ok (.bipush 60, 2) := by decide +kernel
theorem dX12_unit_117 : decode cX12_unit 117 = .ok (.if_icmp .eq 14, 3) := by decide +kernel
theorem dX12_unit_120 : decode cX12_unit 120 = .ok (.iload_n 3, 1) := by decide +kernel
theorem dX12_unit_121 : decode cX12_unit 121 = .ok (.bipush 62, 2) := by decide +kernel
theorem dX12_unit_123 : decode cX12_unit 123 = .ok (.if_icmp .eq 8, 3) := by decide +kernel
theorem dX12_unit_126 : decode cX12_unit 126 = .ok (.aload_n 0, 1) := by decide +kernel
theorem dX12_unit_127 : decode cX12_unit 127 = .ok (.invokevirtual 438, 3) := by decide +kernel
theorem dX12_unit_130 : decode cX12_unit 130 = .ok (.ireturn, 1) := by decide +kernel
theorem dX12_unit_131 : decode cX12_unit 131 = .ok (.aload_n 0, 1) := by decide +kernel
theorem dX12_unit_132 : decode cX12_unit 132 = .ok (.dup, 1) := by decide +kernel
theorem dX12_unit_133 : decode cX12_unit 133 = .ok (.getfield 423, 3) := by decide +kernel
theorem dX12_unit_136 : decode cX12_unit 136 = .ok (.iconst 1, 1) := by decide +kernel
theorem dX12_unit_137 : decode cX12_unit 137 = .ok (.iadd, 1) := by decide +kernel
theorem dX12_unit_138 : decode cX12_unit 138 = .ok (.putfield 423, 3) := by decide +kernel
theorem dX12_unit_141 : decode cX12_unit 141 = .ok (.aload_n 0, 1) := by decide +kernel
theorem dX12_unit_142 : decode cX12_unit 142 = .ok (.invokevirtual 469, 3) := by decide +kernel
theorem dX12_unit_145 : decode cX12_unit 145 = .ok (.istore 4, 2) := by decide +kernel
theorem dX12_unit_147 : decode cX12_unit 147 = .ok (.iload_n 3, 1) := by decide +kernel
theorem dX12_unit_148 : decode cX12_unit 148 = .ok (.bipush 61, 2) := by decide +kernel
theorem dX12_unit_150 : decode cX12_unit 150 = .ok (.if_icmp .ne 17, 3) := by decide +kernel
theorem dX12_unit_153 : decode cX12_unit 153 = .ok (.iload_n 2, 1) := by decide +kernel
theorem dX12_unit_154 : decode cX12_unit 154 = .ok (.iload 4, 2) := by decide +kernel
theorem dX12_unit_156 : decode cX12_unit 156 = .ok (.if_icmp .ne 7, 3) := by decide +kernel
theorem dX12_unit_159 : decode cX12_unit 159 = .ok (.iconst 1, 1) := by decide +kernel
theorem dX12_unit_160 : decode cX12_unit 160 = .ok (.goto 38, 3) := by decide +kernel
theorem dX12_unit_163 : decode cX12_unit 163 = .ok (.iconst 0, 1) := by decide +kernel
theorem dX12_unit_164 : decode cX12_unit 164 = .ok (.goto 34, 3) := by decide +kernel
theorem dX12_unit_167 : decode cX12_unit 167 = .ok (.iload_n 3, 1) := by decide +kernel
theorem dX12_unit_168 : decode cX12_unit 168 = .ok (.bipush 60, 2) := by decide +kernel
theorem dX12_unit_170 : decode cX12_unit 170 = .ok (.if_icmp .ne 17, 3) := by decide +kernel
theorem dX12_unit_173 : decode cX12_unit 173 = .ok (.iload_n 2, 1) := by decide +kernel
theorem dX12_unit_174 : decode cX12_unit 174 = .ok (.iload 4, 2) := by decide +kernel
theorem dX12_unit_176 : decode cX12_unit 176 = .ok (.if_icmp .ge 7, 3) := by decide +kernel
theorem dX12_unit_179 : decode cX12_unit 179 = .ok (.iconst 1, 1) := by decide +kernel
theorem dX12_unit_180 : decode cX12_unit 180 = .ok (.goto 18, 3) := by decide +kernel
theorem dX12_unit_183 : decode cX12_unit 183 = .ok (.iconst 0, 1) := by decide +kernel
theorem dX12_unit_184 : decode cX12_unit 184 = .ok (.goto 14, 3) := by decide +kernel
theorem dX12_unit_187 : decode cX12_unit 187 = .ok (.iload_n 2, 1) := by decide +kernel
theorem dX12_unit_188 : decode cX12_unit 188 = .ok (.iload 4, 2) := by decide +kernel
theorem dX12_unit_190 : decode cX12_unit 190 = .ok (.if_icmp .le 7, 3) := by decide +kernel
theorem dX12_unit_193 : decode cX12_unit 193 = .ok (.iconst 1, 1) := by decide +kernel
theorem dX12_unit_194 : decode cX12_unit 194 = .ok (.goto 4, 3) := by decide +kernel
theorem dX12_unit_197 : decode cX12_unit 197 = .ok (.iconst 0, 1) := by decide +kernel
theorem dX12_unit_198 : decode cX12_unit 198 = .ok (.ireturn, 1) := by decide +kernel
theorem okX12_unit : ab_okM MX12_unit 0 := ⟨by decide, ⟨by decide, by decide⟩, ab_in 2426 (by decide +kernel) (by decide +kernel), ab_in 99 (by decide +kernel) (by decide +kernel), by decide +kernel, by decide⟩
set_option maxHeartbeats 4000000 in
set_option maxRecDepth 100000 in
def wX12_condition_45 (RX12_condition : ab_X → (Int32 → ab_X → Prop) → Prop) (RX12_part : ab_X → (Int32 → ab_X → Prop) → Prop) (RX12_unit : ab_X → (Int32 → ab_X → Prop) → Prop)  (x : ab_X) (K : Int32 → ab_X → Prop) (L5 : Int32 → ab_X → Prop) : Prop := L5 1 x
set_option maxHeartbeats 4000000 in
set_option maxRecDepth 100000 in
theorem sX12_condition_45 (RX12_condition : ab_X → (Int32 → ab_X → Prop) → Prop) (RX12_part : ab_X → (Int32 → ab_X → Prop) → Prop) (RX12_unit : ab_X → (Int32 → ab_X → Prop) → Prop)   (x : ab_X) (K : Int32 → ab_X → Prop) (L5 : Int32 → ab_X → Prop) (d bc bs : Nat) (hdp : 1 ≤ d) (dr : Nat) (hRX12_condition : ∀   (x : ab_X) (K : Int32 → ab_X → Prop), RX12_condition  x K → EW MX12_condition 0 [(0, .ref 246)] [] (aS x) dr 0 0 (liI K)) (hRX12_part : ∀   (x : ab_X) (K : Int32 → ab_X → Prop), RX12_part  x K → EW MX12_part 0 [(0, .ref 246)] [] (aS x) dr 0 0 (liI K)) (hRX12_unit : ∀   (x : ab_X) (K : Int32 → ab_X → Prop), RX12_unit  x K → EW MX12_unit 0 [(0, .ref 246)] [] (aS x) dr 0 0 (liI K)) (hdr : dr + 1 ≤ d) (hL5 : ∀ (v1 : Int32) (x : ab_X), L5 v1 x → EW MX12_condition 5 [(0, .ref 246), (1, .int v1)] [] (aS x) d bc bs (liI K)) (h : wX12_condition_45 RX12_condition RX12_part RX12_unit  x K L5) : EW MX12_condition 45 [(0, .ref 246)] [] (aS x) d bc bs (liI K) := by
  unfold wX12_condition_45 at h
  refine EW_iconst (pc2 := 46) (v := 1) rfl dX12_condition_45 (by decide) ?_
  refine EW_goto (tgt := 50) dX12_condition_46 (by decide) ?_
  refine EW_istore_n (pc2 := 51) rfl dX12_condition_50 (by decide) [1, 0] [(0, .ref 246), (1, .int 1)] rfl ?_
  refine EW_goto (tgt := 5) dX12_condition_51 (by decide) ?_
  exact hL5 1 x h
set_option maxHeartbeats 4000000 in
set_option maxRecDepth 100000 in
def lX12_condition_5 (RX12_condition : ab_X → (Int32 → ab_X → Prop) → Prop) (RX12_part : ab_X → (Int32 → ab_X → Prop) → Prop) (RX12_unit : ab_X → (Int32 → ab_X → Prop) → Prop)  (K : Int32 → ab_X → Prop)  (L5 : Int32 → ab_X → Prop) (v1 : Int32) (x : ab_X) : Prop := ((¬ (x.1 246 81) = (-1) → (isB v1 ∧ K v1 x)) ∧ ((x.1 246 81) = (-1) → wX12_look x (fun r4 x5 => ((¬ r4 = 124 → (isB v1 ∧ K v1 x5)) ∧ (r4 = 124 → RX12_part (wr x5 246 80 ((x5.1 246 80) + 1)) (fun r7 x8 => ((¬ v1 = 0 → wX12_condition_45 RX12_condition RX12_part RX12_unit x8 K L5) ∧ (v1 = 0 → ((r7 = 0 → L5 0 x8) ∧ (¬ r7 = 0 → wX12_condition_45 RX12_condition RX12_part RX12_unit x8 K L5))))))))))
set_option maxHeartbeats 4000000 in
set_option maxRecDepth 100000 in
theorem sX12_condition_5 (RX12_condition : ab_X → (Int32 → ab_X → Prop) → Prop) (RX12_part : ab_X → (Int32 → ab_X → Prop) → Prop) (RX12_unit : ab_X → (Int32 → ab_X → Prop) → Prop) (v1 : Int32)  (x : ab_X) (K : Int32 → ab_X → Prop)  (d bc bs : Nat) (hdp : 1 ≤ d) (dr : Nat) (hRX12_condition : ∀   (x : ab_X) (K : Int32 → ab_X → Prop), RX12_condition  x K → EW MX12_condition 0 [(0, .ref 246)] [] (aS x) dr 0 0 (liI K)) (hRX12_part : ∀   (x : ab_X) (K : Int32 → ab_X → Prop), RX12_part  x K → EW MX12_part 0 [(0, .ref 246)] [] (aS x) dr 0 0 (liI K)) (hRX12_unit : ∀   (x : ab_X) (K : Int32 → ab_X → Prop), RX12_unit  x K → EW MX12_unit 0 [(0, .ref 246)] [] (aS x) dr 0 0 (liI K)) (hdr : dr + 1 ≤ d)  (h : Lp2 (lX12_condition_5 RX12_condition RX12_part RX12_unit  K ) v1 x) : EW MX12_condition 5 [(0, .ref 246), (1, .int v1)] [] (aS x) d bc bs (liI K) := by
  refine Lp2.use (P := fun v1 x => EW MX12_condition 5 [(0, .ref 246), (1, .int v1)] [] (aS x) d bc bs (liI K)) (fun L5 v1 x hL5 h => ?_) v1 x h
  unfold lX12_condition_5 at h
  refine EW_aload_n (pc2 := 6) rfl dX12_condition_5 0 rfl ?_
  refine AW_geti ⟨gfRX12_432, rfl⟩ (pc2 := 9) rfl dX12_condition_6 q246 ?_
  refine EW_iconst (pc2 := 10) (v := (-1)) rfl dX12_condition_9 (by decide) ?_
  refine EW_icmp_ne (tgt := 54) (pc2 := 13) rfl dX12_condition_10 (by decide) (fun q => ?_) (fun q => ?_)
  · replace h := h.1 q
    refine EW_iload_n (pc2 := 55) rfl dX12_condition_54 1 rfl ?_
    obtain ⟨z3, h⟩ := h
    exact AW_zret rfl z3 dX12_condition_55 ⟨_, _, rfl, rfl, h⟩
  · replace h := h.2 q
    refine EW_aload_n (pc2 := 14) rfl dX12_condition_13 0 rfl ?_
    refine AW_invV (M' := MX12_look) [] (rest := []) mlRX12_442 okX12_look (pc2 := 17) rfl dX12_condition_14 rfl rfl (Nat.le_of_ble_eq_true rfl) (Nat.le_of_ble_eq_true rfl) (d' := 0) (by omega) q246 ⟨by decide, rfl⟩ (EW_mono (fun _ _ hr => ?_) (sX12_look   x _ _ 0 0 (Nat.le_refl _) h))
    obtain ⟨r4, x5, rfl, rfl, h⟩ := hr
    refine EW_bipush (pc2 := 19) (v := 124) rfl dX12_condition_17 (by decide) ?_
    refine EW_icmp_ne (tgt := 54) (pc2 := 22) rfl dX12_condition_19 (by decide) (fun q => ?_) (fun q => ?_)
    · replace h := h.1 q
      refine EW_iload_n (pc2 := 55) rfl dX12_condition_54 1 rfl ?_
      obtain ⟨z6, h⟩ := h
      exact AW_zret rfl z6 dX12_condition_55 ⟨_, _, rfl, rfl, h⟩
    · replace h := h.2 q
      refine EW_aload_n (pc2 := 23) rfl dX12_condition_22 0 rfl ?_
      refine EW_dup (pc2 := 24) rfl dX12_condition_23 rfl ?_
      refine AW_geti ⟨gfRX12_423, rfl⟩ (pc2 := 27) rfl dX12_condition_24 q246 ?_
      refine EW_iconst (pc2 := 28) (v := 1) rfl dX12_condition_27 (by decide) ?_
      refine EW_iadd (pc2 := 29) rfl dX12_condition_28 ?_
      refine AW_puti ⟨gfRX12_423, rfl, rfl⟩ (pc2 := 32) rfl dX12_condition_29 q246 ?_
      refine EW_aload_n (pc2 := 33) rfl dX12_condition_32 0 rfl ?_
      refine AW_invV (M' := MX12_part) [] (rest := []) mlRX12_491 okX12_part (pc2 := 36) rfl dX12_condition_33 rfl rfl (Nat.le_of_ble_eq_true rfl) (Nat.le_of_ble_eq_true rfl) (d' := dr) (by omega) q246 ⟨by decide, rfl⟩ (EW_mono (fun _ _ hr => ?_) (hRX12_part   (wr x5 246 80 ((x5.1 246 80) + 1)) _  h))
      obtain ⟨r7, x8, rfl, rfl, h⟩ := hr
      refine EW_istore_n (pc2 := 37) rfl dX12_condition_36 (by decide) [1, 2, 0] [(0, .ref 246), (1, .int v1), (2, .int r7)] rfl ?_
      refine EW_iload_n (pc2 := 38) rfl dX12_condition_37 1 rfl ?_
      refine EW_if_ne (tgt := 45) (pc2 := 41) rfl dX12_condition_38 (by decide) (fun q => ?_) (fun q => ?_)
      · replace h := h.1 q
        refine EW_ls [0] rfl ?_
        exact sX12_condition_45 RX12_condition RX12_part RX12_unit  x8 K L5 d bc bs hdp dr hRX12_condition hRX12_part hRX12_unit hdr hL5 h
      · replace h := h.2 q
        refine EW_iload_n (pc2 := 42) rfl dX12_condition_41 2 rfl ?_
        refine EW_if_eq (tgt := 49) (pc2 := 45) rfl dX12_condition_42 (by decide) (fun q => ?_) (fun q => ?_)
        · replace h := h.1 q
          refine EW_iconst (pc2 := 50) (v := 0) rfl dX12_condition_49 (by decide) ?_
          refine EW_istore_n (pc2 := 51) rfl dX12_condition_50 (by decide) [1, 0, 2] [(0, .ref 246), (1, .int 0), (2, .int r7)] rfl ?_
          refine EW_goto (tgt := 5) dX12_condition_51 (by decide) ?_
          refine EW_ls [0, 1] rfl ?_
          exact hL5 0 x8 h
        · replace h := h.2 q
          refine EW_ls [0] rfl ?_
          exact sX12_condition_45 RX12_condition RX12_part RX12_unit  x8 K L5 d bc bs hdp dr hRX12_condition hRX12_part hRX12_unit hdr hL5 h
set_option maxHeartbeats 4000000 in
set_option maxRecDepth 100000 in
def bX12_condition (RX12_condition : ab_X → (Int32 → ab_X → Prop) → Prop) (RX12_part : ab_X → (Int32 → ab_X → Prop) → Prop) (RX12_unit : ab_X → (Int32 → ab_X → Prop) → Prop)  (x : ab_X) (K : Int32 → ab_X → Prop) : Prop := RX12_part x (fun r1 x2 => Lp2 (lX12_condition_5 RX12_condition RX12_part RX12_unit K ) r1 x2)
set_option maxHeartbeats 4000000 in
set_option maxRecDepth 100000 in
theorem bsX12_condition (RX12_condition : ab_X → (Int32 → ab_X → Prop) → Prop) (RX12_part : ab_X → (Int32 → ab_X → Prop) → Prop) (RX12_unit : ab_X → (Int32 → ab_X → Prop) → Prop)   (x : ab_X) (K : Int32 → ab_X → Prop) (d bc bs : Nat) (hdp : 1 ≤ d) (dr : Nat) (hRX12_condition : ∀   (x : ab_X) (K : Int32 → ab_X → Prop), RX12_condition  x K → EW MX12_condition 0 [(0, .ref 246)] [] (aS x) dr 0 0 (liI K)) (hRX12_part : ∀   (x : ab_X) (K : Int32 → ab_X → Prop), RX12_part  x K → EW MX12_part 0 [(0, .ref 246)] [] (aS x) dr 0 0 (liI K)) (hRX12_unit : ∀   (x : ab_X) (K : Int32 → ab_X → Prop), RX12_unit  x K → EW MX12_unit 0 [(0, .ref 246)] [] (aS x) dr 0 0 (liI K)) (hdr : dr + 1 ≤ d) (h : bX12_condition RX12_condition RX12_part RX12_unit  x K) : EW MX12_condition 0 [(0, .ref 246)] [] (aS x) d bc bs (liI K) := by
  unfold bX12_condition at h
  refine EW_aload_n (pc2 := 1) rfl dX12_condition_0 0 rfl ?_
  refine AW_invV (M' := MX12_part) [] (rest := []) mlRX12_491 okX12_part (pc2 := 4) rfl dX12_condition_1 rfl rfl (Nat.le_of_ble_eq_true rfl) (Nat.le_of_ble_eq_true rfl) (d' := dr) (by omega) q246 ⟨by decide, rfl⟩ (EW_mono (fun _ _ hr => ?_) (hRX12_part   x _  h))
  obtain ⟨r1, x2, rfl, rfl, h⟩ := hr
  refine EW_istore_n (pc2 := 5) rfl dX12_condition_4 (by decide) [1, 0] [(0, .ref 246), (1, .int r1)] rfl ?_
  exact sX12_condition_5 RX12_condition RX12_part RX12_unit r1 x2 K d bc bs hdp dr hRX12_condition hRX12_part hRX12_unit hdr h
set_option maxHeartbeats 4000000 in
set_option maxRecDepth 100000 in
def lX12_part_5 (RX12_condition : ab_X → (Int32 → ab_X → Prop) → Prop) (RX12_part : ab_X → (Int32 → ab_X → Prop) → Prop) (RX12_unit : ab_X → (Int32 → ab_X → Prop) → Prop)  (K : Int32 → ab_X → Prop)  (L5 : Int32 → ab_X → Prop) (v1 : Int32) (x : ab_X) : Prop := ((¬ (x.1 246 81) = (-1) → (isB v1 ∧ K v1 x)) ∧ ((x.1 246 81) = (-1) → wX12_look x (fun r4 x5 => ((¬ r4 = 38 → (isB v1 ∧ K v1 x5)) ∧ (r4 = 38 → RX12_unit (wr x5 246 80 ((x5.1 246 80) + 1)) (fun r7 x8 => ((v1 = 0 → L5 0 x8) ∧ (¬ v1 = 0 → ((r7 = 0 → L5 0 x8) ∧ (¬ r7 = 0 → L5 1 x8))))))))))
set_option maxHeartbeats 4000000 in
set_option maxRecDepth 100000 in
theorem sX12_part_5 (RX12_condition : ab_X → (Int32 → ab_X → Prop) → Prop) (RX12_part : ab_X → (Int32 → ab_X → Prop) → Prop) (RX12_unit : ab_X → (Int32 → ab_X → Prop) → Prop) (v1 : Int32)  (x : ab_X) (K : Int32 → ab_X → Prop)  (d bc bs : Nat) (hdp : 1 ≤ d) (dr : Nat) (hRX12_condition : ∀   (x : ab_X) (K : Int32 → ab_X → Prop), RX12_condition  x K → EW MX12_condition 0 [(0, .ref 246)] [] (aS x) dr 0 0 (liI K)) (hRX12_part : ∀   (x : ab_X) (K : Int32 → ab_X → Prop), RX12_part  x K → EW MX12_part 0 [(0, .ref 246)] [] (aS x) dr 0 0 (liI K)) (hRX12_unit : ∀   (x : ab_X) (K : Int32 → ab_X → Prop), RX12_unit  x K → EW MX12_unit 0 [(0, .ref 246)] [] (aS x) dr 0 0 (liI K)) (hdr : dr + 1 ≤ d)  (h : Lp2 (lX12_part_5 RX12_condition RX12_part RX12_unit  K ) v1 x) : EW MX12_part 5 [(0, .ref 246), (1, .int v1)] [] (aS x) d bc bs (liI K) := by
  refine Lp2.use (P := fun v1 x => EW MX12_part 5 [(0, .ref 246), (1, .int v1)] [] (aS x) d bc bs (liI K)) (fun L5 v1 x hL5 h => ?_) v1 x h
  unfold lX12_part_5 at h
  refine EW_aload_n (pc2 := 6) rfl dX12_part_5 0 rfl ?_
  refine AW_geti ⟨gfRX12_432, rfl⟩ (pc2 := 9) rfl dX12_part_6 q246 ?_
  refine EW_iconst (pc2 := 10) (v := (-1)) rfl dX12_part_9 (by decide) ?_
  refine EW_icmp_ne (tgt := 54) (pc2 := 13) rfl dX12_part_10 (by decide) (fun q => ?_) (fun q => ?_)
  · replace h := h.1 q
    refine EW_iload_n (pc2 := 55) rfl dX12_part_54 1 rfl ?_
    obtain ⟨z3, h⟩ := h
    exact AW_zret rfl z3 dX12_part_55 ⟨_, _, rfl, rfl, h⟩
  · replace h := h.2 q
    refine EW_aload_n (pc2 := 14) rfl dX12_part_13 0 rfl ?_
    refine AW_invV (M' := MX12_look) [] (rest := []) mlRX12_442 okX12_look (pc2 := 17) rfl dX12_part_14 rfl rfl (Nat.le_of_ble_eq_true rfl) (Nat.le_of_ble_eq_true rfl) (d' := 0) (by omega) q246 ⟨by decide, rfl⟩ (EW_mono (fun _ _ hr => ?_) (sX12_look   x _ _ 0 0 (Nat.le_refl _) h))
    obtain ⟨r4, x5, rfl, rfl, h⟩ := hr
    refine EW_bipush (pc2 := 19) (v := 38) rfl dX12_part_17 (by decide) ?_
    refine EW_icmp_ne (tgt := 54) (pc2 := 22) rfl dX12_part_19 (by decide) (fun q => ?_) (fun q => ?_)
    · replace h := h.1 q
      refine EW_iload_n (pc2 := 55) rfl dX12_part_54 1 rfl ?_
      obtain ⟨z6, h⟩ := h
      exact AW_zret rfl z6 dX12_part_55 ⟨_, _, rfl, rfl, h⟩
    · replace h := h.2 q
      refine EW_aload_n (pc2 := 23) rfl dX12_part_22 0 rfl ?_
      refine EW_dup (pc2 := 24) rfl dX12_part_23 rfl ?_
      refine AW_geti ⟨gfRX12_423, rfl⟩ (pc2 := 27) rfl dX12_part_24 q246 ?_
      refine EW_iconst (pc2 := 28) (v := 1) rfl dX12_part_27 (by decide) ?_
      refine EW_iadd (pc2 := 29) rfl dX12_part_28 ?_
      refine AW_puti ⟨gfRX12_423, rfl, rfl⟩ (pc2 := 32) rfl dX12_part_29 q246 ?_
      refine EW_aload_n (pc2 := 33) rfl dX12_part_32 0 rfl ?_
      refine AW_invV (M' := MX12_unit) [] (rest := []) mlRX12_485 okX12_unit (pc2 := 36) rfl dX12_part_33 rfl rfl (Nat.le_of_ble_eq_true rfl) (Nat.le_of_ble_eq_true rfl) (d' := dr) (by omega) q246 ⟨by decide, rfl⟩ (EW_mono (fun _ _ hr => ?_) (hRX12_unit   (wr x5 246 80 ((x5.1 246 80) + 1)) _  h))
      obtain ⟨r7, x8, rfl, rfl, h⟩ := hr
      refine EW_istore_n (pc2 := 37) rfl dX12_part_36 (by decide) [1, 2, 0] [(0, .ref 246), (1, .int v1), (2, .int r7)] rfl ?_
      refine EW_iload_n (pc2 := 38) rfl dX12_part_37 1 rfl ?_
      refine EW_if_eq (tgt := 49) (pc2 := 41) rfl dX12_part_38 (by decide) (fun q => ?_) (fun q => ?_)
      · replace h := h.1 q
        refine EW_iconst (pc2 := 50) (v := 0) rfl dX12_part_49 (by decide) ?_
        refine EW_istore_n (pc2 := 51) rfl dX12_part_50 (by decide) [1, 0, 2] [(0, .ref 246), (1, .int 0), (2, .int r7)] rfl ?_
        refine EW_goto (tgt := 5) dX12_part_51 (by decide) ?_
        refine EW_ls [0, 1] rfl ?_
        exact hL5 0 x8 h
      · replace h := h.2 q
        refine EW_iload_n (pc2 := 42) rfl dX12_part_41 2 rfl ?_
        refine EW_if_eq (tgt := 49) (pc2 := 45) rfl dX12_part_42 (by decide) (fun q => ?_) (fun q => ?_)
        · replace h := h.1 q
          refine EW_iconst (pc2 := 50) (v := 0) rfl dX12_part_49 (by decide) ?_
          refine EW_istore_n (pc2 := 51) rfl dX12_part_50 (by decide) [1, 0, 2] [(0, .ref 246), (1, .int 0), (2, .int r7)] rfl ?_
          refine EW_goto (tgt := 5) dX12_part_51 (by decide) ?_
          refine EW_ls [0, 1] rfl ?_
          exact hL5 0 x8 h
        · replace h := h.2 q
          refine EW_iconst (pc2 := 46) (v := 1) rfl dX12_part_45 (by decide) ?_
          refine EW_goto (tgt := 50) dX12_part_46 (by decide) ?_
          refine EW_istore_n (pc2 := 51) rfl dX12_part_50 (by decide) [1, 0, 2] [(0, .ref 246), (1, .int 1), (2, .int r7)] rfl ?_
          refine EW_goto (tgt := 5) dX12_part_51 (by decide) ?_
          refine EW_ls [0, 1] rfl ?_
          exact hL5 1 x8 h
set_option maxHeartbeats 4000000 in
set_option maxRecDepth 100000 in
def bX12_part (RX12_condition : ab_X → (Int32 → ab_X → Prop) → Prop) (RX12_part : ab_X → (Int32 → ab_X → Prop) → Prop) (RX12_unit : ab_X → (Int32 → ab_X → Prop) → Prop)  (x : ab_X) (K : Int32 → ab_X → Prop) : Prop := RX12_unit x (fun r1 x2 => Lp2 (lX12_part_5 RX12_condition RX12_part RX12_unit K ) r1 x2)
set_option maxHeartbeats 4000000 in
set_option maxRecDepth 100000 in
theorem bsX12_part (RX12_condition : ab_X → (Int32 → ab_X → Prop) → Prop) (RX12_part : ab_X → (Int32 → ab_X → Prop) → Prop) (RX12_unit : ab_X → (Int32 → ab_X → Prop) → Prop)   (x : ab_X) (K : Int32 → ab_X → Prop) (d bc bs : Nat) (hdp : 1 ≤ d) (dr : Nat) (hRX12_condition : ∀   (x : ab_X) (K : Int32 → ab_X → Prop), RX12_condition  x K → EW MX12_condition 0 [(0, .ref 246)] [] (aS x) dr 0 0 (liI K)) (hRX12_part : ∀   (x : ab_X) (K : Int32 → ab_X → Prop), RX12_part  x K → EW MX12_part 0 [(0, .ref 246)] [] (aS x) dr 0 0 (liI K)) (hRX12_unit : ∀   (x : ab_X) (K : Int32 → ab_X → Prop), RX12_unit  x K → EW MX12_unit 0 [(0, .ref 246)] [] (aS x) dr 0 0 (liI K)) (hdr : dr + 1 ≤ d) (h : bX12_part RX12_condition RX12_part RX12_unit  x K) : EW MX12_part 0 [(0, .ref 246)] [] (aS x) d bc bs (liI K) := by
  unfold bX12_part at h
  refine EW_aload_n (pc2 := 1) rfl dX12_part_0 0 rfl ?_
  refine AW_invV (M' := MX12_unit) [] (rest := []) mlRX12_485 okX12_unit (pc2 := 4) rfl dX12_part_1 rfl rfl (Nat.le_of_ble_eq_true rfl) (Nat.le_of_ble_eq_true rfl) (d' := dr) (by omega) q246 ⟨by decide, rfl⟩ (EW_mono (fun _ _ hr => ?_) (hRX12_unit   x _  h))
  obtain ⟨r1, x2, rfl, rfl, h⟩ := hr
  refine EW_istore_n (pc2 := 5) rfl dX12_part_4 (by decide) [1, 0] [(0, .ref 246), (1, .int r1)] rfl ?_
  exact sX12_part_5 RX12_condition RX12_part RX12_unit r1 x2 K d bc bs hdp dr hRX12_condition hRX12_part hRX12_unit hdr h
set_option maxHeartbeats 4000000 in
set_option maxRecDepth 100000 in
def wX12_unit_131 (RX12_condition : ab_X → (Int32 → ab_X → Prop) → Prop) (RX12_part : ab_X → (Int32 → ab_X → Prop) → Prop) (RX12_unit : ab_X → (Int32 → ab_X → Prop) → Prop) (v2 : Int32) (v3 : Int32) (x : ab_X) (K : Int32 → ab_X → Prop)  : Prop := wX12_sums (wr x 246 80 ((x.1 246 80) + 1)) (fun r21 x22 => ((¬ v3 = 61 → ((¬ v3 = 60 → ((v2 ≤ r21 → K 0 x22) ∧ (¬ v2 ≤ r21 → K 1 x22))) ∧ (v3 = 60 → ((r21 ≤ v2 → K 0 x22) ∧ (¬ r21 ≤ v2 → K 1 x22))))) ∧ (v3 = 61 → ((¬ v2 = r21 → K 0 x22) ∧ (v2 = r21 → K 1 x22)))))
set_option maxHeartbeats 4000000 in
set_option maxRecDepth 100000 in
theorem sX12_unit_131 (RX12_condition : ab_X → (Int32 → ab_X → Prop) → Prop) (RX12_part : ab_X → (Int32 → ab_X → Prop) → Prop) (RX12_unit : ab_X → (Int32 → ab_X → Prop) → Prop) (v2 : Int32) (v3 : Int32)  (x : ab_X) (K : Int32 → ab_X → Prop)  (d bc bs : Nat) (hdp : 106 ≤ d) (dr : Nat) (hRX12_condition : ∀   (x : ab_X) (K : Int32 → ab_X → Prop), RX12_condition  x K → EW MX12_condition 0 [(0, .ref 246)] [] (aS x) dr 0 0 (liI K)) (hRX12_part : ∀   (x : ab_X) (K : Int32 → ab_X → Prop), RX12_part  x K → EW MX12_part 0 [(0, .ref 246)] [] (aS x) dr 0 0 (liI K)) (hRX12_unit : ∀   (x : ab_X) (K : Int32 → ab_X → Prop), RX12_unit  x K → EW MX12_unit 0 [(0, .ref 246)] [] (aS x) dr 0 0 (liI K)) (hdr : dr + 1 ≤ d)  (h : wX12_unit_131 RX12_condition RX12_part RX12_unit v2 v3 x K ) : EW MX12_unit 131 [(0, .ref 246), (2, .int v2), (3, .int v3)] [] (aS x) d bc bs (liI K) := by
  unfold wX12_unit_131 at h
  refine EW_aload_n (pc2 := 132) rfl dX12_unit_131 0 rfl ?_
  refine EW_dup (pc2 := 133) rfl dX12_unit_132 rfl ?_
  refine AW_geti ⟨gfRX12_423, rfl⟩ (pc2 := 136) rfl dX12_unit_133 q246 ?_
  refine EW_iconst (pc2 := 137) (v := 1) rfl dX12_unit_136 (by decide) ?_
  refine EW_iadd (pc2 := 138) rfl dX12_unit_137 ?_
  refine AW_puti ⟨gfRX12_423, rfl, rfl⟩ (pc2 := 141) rfl dX12_unit_138 q246 ?_
  refine EW_aload_n (pc2 := 142) rfl dX12_unit_141 0 rfl ?_
  refine AW_invV (M' := MX12_sums) [] (rest := []) mlRX12_469 okX12_sums (pc2 := 145) rfl dX12_unit_142 rfl rfl (Nat.le_of_ble_eq_true rfl) (Nat.le_of_ble_eq_true rfl) (d' := 105) (by omega) q246 ⟨by decide, rfl⟩ (EW_mono (fun _ _ hr => ?_) (sX12_sums   (wr x 246 80 ((x.1 246 80) + 1)) _ _ 0 0 (Nat.le_refl _) h))
  obtain ⟨r21, x22, rfl, rfl, h⟩ := hr
  refine EW_istore (pc2 := 147) rfl dX12_unit_145 (by decide) [1, 2, 3, 0] [(0, .ref 246), (2, .int v2), (3, .int v3), (4, .int r21)] rfl ?_
  refine EW_iload_n (pc2 := 148) rfl dX12_unit_147 2 rfl ?_
  refine EW_bipush (pc2 := 150) (v := 61) rfl dX12_unit_148 (by decide) ?_
  refine EW_icmp_ne (tgt := 167) (pc2 := 153) rfl dX12_unit_150 (by decide) (fun q => ?_) (fun q => ?_)
  · replace h := h.1 q
    refine EW_iload_n (pc2 := 168) rfl dX12_unit_167 2 rfl ?_
    refine EW_bipush (pc2 := 170) (v := 60) rfl dX12_unit_168 (by decide) ?_
    refine EW_icmp_ne (tgt := 187) (pc2 := 173) rfl dX12_unit_170 (by decide) (fun q => ?_) (fun q => ?_)
    · replace h := h.1 q
      refine EW_iload_n (pc2 := 188) rfl dX12_unit_187 1 rfl ?_
      refine EW_iload (pc2 := 190) rfl dX12_unit_188 3 rfl ?_
      refine EW_icmp_le (tgt := 197) (pc2 := 193) rfl dX12_unit_190 (by decide) (fun q => ?_) (fun q => ?_)
      · replace h := h.1 q
        refine EW_iconst (pc2 := 198) (v := 0) rfl dX12_unit_197 (by decide) ?_
        exact AW_zret rfl isB0 dX12_unit_198 ⟨_, _, rfl, rfl, h⟩
      · replace h := h.2 q
        refine EW_iconst (pc2 := 194) (v := 1) rfl dX12_unit_193 (by decide) ?_
        refine EW_goto (tgt := 198) dX12_unit_194 (by decide) ?_
        exact AW_zret rfl isB1 dX12_unit_198 ⟨_, _, rfl, rfl, h⟩
    · replace h := h.2 q
      refine EW_iload_n (pc2 := 174) rfl dX12_unit_173 1 rfl ?_
      refine EW_iload (pc2 := 176) rfl dX12_unit_174 3 rfl ?_
      refine EW_icmp_ge (tgt := 183) (pc2 := 179) rfl dX12_unit_176 (by decide) (fun q => ?_) (fun q => ?_)
      · replace h := h.1 q
        refine EW_iconst (pc2 := 184) (v := 0) rfl dX12_unit_183 (by decide) ?_
        refine EW_goto (tgt := 198) dX12_unit_184 (by decide) ?_
        exact AW_zret rfl isB0 dX12_unit_198 ⟨_, _, rfl, rfl, h⟩
      · replace h := h.2 q
        refine EW_iconst (pc2 := 180) (v := 1) rfl dX12_unit_179 (by decide) ?_
        refine EW_goto (tgt := 198) dX12_unit_180 (by decide) ?_
        exact AW_zret rfl isB1 dX12_unit_198 ⟨_, _, rfl, rfl, h⟩
  · replace h := h.2 q
    refine EW_iload_n (pc2 := 154) rfl dX12_unit_153 1 rfl ?_
    refine EW_iload (pc2 := 156) rfl dX12_unit_154 3 rfl ?_
    refine EW_icmp_ne (tgt := 163) (pc2 := 159) rfl dX12_unit_156 (by decide) (fun q => ?_) (fun q => ?_)
    · replace h := h.1 q
      refine EW_iconst (pc2 := 164) (v := 0) rfl dX12_unit_163 (by decide) ?_
      refine EW_goto (tgt := 198) dX12_unit_164 (by decide) ?_
      exact AW_zret rfl isB0 dX12_unit_198 ⟨_, _, rfl, rfl, h⟩
    · replace h := h.2 q
      refine EW_iconst (pc2 := 160) (v := 1) rfl dX12_unit_159 (by decide) ?_
      refine EW_goto (tgt := 198) dX12_unit_160 (by decide) ?_
      exact AW_zret rfl isB1 dX12_unit_198 ⟨_, _, rfl, rfl, h⟩
set_option maxHeartbeats 4000000 in
set_option maxRecDepth 100000 in
def bX12_unit (RX12_condition : ab_X → (Int32 → ab_X → Prop) → Prop) (RX12_part : ab_X → (Int32 → ab_X → Prop) → Prop) (RX12_unit : ab_X → (Int32 → ab_X → Prop) → Prop)  (x : ab_X) (K : Int32 → ab_X → Prop) : Prop := wX12_look x (fun r1 x2 => ((¬ r1 = 33 → ((¬ r1 = 40 → wX12_sums x2 (fun r3 x4 => (((x4.1 246 81) = (-1) → wX12_look x4 (fun r5 x6 => ((r5 = 61 → wX12_unit_131 RX12_condition RX12_part RX12_unit r3 r5 x6 K) ∧ (¬ r5 = 61 → ((r5 = 60 → wX12_unit_131 RX12_condition RX12_part RX12_unit r3 r5 x6 K) ∧ (¬ r5 = 60 → ((r5 = 62 → wX12_unit_131 RX12_condition RX12_part RX12_unit r3 r5 x6 K) ∧ (¬ r5 = 62 → wX12_stop x6 (fun r7 x8 => (isB r7 ∧ K r7 x8)))))))))) ∧ (¬ (x4.1 246 81) = (-1) → K 0 x4)))) ∧ (r1 = 40 → wX12_goesIn x2 (fun r10 x11 => ((¬ r10 = 0 → RX12_condition x11 (fun r12 x13 => wX12_takes 41 x13 (fun r14 x15 => ((¬ r14 = 0 → (isB r12 ∧ K r12 (wr x15 246 82 ((x15.1 246 82) - 1)))) ∧ (r14 = 0 → K 0 x15))))) ∧ (r10 = 0 → K 0 x11)))))) ∧ (r1 = 33 → wX12_goesIn x2 (fun r17 x18 => ((¬ r17 = 0 → RX12_unit x18 (fun r19 x20 => ((¬ r19 = 0 → K 0 (wr x20 246 82 ((x20.1 246 82) - 1))) ∧ (r19 = 0 → K 1 (wr x20 246 82 ((x20.1 246 82) - 1)))))) ∧ (r17 = 0 → K 0 x18))))))
set_option maxHeartbeats 4000000 in
set_option maxRecDepth 100000 in
theorem bsX12_unit (RX12_condition : ab_X → (Int32 → ab_X → Prop) → Prop) (RX12_part : ab_X → (Int32 → ab_X → Prop) → Prop) (RX12_unit : ab_X → (Int32 → ab_X → Prop) → Prop)   (x : ab_X) (K : Int32 → ab_X → Prop) (d bc bs : Nat) (hdp : 106 ≤ d) (dr : Nat) (hRX12_condition : ∀   (x : ab_X) (K : Int32 → ab_X → Prop), RX12_condition  x K → EW MX12_condition 0 [(0, .ref 246)] [] (aS x) dr 0 0 (liI K)) (hRX12_part : ∀   (x : ab_X) (K : Int32 → ab_X → Prop), RX12_part  x K → EW MX12_part 0 [(0, .ref 246)] [] (aS x) dr 0 0 (liI K)) (hRX12_unit : ∀   (x : ab_X) (K : Int32 → ab_X → Prop), RX12_unit  x K → EW MX12_unit 0 [(0, .ref 246)] [] (aS x) dr 0 0 (liI K)) (hdr : dr + 1 ≤ d) (h : bX12_unit RX12_condition RX12_part RX12_unit  x K) : EW MX12_unit 0 [(0, .ref 246)] [] (aS x) d bc bs (liI K) := by
  unfold bX12_unit at h
  refine EW_aload_n (pc2 := 1) rfl dX12_unit_0 0 rfl ?_
  refine AW_invV (M' := MX12_look) [] (rest := []) mlRX12_442 okX12_look (pc2 := 4) rfl dX12_unit_1 rfl rfl (Nat.le_of_ble_eq_true rfl) (Nat.le_of_ble_eq_true rfl) (d' := 0) (by omega) q246 ⟨by decide, rfl⟩ (EW_mono (fun _ _ hr => ?_) (sX12_look   x _ _ 0 0 (Nat.le_refl _) h))
  obtain ⟨r1, x2, rfl, rfl, h⟩ := hr
  refine EW_istore_n (pc2 := 5) rfl dX12_unit_4 (by decide) [1, 0] [(0, .ref 246), (1, .int r1)] rfl ?_
  refine EW_iload_n (pc2 := 6) rfl dX12_unit_5 1 rfl ?_
  refine EW_bipush (pc2 := 8) (v := 33) rfl dX12_unit_6 (by decide) ?_
  refine EW_icmp_ne (tgt := 45) (pc2 := 11) rfl dX12_unit_8 (by decide) (fun q => ?_) (fun q => ?_)
  · replace h := h.1 q
    refine EW_iload_n (pc2 := 46) rfl dX12_unit_45 1 rfl ?_
    refine EW_bipush (pc2 := 48) (v := 40) rfl dX12_unit_46 (by decide) ?_
    refine EW_icmp_ne (tgt := 88) (pc2 := 51) rfl dX12_unit_48 (by decide) (fun q => ?_) (fun q => ?_)
    · replace h := h.1 q
      refine EW_aload_n (pc2 := 89) rfl dX12_unit_88 0 rfl ?_
      refine AW_invV (M' := MX12_sums) [] (rest := []) mlRX12_469 okX12_sums (pc2 := 92) rfl dX12_unit_89 rfl rfl (Nat.le_of_ble_eq_true rfl) (Nat.le_of_ble_eq_true rfl) (d' := 105) (by omega) q246 ⟨by decide, rfl⟩ (EW_mono (fun _ _ hr => ?_) (sX12_sums   x2 _ _ 0 0 (Nat.le_refl _) h))
      obtain ⟨r3, x4, rfl, rfl, h⟩ := hr
      refine EW_istore_n (pc2 := 93) rfl dX12_unit_92 (by decide) [1, 2, 0] [(0, .ref 246), (1, .int r1), (2, .int r3)] rfl ?_
      refine EW_aload_n (pc2 := 94) rfl dX12_unit_93 0 rfl ?_
      refine AW_geti ⟨gfRX12_432, rfl⟩ (pc2 := 97) rfl dX12_unit_94 q246 ?_
      refine EW_iconst (pc2 := 98) (v := (-1)) rfl dX12_unit_97 (by decide) ?_
      refine EW_icmp_eq (tgt := 103) (pc2 := 101) rfl dX12_unit_98 (by decide) (fun q => ?_) (fun q => ?_)
      · replace h := h.1 q
        refine EW_aload_n (pc2 := 104) rfl dX12_unit_103 0 rfl ?_
        refine AW_invV (M' := MX12_look) [] (rest := []) mlRX12_442 okX12_look (pc2 := 107) rfl dX12_unit_104 rfl rfl (Nat.le_of_ble_eq_true rfl) (Nat.le_of_ble_eq_true rfl) (d' := 0) (by omega) q246 ⟨by decide, rfl⟩ (EW_mono (fun _ _ hr => ?_) (sX12_look   x4 _ _ 0 0 (Nat.le_refl _) h))
        obtain ⟨r5, x6, rfl, rfl, h⟩ := hr
        refine EW_istore_n (pc2 := 108) rfl dX12_unit_107 (by decide) [1, 2, 3, 0] [(0, .ref 246), (1, .int r1), (2, .int r3), (3, .int r5)] rfl ?_
        refine EW_iload_n (pc2 := 109) rfl dX12_unit_108 3 rfl ?_
        refine EW_bipush (pc2 := 111) (v := 61) rfl dX12_unit_109 (by decide) ?_
        refine EW_icmp_eq (tgt := 131) (pc2 := 114) rfl dX12_unit_111 (by decide) (fun q => ?_) (fun q => ?_)
        · replace h := h.1 q
          refine EW_ls [0, 2, 3] rfl ?_
          exact sX12_unit_131 RX12_condition RX12_part RX12_unit r3 r5 x6 K d bc bs hdp dr hRX12_condition hRX12_part hRX12_unit hdr h
        · replace h := h.2 q
          refine EW_iload_n (pc2 := 115) rfl dX12_unit_114 3 rfl ?_
          refine EW_bipush (pc2 := 117) (v := 60) rfl dX12_unit_115 (by decide) ?_
          refine EW_icmp_eq (tgt := 131) (pc2 := 120) rfl dX12_unit_117 (by decide) (fun q => ?_) (fun q => ?_)
          · replace h := h.1 q
            refine EW_ls [0, 2, 3] rfl ?_
            exact sX12_unit_131 RX12_condition RX12_part RX12_unit r3 r5 x6 K d bc bs hdp dr hRX12_condition hRX12_part hRX12_unit hdr h
          · replace h := h.2 q
            refine EW_iload_n (pc2 := 121) rfl dX12_unit_120 3 rfl ?_
            refine EW_bipush (pc2 := 123) (v := 62) rfl dX12_unit_121 (by decide) ?_
            refine EW_icmp_eq (tgt := 131) (pc2 := 126) rfl dX12_unit_123 (by decide) (fun q => ?_) (fun q => ?_)
            · replace h := h.1 q
              refine EW_ls [0, 2, 3] rfl ?_
              exact sX12_unit_131 RX12_condition RX12_part RX12_unit r3 r5 x6 K d bc bs hdp dr hRX12_condition hRX12_part hRX12_unit hdr h
            · replace h := h.2 q
              refine EW_aload_n (pc2 := 127) rfl dX12_unit_126 0 rfl ?_
              refine AW_invV (M' := MX12_stop) [] (rest := []) mlRX12_438 okX12_stop (pc2 := 130) rfl dX12_unit_127 rfl rfl (Nat.le_of_ble_eq_true rfl) (Nat.le_of_ble_eq_true rfl) (d' := 0) (by omega) q246 ⟨by decide, rfl⟩ (EW_mono (fun _ _ hr => ?_) (sX12_stop   x6 _ _ 0 0 (Nat.le_refl _) h))
              obtain ⟨r7, x8, rfl, rfl, h⟩ := hr
              obtain ⟨z9, h⟩ := h
              exact AW_zret rfl z9 dX12_unit_130 ⟨_, _, rfl, rfl, h⟩
      · replace h := h.2 q
        refine EW_iconst (pc2 := 102) (v := 0) rfl dX12_unit_101 (by decide) ?_
        exact AW_zret rfl isB0 dX12_unit_102 ⟨_, _, rfl, rfl, h⟩
    · replace h := h.2 q
      refine EW_aload_n (pc2 := 52) rfl dX12_unit_51 0 rfl ?_
      refine AW_invV (M' := MX12_goesIn) [] (rest := []) mlRX12_466 okX12_goesIn (pc2 := 55) rfl dX12_unit_52 rfl rfl (Nat.le_of_ble_eq_true rfl) (Nat.le_of_ble_eq_true rfl) (d' := 1) (by omega) q246 ⟨by decide, rfl⟩ (EW_mono (fun _ _ hr => ?_) (sX12_goesIn   x2 _ _ 0 0 (Nat.le_refl _) h))
      obtain ⟨r10, x11, rfl, rfl, h⟩ := hr
      refine EW_if_ne (tgt := 60) (pc2 := 58) rfl dX12_unit_55 (by decide) (fun q => ?_) (fun q => ?_)
      · replace h := h.1 q
        refine EW_aload_n (pc2 := 61) rfl dX12_unit_60 0 rfl ?_
        refine AW_invV (M' := MX12_condition) [] (rest := []) mlRX12_488 okX12_condition (pc2 := 64) rfl dX12_unit_61 rfl rfl (Nat.le_of_ble_eq_true rfl) (Nat.le_of_ble_eq_true rfl) (d' := dr) (by omega) q246 ⟨by decide, rfl⟩ (EW_mono (fun _ _ hr => ?_) (hRX12_condition   x11 _  h))
        obtain ⟨r12, x13, rfl, rfl, h⟩ := hr
        refine EW_istore_n (pc2 := 65) rfl dX12_unit_64 (by decide) [1, 2, 0] [(0, .ref 246), (1, .int r1), (2, .int r12)] rfl ?_
        refine EW_aload_n (pc2 := 66) rfl dX12_unit_65 0 rfl ?_
        refine EW_bipush (pc2 := 68) (v := 41) rfl dX12_unit_66 (by decide) ?_
        refine AW_invV (M' := MX12_takes) [.int 41] (rest := []) mlRX12_472 okX12_takes (pc2 := 71) rfl dX12_unit_68 rfl rfl (Nat.le_of_ble_eq_true rfl) (Nat.le_of_ble_eq_true rfl) (d' := 1) (by omega) q246 ⟨by decide, rfl⟩ (EW_mono (fun _ _ hr => ?_) (sX12_takes 41  x13 _ _ 0 0 (Nat.le_refl _) h))
        obtain ⟨r14, x15, rfl, rfl, h⟩ := hr
        refine EW_if_ne (tgt := 76) (pc2 := 74) rfl dX12_unit_71 (by decide) (fun q => ?_) (fun q => ?_)
        · replace h := h.1 q
          refine EW_aload_n (pc2 := 77) rfl dX12_unit_76 0 rfl ?_
          refine EW_dup (pc2 := 78) rfl dX12_unit_77 rfl ?_
          refine AW_geti ⟨gfRX12_435, rfl⟩ (pc2 := 81) rfl dX12_unit_78 q246 ?_
          refine EW_iconst (pc2 := 82) (v := 1) rfl dX12_unit_81 (by decide) ?_
          refine EW_isub (pc2 := 83) rfl dX12_unit_82 ?_
          refine AW_puti ⟨gfRX12_435, rfl, rfl⟩ (pc2 := 86) rfl dX12_unit_83 q246 ?_
          refine EW_iload_n (pc2 := 87) rfl dX12_unit_86 2 rfl ?_
          obtain ⟨z16, h⟩ := h
          exact AW_zret rfl z16 dX12_unit_87 ⟨_, _, rfl, rfl, h⟩
        · replace h := h.2 q
          refine EW_iconst (pc2 := 75) (v := 0) rfl dX12_unit_74 (by decide) ?_
          exact AW_zret rfl isB0 dX12_unit_75 ⟨_, _, rfl, rfl, h⟩
      · replace h := h.2 q
        refine EW_iconst (pc2 := 59) (v := 0) rfl dX12_unit_58 (by decide) ?_
        exact AW_zret rfl isB0 dX12_unit_59 ⟨_, _, rfl, rfl, h⟩
  · replace h := h.2 q
    refine EW_aload_n (pc2 := 12) rfl dX12_unit_11 0 rfl ?_
    refine AW_invV (M' := MX12_goesIn) [] (rest := []) mlRX12_466 okX12_goesIn (pc2 := 15) rfl dX12_unit_12 rfl rfl (Nat.le_of_ble_eq_true rfl) (Nat.le_of_ble_eq_true rfl) (d' := 1) (by omega) q246 ⟨by decide, rfl⟩ (EW_mono (fun _ _ hr => ?_) (sX12_goesIn   x2 _ _ 0 0 (Nat.le_refl _) h))
    obtain ⟨r17, x18, rfl, rfl, h⟩ := hr
    refine EW_if_ne (tgt := 20) (pc2 := 18) rfl dX12_unit_15 (by decide) (fun q => ?_) (fun q => ?_)
    · replace h := h.1 q
      refine EW_aload_n (pc2 := 21) rfl dX12_unit_20 0 rfl ?_
      refine AW_invV (M' := MX12_unit) [] (rest := []) mlRX12_485 okX12_unit (pc2 := 24) rfl dX12_unit_21 rfl rfl (Nat.le_of_ble_eq_true rfl) (Nat.le_of_ble_eq_true rfl) (d' := dr) (by omega) q246 ⟨by decide, rfl⟩ (EW_mono (fun _ _ hr => ?_) (hRX12_unit   x18 _  h))
      obtain ⟨r19, x20, rfl, rfl, h⟩ := hr
      refine EW_istore_n (pc2 := 25) rfl dX12_unit_24 (by decide) [1, 2, 0] [(0, .ref 246), (1, .int r1), (2, .int r19)] rfl ?_
      refine EW_aload_n (pc2 := 26) rfl dX12_unit_25 0 rfl ?_
      refine EW_dup (pc2 := 27) rfl dX12_unit_26 rfl ?_
      refine AW_geti ⟨gfRX12_435, rfl⟩ (pc2 := 30) rfl dX12_unit_27 q246 ?_
      refine EW_iconst (pc2 := 31) (v := 1) rfl dX12_unit_30 (by decide) ?_
      refine EW_isub (pc2 := 32) rfl dX12_unit_31 ?_
      refine AW_puti ⟨gfRX12_435, rfl, rfl⟩ (pc2 := 35) rfl dX12_unit_32 q246 ?_
      refine EW_iload_n (pc2 := 36) rfl dX12_unit_35 2 rfl ?_
      refine EW_if_ne (tgt := 43) (pc2 := 39) rfl dX12_unit_36 (by decide) (fun q => ?_) (fun q => ?_)
      · replace h := h.1 q
        refine EW_iconst (pc2 := 44) (v := 0) rfl dX12_unit_43 (by decide) ?_
        exact AW_zret rfl isB0 dX12_unit_44 ⟨_, _, rfl, rfl, h⟩
      · replace h := h.2 q
        refine EW_iconst (pc2 := 40) (v := 1) rfl dX12_unit_39 (by decide) ?_
        refine EW_goto (tgt := 44) dX12_unit_40 (by decide) ?_
        exact AW_zret rfl isB1 dX12_unit_44 ⟨_, _, rfl, rfl, h⟩
    · replace h := h.2 q
      refine EW_iconst (pc2 := 19) (v := 0) rfl dX12_unit_18 (by decide) ?_
      exact AW_zret rfl isB0 dX12_unit_19 ⟨_, _, rfl, rfl, h⟩
def famX12_condition : Nat → (ab_X → (Int32 → ab_X → Prop) → Prop) × (ab_X → (Int32 → ab_X → Prop) → Prop) × (ab_X → (Int32 → ab_X → Prop) → Prop)
  | 0 => ((fun  x K => False), (fun  x K => False), (fun  x K => False))
  | n + 1 => ((fun  x K => bX12_condition (famX12_condition n).1 (famX12_condition n).2.1 (famX12_condition n).2.2  x K), (fun  x K => bX12_part (famX12_condition n).1 (famX12_condition n).2.1 (famX12_condition n).2.2  x K), (fun  x K => bX12_unit (famX12_condition n).1 (famX12_condition n).2.1 (famX12_condition n).2.2  x K))
set_option maxHeartbeats 4000000 in
theorem famX12_conditionS : ∀ n, (∀   (x : ab_X) (K : Int32 → ab_X → Prop), (famX12_condition n).1  x K → EW MX12_condition 0 [(0, .ref 246)] [] (aS x) (106 + n) 0 0 (liI K)) ∧ (∀   (x : ab_X) (K : Int32 → ab_X → Prop), (famX12_condition n).2.1  x K → EW MX12_part 0 [(0, .ref 246)] [] (aS x) (106 + n) 0 0 (liI K)) ∧ (∀   (x : ab_X) (K : Int32 → ab_X → Prop), (famX12_condition n).2.2  x K → EW MX12_unit 0 [(0, .ref 246)] [] (aS x) (106 + n) 0 0 (liI K)) := by
  intro n
  induction n with
  | zero => exact ⟨fun   x K h => False.elim h, fun   x K h => False.elim h, fun   x K h => False.elim h⟩
  | succ n ih =>
    obtain ⟨i0, i1, i2⟩ := ih
    exact ⟨fun   x K h => bsX12_condition _ _ _   x K (106 + (n + 1)) 0 0 (by omega) (106 + n) i0 i1 i2 (by omega) h, fun   x K h => bsX12_part _ _ _   x K (106 + (n + 1)) 0 0 (by omega) (106 + n) i0 i1 i2 (by omega) h, fun   x K h => bsX12_unit _ _ _   x K (106 + (n + 1)) 0 0 (by omega) (106 + n) i0 i1 i2 (by omega) h⟩
def wX12_condition  (x : ab_X) (K : Int32 → ab_X → Prop) : Prop := ∃ n, n ≤ 100 ∧ (famX12_condition n).1  x K
theorem sX12_condition   (x : ab_X) (K : Int32 → ab_X → Prop) (d bc bs : Nat) (hdp : 207 ≤ d) (h : wX12_condition  x K) : EW MX12_condition 0 [(0, .ref 246)] [] (aS x) d bc bs (liI K) := by
  obtain ⟨n, hn, h⟩ := h
  cases n with
  | zero => exact False.elim h
  | succ n =>
    obtain ⟨i0, i1, i2⟩ := famX12_conditionS n
    exact bsX12_condition _ _ _   x K d bc bs (by omega) (106 + n) i0 i1 i2 (by omega) h
def wX12_part  (x : ab_X) (K : Int32 → ab_X → Prop) : Prop := ∃ n, n ≤ 100 ∧ (famX12_condition n).2.1  x K
theorem sX12_part   (x : ab_X) (K : Int32 → ab_X → Prop) (d bc bs : Nat) (hdp : 207 ≤ d) (h : wX12_part  x K) : EW MX12_part 0 [(0, .ref 246)] [] (aS x) d bc bs (liI K) := by
  obtain ⟨n, hn, h⟩ := h
  cases n with
  | zero => exact False.elim h
  | succ n =>
    obtain ⟨i0, i1, i2⟩ := famX12_conditionS n
    exact bsX12_part _ _ _   x K d bc bs (by omega) (106 + n) i0 i1 i2 (by omega) h
def wX12_unit  (x : ab_X) (K : Int32 → ab_X → Prop) : Prop := ∃ n, n ≤ 100 ∧ (famX12_condition n).2.2  x K
theorem sX12_unit   (x : ab_X) (K : Int32 → ab_X → Prop) (d bc bs : Nat) (hdp : 207 ≤ d) (h : wX12_unit  x K) : EW MX12_unit 0 [(0, .ref 246)] [] (aS x) d bc bs (liI K) := by
  obtain ⟨n, hn, h⟩ := h
  cases n with
  | zero => exact False.elim h
  | succ n =>
    obtain ⟨i0, i1, i2⟩ := famX12_conditionS n
    exact bsX12_unit _ _ _   x K d bc bs (by omega) (106 + n) i0 i1 i2 (by omega) h
