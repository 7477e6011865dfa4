abbrev MX12_house : ab_M := (yX12_house, cX12_house, 6, (some .int))
theorem dX12_house_0 : decode cX12_house 0 = .ok (.aload_n 0, 1) := by decide +kernel
theorem dX12_house_1 : decode cX12_house 1 = .ok (.iconst 0, 1) := by decide +kernel
theorem dX12_house_2 : decode cX12_house 2 = .ok (.putfield 297, 3) := by decide +kernel
theorem dX12_house_5 : decode cX12_house 5 = .ok (.aload_n 0, 1) := by decide +kernel
theorem dX12_house_6 : decode cX12_house 6 = .ok (.getfield 331, 3) := by decide +kernel
theorem dX12_house_9 : decode cX12_house 9 = .ok (.bipush 12, 2) := by decide +kernel
theorem dX12_house_11 : decode cX12_house 11 = .ok (.if_icmp .eq 52, 3) := by decide +kernel
theorem dX12_house_14 : decode cX12_house 14 = .ok (.iload_n 1, 1) := by decide +kernel
theorem dX12_house_15 : decode cX12_house 15 = .ok (.invokestatic 303, 3) := by decide +kernel
theorem dX12_house_18 : decode cX12_house 18 = .ok (.ifCond .eq 45, 3) := by decide +kernel
theorem dX12_house_21 : decode cX12_house 21 = .ok (.iload_n 2, 1) := by decide +kernel
theorem dX12_house_22 : decode cX12_house 22 = .ok (.iconst 0, 1) := by decide +kernel
theorem dX12_house_23 : decode cX12_house 23 = .ok (.iconst 2, 1) := by decide +kernel
theorem dX12_house_24 : decode cX12_house 24 = .ok (.invokestatic 307, 3) := by decide +kernel
theorem dX12_house_27 : decode cX12_house 27 = .ok (.ifCond .eq 36, 3) := by decide +kernel
theorem dX12_house_30 : decode cX12_house 30 = .ok (.iload_n 3, 1) := by decide +kernel
theorem dX12_house_31 : decode cX12_house 31 = .ok (.iconst 1, 1) := by decide +kernel
theorem dX12_house_32 : decode cX12_house 32 = .ok (.bipush 6, 2) := by decide +kernel
theorem dX12_house_34 : decode cX12_house 34 = .ok (.invokestatic 307, 3) := by decide +kernel
theorem dX12_house_37 : decode cX12_house 37 = .ok (.ifCond .eq 26, 3) := by decide +kernel
theorem dX12_house_40 : decode cX12_house 40 = .ok (.iload 4, 2) := by decide +kernel
theorem dX12_house_42 : decode cX12_house 42 = .ok (.iconst 1, 1) := by decide +kernel
theorem dX12_house_43 : decode cX12_house 43 = .ok (.iconst 4, 1) := by decide +kernel
theorem dX12_house_44 : decode cX12_house 44 = .ok (.invokestatic 307, 3) := by decide +kernel
theorem dX12_house_47 : decode cX12_house 47 = .ok (.ifCond .eq 16, 3) := by decide +kernel
theorem dX12_house_50 : decode cX12_house 50 = .ok (.iload 5, 2) := by decide +kernel
theorem dX12_house_52 : decode cX12_house 52 = .ok (.iconst (-1), 1) := by decide +kernel
theorem dX12_house_53 : decode cX12_house 53 = .ok (.iload 4, 2) := by decide +kernel
theorem dX12_house_55 : decode cX12_house 55 = .ok (.iconst 1, 1) := by decide +kernel
theorem dX12_house_56 : decode cX12_house 56 = .ok (.isub, 1) := by decide +kernel
theorem dX12_house_57 : decode cX12_house 57 = .ok (.invokestatic 307, 3) := by decide +kernel
theorem dX12_house_60 : decode cX12_house 60 = .ok (.ifCond .ne 5, 3) := by decide +kernel
theorem dX12_house_63 : decode cX12_house 63 = .ok (.iconst (-1), 1) := by decide +kernel
theorem dX12_house_64 : decode cX12_house 64 = .ok (.ireturn, 1) := by decide +kernel
theorem dX12_house_65 : decode cX12_house 65 = .ok (.aload_n 0, 1) := by decide +kernel
theorem dX12_house_66 : decode cX12_house 66 = .ok (.getfield 32, 3) := by decide +kernel
theorem dX12_house_69 : decode cX12_house 69 = .ok (.aload_n 0, 1) := by decide +kernel
theorem dX12_house_70 : decode cX12_house 70 = .ok (.getfield 331, 3) := by decide +kernel
theorem dX12_house_73 : decode cX12_house 73 = .ok (.iload_n 1, 1) := by decide +kernel
theorem dX12_house_74 : decode cX12_house 74 = .ok (.iastore, 1) := by decide +kernel
theorem dX12_house_75 : decode cX12_house 75 = .ok (.aload_n 0, 1) := by decide +kernel
theorem dX12_house_76 : decode cX12_house 76 = .ok (.getfield 35, 3) := by decide +kernel
theorem dX12_house_79 : decode cX12_house 79 = .ok (.aload_n 0, 1) := by decide +kernel
theorem dX12_house_80 : decode cX12_house 80 = .ok (.getfield 331, 3) := by decide +kernel
theorem dX12_house_83 : decode cX12_house 83 = .ok (.iload_n 2, 1) := by decide +kernel
theorem dX12_house_84 : decode cX12_house 84 = .ok (.iastore, 1) := by decide +kernel
theorem dX12_house_85 : decode cX12_house 85 = .ok (.aload_n 0, 1) := by decide +kernel
theorem dX12_house_86 : decode cX12_house 86 = .ok (.getfield 38, 3) := by decide +kernel
theorem dX12_house_89 : decode cX12_house 89 = .ok (.aload_n 0, 1) := by decide +kernel
theorem dX12_house_90 : decode cX12_house 90 = .ok (.getfield 331, 3) := by decide +kernel
theorem dX12_house_93 : decode cX12_house 93 = .ok (.iload_n 3, 1) := by decide +kernel
theorem dX12_house_94 : decode cX12_house 94 = .ok (.iastore, 1) := by decide +kernel
theorem dX12_house_95 : decode cX12_house 95 = .ok (.aload_n 0, 1) := by decide +kernel
theorem dX12_house_96 : decode cX12_house 96 = .ok (.getfield 41, 3) := by decide +kernel
theorem dX12_house_99 : decode cX12_house 99 = .ok (.aload_n 0, 1) := by decide +kernel
theorem dX12_house_100 : decode cX12_house 100 = .ok (.getfield 331, 3) := by decide +kernel
theorem dX12_house_103 : decode cX12_house 103 = .ok (.iload 4, 2) := by decide +kernel
theorem dX12_house_105 : decode cX12_house 105 = .ok (.iastore, 1) := by decide +kernel
theorem dX12_house_106 : decode cX12_house 106 = .ok (.aload_n 0, 1) := by decide +kernel
theorem dX12_house_107 : decode cX12_house 107 = .ok (.getfield 44, 3) := by decide +kernel
theorem dX12_house_110 : decode cX12_house 110 = .ok (.aload_n 0, 1) := by decide +kernel
theorem dX12_house_111 : decode cX12_house 111 = .ok (.getfield 331, 3) := by decide +kernel
theorem dX12_house_114 : decode cX12_house 114 = .ok (.iload 5, 2) := by decide +kernel
theorem dX12_house_116 : decode cX12_house 116 = .ok (.iastore, 1) := by decide +kernel
theorem dX12_house_117 : decode cX12_house 117 = .ok (.aload_n 0, 1) := by decide +kernel
theorem dX12_house_118 : decode cX12_house 118 = .ok (.getfield 50, 3) := by decide +kernel
theorem dX12_house_121 : decode cX12_house 121 = .ok (.aload_n 0, 1) := by decide +kernel
theorem dX12_house_122 : decode cX12_house 122 = .ok (.getfield 331, 3) := by decide +kernel
theorem dX12_house_125 : decode cX12_house 125 = .ok (.iconst 1, 1) := by decide +kernel
theorem dX12_house_126 : decode cX12_house 126 = .ok (.iastore, 1) := by decide +kernel
theorem dX12_house_127 : decode cX12_house 127 = .ok (.aload_n 0, 1) := by decide +kernel
theorem dX12_house_128 : decode cX12_house 128 = .ok (.dup, 1) := by decide +kernel
theorem dX12_house_129 : decode cX12_house 129 = .ok (.getfield 331, 3) := by decide +kernel
theorem dX12_house_132 : decode cX12_house 132 = .ok (.iconst 1, 1) := by decide +kernel
theorem dX12_house_133 : decode cX12_house 133 = .ok (.iadd, 1) := by decide +kernel
theorem dX12_house_134 : decode cX12_house 134 = .ok (.putfield 331, 3) := by decide +kernel
theorem dX12_house_137 : decode cX12_house 137 = .ok (.aload_n 0, 1) := by decide +kernel
theorem dX12_house_138 : decode cX12_house 138 = .ok (.getfield 331, 3) := by decide +kernel
theorem dX12_house_141 : decode cX12_house 141 = .ok (.iconst 1, 1) := by decide +kernel
theorem dX12_house_142 : decode cX12_house 142 = .ok (.isub, 1) := by decide +kernel
theorem dX12_house_143 : decode cX12_house 143 = .ok (.ireturn, 1) := by decide +kernel
theorem okX12_house : ab_okM MX12_house 5 := ⟨by decide, ⟨by decide, by decide⟩, ab_in 2263 (by decide +kernel) (by decide +kernel), ab_in 99 (by decide +kernel) (by decide +kernel), by decide +kernel, by decide⟩
set_option maxHeartbeats 4000000 in
set_option maxRecDepth 100000 in
def wX12_house (v1 : Int32) (v2 : Int32) (v3 : Int32) (v4 : Int32) (v5 : Int32) (x : ab_X) (K : Int32 → ab_X → Prop) : Prop := ((((wr x 246 0 0).1 246 31) = 12 → K (-1) (wr x 246 0 0)) ∧ (¬ ((wr x 246 0 0).1 246 31) = 12 → wX12_isCorner v1 (wr x 246 0 0) (fun r1 => ((r1 = 0 → K (-1) (wr x 246 0 0)) ∧ (¬ r1 = 0 → wX12_isIn v2 0 2 (wr x 246 0 0) (fun r2 => ((r2 = 0 → K (-1) (wr x 246 0 0)) ∧ (¬ r2 = 0 → wX12_isIn v3 1 6 (wr x 246 0 0) (fun r3 => ((r3 = 0 → K (-1) (wr x 246 0 0)) ∧ (¬ r3 = 0 → wX12_isIn v4 1 4 (wr x 246 0 0) (fun r4 => ((r4 = 0 → K (-1) (wr x 246 0 0)) ∧ (¬ r4 = 0 → wX12_isIn v5 (-1) (v4 - 1) (wr x 246 0 0) (fun r5 => ((¬ r5 = 0 → (vp_in ((wr x 246 0 0).1 246 31) 12 ∧ vp_in ((wr (wr x 246 0 0) 254 (Int32.toNatClampNeg ((wr x 246 0 0).1 246 31)) v1).1 246 31) 12 ∧ vp_in ((wr (wr (wr x 246 0 0) 254 (Int32.toNatClampNeg ((wr x 246 0 0).1 246 31)) v1) 255 (Int32.toNatClampNeg ((wr (wr x 246 0 0) 254 (Int32.toNatClampNeg ((wr x 246 0 0).1 246 31)) v1).1 246 31)) v2).1 246 31) 12 ∧ vp_in ((wr (wr (wr (wr x 246 0 0) 254 (Int32.toNatClampNeg ((wr x 246 0 0).1 246 31)) v1) 255 (Int32.toNatClampNeg ((wr (wr x 246 0 0) 254 (Int32.toNatClampNeg ((wr x 246 0 0).1 246 31)) v1).1 246 31)) v2) 256 (Int32.toNatClampNeg ((wr (wr (wr x 246 0 0) 254 (Int32.toNatClampNeg ((wr x 246 0 0).1 246 31)) v1) 255 (Int32.toNatClampNeg ((wr (wr x 246 0 0) 254 (Int32.toNatClampNeg ((wr x 246 0 0).1 246 31)) v1).1 246 31)) v2).1 246 31)) v3).1 246 31) 12 ∧ vp_in ((wr (wr (wr (wr (wr x 246 0 0) 254 (Int32.toNatClampNeg ((wr x 246 0 0).1 246 31)) v1) 255 (Int32.toNatClampNeg ((wr (wr x 246 0 0) 254 (Int32.toNatClampNeg ((wr x 246 0 0).1 246 31)) v1).1 246 31)) v2) 256 (Int32.toNatClampNeg ((wr (wr (wr x 246 0 0) 254 (Int32.toNatClampNeg ((wr x 246 0 0).1 246 31)) v1) 255 (Int32.toNatClampNeg ((wr (wr x 246 0 0) 254 (Int32.toNatClampNeg ((wr x 246 0 0).1 246 31)) v1).1 246 31)) v2).1 246 31)) v3) 257 (Int32.toNatClampNeg ((wr (wr (wr (wr x 246 0 0) 254 (Int32.toNatClampNeg ((wr x 246 0 0).1 246 31)) v1) 255 (Int32.toNatClampNeg ((wr (wr x 246 0 0) 254 (Int32.toNatClampNeg ((wr x 246 0 0).1 246 31)) v1).1 246 31)) v2) 256 (Int32.toNatClampNeg ((wr (wr (wr x 246 0 0) 254 (Int32.toNatClampNeg ((wr x 246 0 0).1 246 31)) v1) 255 (Int32.toNatClampNeg ((wr (wr x 246 0 0) 254 (Int32.toNatClampNeg ((wr x 246 0 0).1 246 31)) v1).1 246 31)) v2).1 246 31)) v3).1 246 31)) v4).1 246 31) 12 ∧ vp_in ((wr (wr (wr (wr (wr (wr x 246 0 0) 254 (Int32.toNatClampNeg ((wr x 246 0 0).1 246 31)) v1) 255 (Int32.toNatClampNeg ((wr (wr x 246 0 0) 254 (Int32.toNatClampNeg ((wr x 246 0 0).1 246 31)) v1).1 246 31)) v2) 256 (Int32.toNatClampNeg ((wr (wr (wr x 246 0 0) 254 (Int32.toNatClampNeg ((wr x 246 0 0).1 246 31)) v1) 255 (Int32.toNatClampNeg ((wr (wr x 246 0 0) 254 (Int32.toNatClampNeg ((wr x 246 0 0).1 246 31)) v1).1 246 31)) v2).1 246 31)) v3) 257 (Int32.toNatClampNeg ((wr (wr (wr (wr x 246 0 0) 254 (Int32.toNatClampNeg ((wr x 246 0 0).1 246 31)) v1) 255 (Int32.toNatClampNeg ((wr (wr x 246 0 0) 254 (Int32.toNatClampNeg ((wr x 246 0 0).1 246 31)) v1).1 246 31)) v2) 256 (Int32.toNatClampNeg ((wr (wr (wr x 246 0 0) 254 (Int32.toNatClampNeg ((wr x 246 0 0).1 246 31)) v1) 255 (Int32.toNatClampNeg ((wr (wr x 246 0 0) 254 (Int32.toNatClampNeg ((wr x 246 0 0).1 246 31)) v1).1 246 31)) v2).1 246 31)) v3).1 246 31)) v4) 258 (Int32.toNatClampNeg ((wr (wr (wr (wr (wr x 246 0 0) 254 (Int32.toNatClampNeg ((wr x 246 0 0).1 246 31)) v1) 255 (Int32.toNatClampNeg ((wr (wr x 246 0 0) 254 (Int32.toNatClampNeg ((wr x 246 0 0).1 246 31)) v1).1 246 31)) v2) 256 (Int32.toNatClampNeg ((wr (wr (wr x 246 0 0) 254 (Int32.toNatClampNeg ((wr x 246 0 0).1 246 31)) v1) 255 (Int32.toNatClampNeg ((wr (wr x 246 0 0) 254 (Int32.toNatClampNeg ((wr x 246 0 0).1 246 31)) v1).1 246 31)) v2).1 246 31)) v3) 257 (Int32.toNatClampNeg ((wr (wr (wr (wr x 246 0 0) 254 (Int32.toNatClampNeg ((wr x 246 0 0).1 246 31)) v1) 255 (Int32.toNatClampNeg ((wr (wr x 246 0 0) 254 (Int32.toNatClampNeg ((wr x 246 0 0).1 246 31)) v1).1 246 31)) v2) 256 (Int32.toNatClampNeg ((wr (wr (wr x 246 0 0) 254 (Int32.toNatClampNeg ((wr x 246 0 0).1 246 31)) v1) 255 (Int32.toNatClampNeg ((wr (wr x 246 0 0) 254 (Int32.toNatClampNeg ((wr x 246 0 0).1 246 31)) v1).1 246 31)) v2).1 246 31)) v3).1 246 31)) v4).1 246 31)) v5).1 246 31) 12 ∧ K (((wr (wr (wr (wr (wr (wr (wr (wr x 246 0 0) 254 (Int32.toNatClampNeg ((wr x 246 0 0).1 246 31)) v1) 255 (Int32.toNatClampNeg ((wr (wr x 246 0 0) 254 (Int32.toNatClampNeg ((wr x 246 0 0).1 246 31)) v1).1 246 31)) v2) 256 (Int32.toNatClampNeg ((wr (wr (wr x 246 0 0) 254 (Int32.toNatClampNeg ((wr x 246 0 0).1 246 31)) v1) 255 (Int32.toNatClampNeg ((wr (wr x 246 0 0) 254 (Int32.toNatClampNeg ((wr x 246 0 0).1 246 31)) v1).1 246 31)) v2).1 246 31)) v3) 257 (Int32.toNatClampNeg ((wr (wr (wr (wr x 246 0 0) 254 (Int32.toNatClampNeg ((wr x 246 0 0).1 246 31)) v1) 255 (Int32.toNatClampNeg ((wr (wr x 246 0 0) 254 (Int32.toNatClampNeg ((wr x 246 0 0).1 246 31)) v1).1 246 31)) v2) 256 (Int32.toNatClampNeg ((wr (wr (wr x 246 0 0) 254 (Int32.toNatClampNeg ((wr x 246 0 0).1 246 31)) v1) 255 (Int32.toNatClampNeg ((wr (wr x 246 0 0) 254 (Int32.toNatClampNeg ((wr x 246 0 0).1 246 31)) v1).1 246 31)) v2).1 246 31)) v3).1 246 31)) v4) 258 (Int32.toNatClampNeg ((wr (wr (wr (wr (wr x 246 0 0) 254 (Int32.toNatClampNeg ((wr x 246 0 0).1 246 31)) v1) 255 (Int32.toNatClampNeg ((wr (wr x 246 0 0) 254 (Int32.toNatClampNeg ((wr x 246 0 0).1 246 31)) v1).1 246 31)) v2) 256 (Int32.toNatClampNeg ((wr (wr (wr x 246 0 0) 254 (Int32.toNatClampNeg ((wr x 246 0 0).1 246 31)) v1) 255 (Int32.toNatClampNeg ((wr (wr x 246 0 0) 254 (Int32.toNatClampNeg ((wr x 246 0 0).1 246 31)) v1).1 246 31)) v2).1 246 31)) v3) 257 (Int32.toNatClampNeg ((wr (wr (wr (wr x 246 0 0) 254 (Int32.toNatClampNeg ((wr x 246 0 0).1 246 31)) v1) 255 (Int32.toNatClampNeg ((wr (wr x 246 0 0) 254 (Int32.toNatClampNeg ((wr x 246 0 0).1 246 31)) v1).1 246 31)) v2) 256 (Int32.toNatClampNeg ((wr (wr (wr x 246 0 0) 254 (Int32.toNatClampNeg ((wr x 246 0 0).1 246 31)) v1) 255 (Int32.toNatClampNeg ((wr (wr x 246 0 0) 254 (Int32.toNatClampNeg ((wr x 246 0 0).1 246 31)) v1).1 246 31)) v2).1 246 31)) v3).1 246 31)) v4).1 246 31)) v5) 260 (Int32.toNatClampNeg ((wr (wr (wr (wr (wr (wr x 246 0 0) 254 (Int32.toNatClampNeg ((wr x 246 0 0).1 246 31)) v1) 255 (Int32.toNatClampNeg ((wr (wr x 246 0 0) 254 (Int32.toNatClampNeg ((wr x 246 0 0).1 246 31)) v1).1 246 31)) v2) 256 (Int32.toNatClampNeg ((wr (wr (wr x 246 0 0) 254 (Int32.toNatClampNeg ((wr x 246 0 0).1 246 31)) v1) 255 (Int32.toNatClampNeg ((wr (wr x 246 0 0) 254 (Int32.toNatClampNeg ((wr x 246 0 0).1 246 31)) v1).1 246 31)) v2).1 246 31)) v3) 257 (Int32.toNatClampNeg ((wr (wr (wr (wr x 246 0 0) 254 (Int32.toNatClampNeg ((wr x 246 0 0).1 246 31)) v1) 255 (Int32.toNatClampNeg ((wr (wr x 246 0 0) 254 (Int32.toNatClampNeg ((wr x 246 0 0).1 246 31)) v1).1 246 31)) v2) 256 (Int32.toNatClampNeg ((wr (wr (wr x 246 0 0) 254 (Int32.toNatClampNeg ((wr x 246 0 0).1 246 31)) v1) 255 (Int32.toNatClampNeg ((wr (wr x 246 0 0) 254 (Int32.toNatClampNeg ((wr x 246 0 0).1 246 31)) v1).1 246 31)) v2).1 246 31)) v3).1 246 31)) v4) 258 (Int32.toNatClampNeg ((wr (wr (wr (wr (wr x 246 0 0) 254 (Int32.toNatClampNeg ((wr x 246 0 0).1 246 31)) v1) 255 (Int32.toNatClampNeg ((wr (wr x 246 0 0) 254 (Int32.toNatClampNeg ((wr x 246 0 0).1 246 31)) v1).1 246 31)) v2) 256 (Int32.toNatClampNeg ((wr (wr (wr x 246 0 0) 254 (Int32.toNatClampNeg ((wr x 246 0 0).1 246 31)) v1) 255 (Int32.toNatClampNeg ((wr (wr x 246 0 0) 254 (Int32.toNatClampNeg ((wr x 246 0 0).1 246 31)) v1).1 246 31)) v2).1 246 31)) v3) 257 (Int32.toNatClampNeg ((wr (wr (wr (wr x 246 0 0) 254 (Int32.toNatClampNeg ((wr x 246 0 0).1 246 31)) v1) 255 (Int32.toNatClampNeg ((wr (wr x 246 0 0) 254 (Int32.toNatClampNeg ((wr x 246 0 0).1 246 31)) v1).1 246 31)) v2) 256 (Int32.toNatClampNeg ((wr (wr (wr x 246 0 0) 254 (Int32.toNatClampNeg ((wr x 246 0 0).1 246 31)) v1) 255 (Int32.toNatClampNeg ((wr (wr x 246 0 0) 254 (Int32.toNatClampNeg ((wr x 246 0 0).1 246 31)) v1).1 246 31)) v2).1 246 31)) v3).1 246 31)) v4).1 246 31)) v5).1 246 31)) 1) 246 31 (((wr (wr (wr (wr (wr (wr (wr x 246 0 0) 254 (Int32.toNatClampNeg ((wr x 246 0 0).1 246 31)) v1) 255 (Int32.toNatClampNeg ((wr (wr x 246 0 0) 254 (Int32.toNatClampNeg ((wr x 246 0 0).1 246 31)) v1).1 246 31)) v2) 256 (Int32.toNatClampNeg ((wr (wr (wr x 246 0 0) 254 (Int32.toNatClampNeg ((wr x 246 0 0).1 246 31)) v1) 255 (Int32.toNatClampNeg ((wr (wr x 246 0 0) 254 (Int32.toNatClampNeg ((wr x 246 0 0).1 246 31)) v1).1 246 31)) v2).1 246 31)) v3) 257 (Int32.toNatClampNeg ((wr (wr (wr (wr x 246 0 0) 254 (Int32.toNatClampNeg ((wr x 246 0 0).1 246 31)) v1) 255 (Int32.toNatClampNeg ((wr (wr x 246 0 0) 254 (Int32.toNatClampNeg ((wr x 246 0 0).1 246 31)) v1).1 246 31)) v2) 256 (Int32.toNatClampNeg ((wr (wr (wr x 246 0 0) 254 (Int32.toNatClampNeg ((wr x 246 0 0).1 246 31)) v1) 255 (Int32.toNatClampNeg ((wr (wr x 246 0 0) 254 (Int32.toNatClampNeg ((wr x 246 0 0).1 246 31)) v1).1 246 31)) v2).1 246 31)) v3).1 246 31)) v4) 258 (Int32.toNatClampNeg ((wr (wr (wr (wr (wr x 246 0 0) 254 (Int32.toNatClampNeg ((wr x 246 0 0).1 246 31)) v1) 255 (Int32.toNatClampNeg ((wr (wr x 246 0 0) 254 (Int32.toNatClampNeg ((wr x 246 0 0).1 246 31)) v1).1 246 31)) v2) 256 (Int32.toNatClampNeg ((wr (wr (wr x 246 0 0) 254 (Int32.toNatClampNeg ((wr x 246 0 0).1 246 31)) v1) 255 (Int32.toNatClampNeg ((wr (wr x 246 0 0) 254 (Int32.toNatClampNeg ((wr x 246 0 0).1 246 31)) v1).1 246 31)) v2).1 246 31)) v3) 257 (Int32.toNatClampNeg ((wr (wr (wr (wr x 246 0 0) 254 (Int32.toNatClampNeg ((wr x 246 0 0).1 246 31)) v1) 255 (Int32.toNatClampNeg ((wr (wr x 246 0 0) 254 (Int32.toNatClampNeg ((wr x 246 0 0).1 246 31)) v1).1 246 31)) v2) 256 (Int32.toNatClampNeg ((wr (wr (wr x 246 0 0) 254 (Int32.toNatClampNeg ((wr x 246 0 0).1 246 31)) v1) 255 (Int32.toNatClampNeg ((wr (wr x 246 0 0) 254 (Int32.toNatClampNeg ((wr x 246 0 0).1 246 31)) v1).1 246 31)) v2).1 246 31)) v3).1 246 31)) v4).1 246 31)) v5) 260 (Int32.toNatClampNeg ((wr (wr (wr (wr (wr (wr x 246 0 0) 254 (Int32.toNatClampNeg ((wr x 246 0 0).1 246 31)) v1) 255 (Int32.toNatClampNeg ((wr (wr x 246 0 0) 254 (Int32.toNatClampNeg ((wr x 246 0 0).1 246 31)) v1).1 246 31)) v2) 256 (Int32.toNatClampNeg ((wr (wr (wr x 246 0 0) 254 (Int32.toNatClampNeg ((wr x 246 0 0).1 246 31)) v1) 255 (Int32.toNatClampNeg ((wr (wr x 246 0 0) 254 (Int32.toNatClampNeg ((wr x 246 0 0).1 246 31)) v1).1 246 31)) v2).1 246 31)) v3) 257 (Int32.toNatClampNeg ((wr (wr (wr (wr x 246 0 0) 254 (Int32.toNatClampNeg ((wr x 246 0 0).1 246 31)) v1) 255 (Int32.toNatClampNeg ((wr (wr x 246 0 0) 254 (Int32.toNatClampNeg ((wr x 246 0 0).1 246 31)) v1).1 246 31)) v2) 256 (Int32.toNatClampNeg ((wr (wr (wr x 246 0 0) 254 (Int32.toNatClampNeg ((wr x 246 0 0).1 246 31)) v1) 255 (Int32.toNatClampNeg ((wr (wr x 246 0 0) 254 (Int32.toNatClampNeg ((wr x 246 0 0).1 246 31)) v1).1 246 31)) v2).1 246 31)) v3).1 246 31)) v4) 258 (Int32.toNatClampNeg ((wr (wr (wr (wr (wr x 246 0 0) 254 (Int32.toNatClampNeg ((wr x 246 0 0).1 246 31)) v1) 255 (Int32.toNatClampNeg ((wr (wr x 246 0 0) 254 (Int32.toNatClampNeg ((wr x 246 0 0).1 246 31)) v1).1 246 31)) v2) 256 (Int32.toNatClampNeg ((wr (wr (wr x 246 0 0) 254 (Int32.toNatClampNeg ((wr x 246 0 0).1 246 31)) v1) 255 (Int32.toNatClampNeg ((wr (wr x 246 0 0) 254 (Int32.toNatClampNeg ((wr x 246 0 0).1 246 31)) v1).1 246 31)) v2).1 246 31)) v3) 257 (Int32.toNatClampNeg ((wr (wr (wr (wr x 246 0 0) 254 (Int32.toNatClampNeg ((wr x 246 0 0).1 246 31)) v1) 255 (Int32.toNatClampNeg ((wr (wr x 246 0 0) 254 (Int32.toNatClampNeg ((wr x 246 0 0).1 246 31)) v1).1 246 31)) v2) 256 (Int32.toNatClampNeg ((wr (wr (wr x 246 0 0) 254 (Int32.toNatClampNeg ((wr x 246 0 0).1 246 31)) v1) 255 (Int32.toNatClampNeg ((wr (wr x 246 0 0) 254 (Int32.toNatClampNeg ((wr x 246 0 0).1 246 31)) v1).1 246 31)) v2).1 246 31)) v3).1 246 31)) v4).1 246 31)) v5).1 246 31)) 1).1 246 31) + 1)).1 246 31) - 1) (wr (wr (wr (wr (wr (wr (wr (wr x 246 0 0) 254 (Int32.toNatClampNeg ((wr x 246 0 0).1 246 31)) v1) 255 (Int32.toNatClampNeg ((wr (wr x 246 0 0) 254 (Int32.toNatClampNeg ((wr x 246 0 0).1 246 31)) v1).1 246 31)) v2) 256 (Int32.toNatClampNeg ((wr (wr (wr x 246 0 0) 254 (Int32.toNatClampNeg ((wr x 246 0 0).1 246 31)) v1) 255 (Int32.toNatClampNeg ((wr (wr x 246 0 0) 254 (Int32.toNatClampNeg ((wr x 246 0 0).1 246 31)) v1).1 246 31)) v2).1 246 31)) v3) 257 (Int32.toNatClampNeg ((wr (wr (wr (wr x 246 0 0) 254 (Int32.toNatClampNeg ((wr x 246 0 0).1 246 31)) v1) 255 (Int32.toNatClampNeg ((wr (wr x 246 0 0) 254 (Int32.toNatClampNeg ((wr x 246 0 0).1 246 31)) v1).1 246 31)) v2) 256 (Int32.toNatClampNeg ((wr (wr (wr x 246 0 0) 254 (Int32.toNatClampNeg ((wr x 246 0 0).1 246 31)) v1) 255 (Int32.toNatClampNeg ((wr (wr x 246 0 0) 254 (Int32.toNatClampNeg ((wr x 246 0 0).1 246 31)) v1).1 246 31)) v2).1 246 31)) v3).1 246 31)) v4) 258 (Int32.toNatClampNeg ((wr (wr (wr (wr (wr x 246 0 0) 254 (Int32.toNatClampNeg ((wr x 246 0 0).1 246 31)) v1) 255 (Int32.toNatClampNeg ((wr (wr x 246 0 0) 254 (Int32.toNatClampNeg ((wr x 246 0 0).1 246 31)) v1).1 246 31)) v2) 256 (Int32.toNatClampNeg ((wr (wr (wr x 246 0 0) 254 (Int32.toNatClampNeg ((wr x 246 0 0).1 246 31)) v1) 255 (Int32.toNatClampNeg ((wr (wr x 246 0 0) 254 (Int32.toNatClampNeg ((wr x 246 0 0).1 246 31)) v1).1 246 31)) v2).1 246 31)) v3) 257 (Int32.toNatClampNeg ((wr (wr (wr (wr x 246 0 0) 254 (Int32.toNatClampNeg ((wr x 246 0 0).1 246 31)) v1) 255 (Int32.toNatClampNeg ((wr (wr x 246 0 0) 254 (Int32.toNatClampNeg ((wr x 246 0 0).1 246 31)) v1).1 246 31)) v2) 256 (Int32.toNatClampNeg ((wr (wr (wr x 246 0 0) 254 (Int32.toNatClampNeg ((wr x 246 0 0).1 246 31)) v1) 255 (Int32.toNatClampNeg ((wr (wr x 246 0 0) 254 (Int32.toNatClampNeg ((wr x 246 0 0).1 246 31)) v1).1 246 31)) v2).1 246 31)) v3).1 246 31)) v4).1 246 31)) v5) 260 (Int32.toNatClampNeg ((wr (wr (wr (wr (wr (wr x 246 0 0) 254 (Int32.toNatClampNeg ((wr x 246 0 0).1 246 31)) v1) 255 (Int32.toNatClampNeg ((wr (wr x 246 0 0) 254 (Int32.toNatClampNeg ((wr x 246 0 0).1 246 31)) v1).1 246 31)) v2) 256 (Int32.toNatClampNeg ((wr (wr (wr x 246 0 0) 254 (Int32.toNatClampNeg ((wr x 246 0 0).1 246 31)) v1) 255 (Int32.toNatClampNeg ((wr (wr x 246 0 0) 254 (Int32.toNatClampNeg ((wr x 246 0 0).1 246 31)) v1).1 246 31)) v2).1 246 31)) v3) 257 (Int32.toNatClampNeg ((wr (wr (wr (wr x 246 0 0) 254 (Int32.toNatClampNeg ((wr x 246 0 0).1 246 31)) v1) 255 (Int32.toNatClampNeg ((wr (wr x 246 0 0) 254 (Int32.toNatClampNeg ((wr x 246 0 0).1 246 31)) v1).1 246 31)) v2) 256 (Int32.toNatClampNeg ((wr (wr (wr x 246 0 0) 254 (Int32.toNatClampNeg ((wr x 246 0 0).1 246 31)) v1) 255 (Int32.toNatClampNeg ((wr (wr x 246 0 0) 254 (Int32.toNatClampNeg ((wr x 246 0 0).1 246 31)) v1).1 246 31)) v2).1 246 31)) v3).1 246 31)) v4) 258 (Int32.toNatClampNeg ((wr (wr (wr (wr (wr x 246 0 0) 254 (Int32.toNatClampNeg ((wr x 246 0 0).1 246 31)) v1) 255 (Int32.toNatClampNeg ((wr (wr x 246 0 0) 254 (Int32.toNatClampNeg ((wr x 246 0 0).1 246 31)) v1).1 246 31)) v2) 256 (Int32.toNatClampNeg ((wr (wr (wr x 246 0 0) 254 (Int32.toNatClampNeg ((wr x 246 0 0).1 246 31)) v1) 255 (Int32.toNatClampNeg ((wr (wr x 246 0 0) 254 (Int32.toNatClampNeg ((wr x 246 0 0).1 246 31)) v1).1 246 31)) v2).1 246 31)) v3) 257 (Int32.toNatClampNeg ((wr (wr (wr (wr x 246 0 0) 254 (Int32.toNatClampNeg ((wr x 246 0 0).1 246 31)) v1) 255 (Int32.toNatClampNeg ((wr (wr x 246 0 0) 254 (Int32.toNatClampNeg ((wr x 246 0 0).1 246 31)) v1).1 246 31)) v2) 256 (Int32.toNatClampNeg ((wr (wr (wr x 246 0 0) 254 (Int32.toNatClampNeg ((wr x 246 0 0).1 246 31)) v1) 255 (Int32.toNatClampNeg ((wr (wr x 246 0 0) 254 (Int32.toNatClampNeg ((wr x 246 0 0).1 246 31)) v1).1 246 31)) v2).1 246 31)) v3).1 246 31)) v4).1 246 31)) v5).1 246 31)) 1) 246 31 (((wr (wr (wr (wr (wr (wr (wr x 246 0 0) 254 (Int32.toNatClampNeg ((wr x 246 0 0).1 246 31)) v1) 255 (Int32.toNatClampNeg ((wr (wr x 246 0 0) 254 (Int32.toNatClampNeg ((wr x 246 0 0).1 246 31)) v1).1 246 31)) v2) 256 (Int32.toNatClampNeg ((wr (wr (wr x 246 0 0) 254 (Int32.toNatClampNeg ((wr x 246 0 0).1 246 31)) v1) 255 (Int32.toNatClampNeg ((wr (wr x 246 0 0) 254 (Int32.toNatClampNeg ((wr x 246 0 0).1 246 31)) v1).1 246 31)) v2).1 246 31)) v3) 257 (Int32.toNatClampNeg ((wr (wr (wr (wr x 246 0 0) 254 (Int32.toNatClampNeg ((wr x 246 0 0).1 246 31)) v1) 255 (Int32.toNatClampNeg ((wr (wr x 246 0 0) 254 (Int32.toNatClampNeg ((wr x 246 0 0).1 246 31)) v1).1 246 31)) v2) 256 (Int32.toNatClampNeg ((wr (wr (wr x 246 0 0) 254 (Int32.toNatClampNeg ((wr x 246 0 0).1 246 31)) v1) 255 (Int32.toNatClampNeg ((wr (wr x 246 0 0) 254 (Int32.toNatClampNeg ((wr x 246 0 0).1 246 31)) v1).1 246 31)) v2).1 246 31)) v3).1 246 31)) v4) 258 (Int32.toNatClampNeg ((wr (wr (wr (wr (wr x 246 0 0) 254 (Int32.toNatClampNeg ((wr x 246 0 0).1 246 31)) v1) 255 (Int32.toNatClampNeg ((wr (wr x 246 0 0) 254 (Int32.toNatClampNeg ((wr x 246 0 0).1 246 31)) v1).1 246 31)) v2) 256 (Int32.toNatClampNeg ((wr (wr (wr x 246 0 0) 254 (Int32.toNatClampNeg ((wr x 246 0 0).1 246 31)) v1) 255 (Int32.toNatClampNeg ((wr (wr x 246 0 0) 254 (Int32.toNatClampNeg ((wr x 246 0 0).1 246 31)) v1).1 246 31)) v2).1 246 31)) v3) 257 (Int32.toNatClampNeg ((wr (wr (wr (wr x 246 0 0) 254 (Int32.toNatClampNeg ((wr x 246 0 0).1 246 31)) v1) 255 (Int32.toNatClampNeg ((wr (wr x 246 0 0) 254 (Int32.toNatClampNeg ((wr x 246 0 0).1 246 31)) v1).1 246 31)) v2) 256 (Int32.toNatClampNeg ((wr (wr (wr x 246 0 0) 254 (Int32.toNatClampNeg ((wr x 246 0 0).1 246 31)) v1) 255 (Int32.toNatClampNeg ((wr (wr x 246 0 0) 254 (Int32.toNatClampNeg ((wr x 246 0 0).1 246 31)) v1).1 246 31)) v2).1 246 31)) v3).1 246 31)) v4).1 246 31)) v5) 260 (Int32.toNatClampNeg ((wr (wr (wr (wr (wr (wr x 246 0 0) 254 (Int32.toNatClampNeg ((wr x 246 0 0).1 246 31)) v1) 255 (Int32.toNatClampNeg ((wr (wr x 246 0 0) 254 (Int32.toNatClampNeg ((wr x 246 0 0).1 246 31)) v1).1 246 31)) v2) 256 (Int32.toNatClampNeg ((wr (wr (wr x 246 0 0) 254 (Int32.toNatClampNeg ((wr x 246 0 0).1 246 31)) v1) 255 (Int32.toNatClampNeg ((wr (wr x 246 0 0) 254 (Int32.toNatClampNeg ((wr x 246 0 0).1 246 31)) v1).1 246 31)) v2).1 246 31)) v3) 257 (Int32.toNatClampNeg ((wr (wr (wr (wr x 246 0 0) 254 (Int32.toNatClampNeg ((wr x 246 0 0).1 246 31)) v1) 255 (Int32.toNatClampNeg ((wr (wr x 246 0 0) 254 (Int32.toNatClampNeg ((wr x 246 0 0).1 246 31)) v1).1 246 31)) v2) 256 (Int32.toNatClampNeg ((wr (wr (wr x 246 0 0) 254 (Int32.toNatClampNeg ((wr x 246 0 0).1 246 31)) v1) 255 (Int32.toNatClampNeg ((wr (wr x 246 0 0) 254 (Int32.toNatClampNeg ((wr x 246 0 0).1 246 31)) v1).1 246 31)) v2).1 246 31)) v3).1 246 31)) v4) 258 (Int32.toNatClampNeg ((wr (wr (wr (wr (wr x 246 0 0) 254 (Int32.toNatClampNeg ((wr x 246 0 0).1 246 31)) v1) 255 (Int32.toNatClampNeg ((wr (wr x 246 0 0) 254 (Int32.toNatClampNeg ((wr x 246 0 0).1 246 31)) v1).1 246 31)) v2) 256 (Int32.toNatClampNeg ((wr (wr (wr x 246 0 0) 254 (Int32.toNatClampNeg ((wr x 246 0 0).1 246 31)) v1) 255 (Int32.toNatClampNeg ((wr (wr x 246 0 0) 254 (Int32.toNatClampNeg ((wr x 246 0 0).1 246 31)) v1).1 246 31)) v2).1 246 31)) v3) 257 (Int32.toNatClampNeg ((wr (wr (wr (wr x 246 0 0) 254 (Int32.toNatClampNeg ((wr x 246 0 0).1 246 31)) v1) 255 (Int32.toNatClampNeg ((wr (wr x 246 0 0) 254 (Int32.toNatClampNeg ((wr x 246 0 0).1 246 31)) v1).1 246 31)) v2) 256 (Int32.toNatClampNeg ((wr (wr (wr x 246 0 0) 254 (Int32.toNatClampNeg ((wr x 246 0 0).1 246 31)) v1) 255 (Int32.toNatClampNeg ((wr (wr x 246 0 0) 254 (Int32.toNatClampNeg ((wr x 246 0 0).1 246 31)) v1).1 246 31)) v2).1 246 31)) v3).1 246 31)) v4).1 246 31)) v5).1 246 31)) 1).1 246 31) + 1)))) ∧ (r5 = 0 → K (-1) (wr x 246 0 0))))))))))))))))))
set_option maxHeartbeats 4000000 in
set_option maxRecDepth 100000 in
theorem sX12_house (v1 : Int32) (v2 : Int32) (v3 : Int32) (v4 : Int32) (v5 : Int32)  (x : ab_X) (K : Int32 → ab_X → Prop) (d bc bs : Nat) (hdp : 1 ≤ d) (h : wX12_house v1 v2 v3 v4 v5 x K) : EW MX12_house 0 [(0, .ref 246), (1, .int v1), (2, .int v2), (3, .int v3), (4, .int v4), (5, .int v5)] [] (aS x) d bc bs (liI K) := by
  unfold wX12_house at h
  refine EW_aload_n (pc2 := 1) rfl dX12_house_0 0 rfl ?_
  refine EW_iconst (pc2 := 2) (v := 0) rfl dX12_house_1 (by decide) ?_
  refine AW_puti ⟨gfRX12_297, rfl, rfl⟩ (pc2 := 5) rfl dX12_house_2 q246 ?_
  refine EW_aload_n (pc2 := 6) rfl dX12_house_5 0 rfl ?_
  refine AW_geti ⟨gfRX12_331, rfl⟩ (pc2 := 9) rfl dX12_house_6 q246 ?_
  refine EW_bipush (pc2 := 11) (v := 12) rfl dX12_house_9 (by decide) ?_
  refine EW_icmp_eq (tgt := 63) (pc2 := 14) rfl dX12_house_11 (by decide) (fun q => ?_) (fun q => ?_)
  · replace h := h.1 q
    refine EW_iconst (pc2 := 64) (v := (-1)) rfl dX12_house_63 (by decide) ?_
    exact AW_iret rfl dX12_house_64 ⟨_, _, rfl, rfl, h⟩
  · replace h := h.2 q
    refine EW_iload_n (pc2 := 15) rfl dX12_house_14 1 rfl ?_
    refine AW_invS (M' := MX12_isCorner) [.int v1] (rest := []) mlRX12_303 okX12_isCorner (pc2 := 18) rfl dX12_house_15 rfl rfl (Nat.le_of_ble_eq_true rfl) (Nat.le_of_ble_eq_true rfl) (d' := 0) (by omega) (EW_mono (fun _ _ hr => ?_) (sX12_isCorner v1  (wr x 246 0 0) _ _ 0 0 (Nat.le_refl _) h))
    obtain ⟨r1, rfl, rfl, h⟩ := hr
    refine EW_if_eq (tgt := 63) (pc2 := 21) rfl dX12_house_18 (by decide) (fun q => ?_) (fun q => ?_)
    · replace h := h.1 q
      refine EW_iconst (pc2 := 64) (v := (-1)) rfl dX12_house_63 (by decide) ?_
      exact AW_iret rfl dX12_house_64 ⟨_, _, rfl, rfl, h⟩
    · replace h := h.2 q
      refine EW_iload_n (pc2 := 22) rfl dX12_house_21 2 rfl ?_
      refine EW_iconst (pc2 := 23) (v := 0) rfl dX12_house_22 (by decide) ?_
      refine EW_iconst (pc2 := 24) (v := 2) rfl dX12_house_23 (by decide) ?_
      refine AW_invS (M' := MX12_isIn) [.int v2, .int 0, .int 2] (rest := []) mlRX12_307 okX12_isIn (pc2 := 27) rfl dX12_house_24 rfl rfl (Nat.le_of_ble_eq_true rfl) (Nat.le_of_ble_eq_true rfl) (d' := 0) (by omega) (EW_mono (fun _ _ hr => ?_) (sX12_isIn v2 0 2  (wr x 246 0 0) _ _ 0 0 (Nat.le_refl _) h))
      obtain ⟨r2, rfl, rfl, h⟩ := hr
      refine EW_if_eq (tgt := 63) (pc2 := 30) rfl dX12_house_27 (by decide) (fun q => ?_) (fun q => ?_)
      · replace h := h.1 q
        refine EW_iconst (pc2 := 64) (v := (-1)) rfl dX12_house_63 (by decide) ?_
        exact AW_iret rfl dX12_house_64 ⟨_, _, rfl, rfl, h⟩
      · replace h := h.2 q
        refine EW_iload_n (pc2 := 31) rfl dX12_house_30 3 rfl ?_
        refine EW_iconst (pc2 := 32) (v := 1) rfl dX12_house_31 (by decide) ?_
        refine EW_bipush (pc2 := 34) (v := 6) rfl dX12_house_32 (by decide) ?_
        refine AW_invS (M' := MX12_isIn) [.int v3, .int 1, .int 6] (rest := []) mlRX12_307 okX12_isIn (pc2 := 37) rfl dX12_house_34 rfl rfl (Nat.le_of_ble_eq_true rfl) (Nat.le_of_ble_eq_true rfl) (d' := 0) (by omega) (EW_mono (fun _ _ hr => ?_) (sX12_isIn v3 1 6  (wr x 246 0 0) _ _ 0 0 (Nat.le_refl _) h))
        obtain ⟨r3, rfl, rfl, h⟩ := hr
        refine EW_if_eq (tgt := 63) (pc2 := 40) rfl dX12_house_37 (by decide) (fun q => ?_) (fun q => ?_)
        · replace h := h.1 q
          refine EW_iconst (pc2 := 64) (v := (-1)) rfl dX12_house_63 (by decide) ?_
          exact AW_iret rfl dX12_house_64 ⟨_, _, rfl, rfl, h⟩
        · replace h := h.2 q
          refine EW_iload (pc2 := 42) rfl dX12_house_40 4 rfl ?_
          refine EW_iconst (pc2 := 43) (v := 1) rfl dX12_house_42 (by decide) ?_
          refine EW_iconst (pc2 := 44) (v := 4) rfl dX12_house_43 (by decide) ?_
          refine AW_invS (M' := MX12_isIn) [.int v4, .int 1, .int 4] (rest := []) mlRX12_307 okX12_isIn (pc2 := 47) rfl dX12_house_44 rfl rfl (Nat.le_of_ble_eq_true rfl) (Nat.le_of_ble_eq_true rfl) (d' := 0) (by omega) (EW_mono (fun _ _ hr => ?_) (sX12_isIn v4 1 4  (wr x 246 0 0) _ _ 0 0 (Nat.le_refl _) h))
          obtain ⟨r4, rfl, rfl, h⟩ := hr
          refine EW_if_eq (tgt := 63) (pc2 := 50) rfl dX12_house_47 (by decide) (fun q => ?_) (fun q => ?_)
          · replace h := h.1 q
            refine EW_iconst (pc2 := 64) (v := (-1)) rfl dX12_house_63 (by decide) ?_
            exact AW_iret rfl dX12_house_64 ⟨_, _, rfl, rfl, h⟩
          · replace h := h.2 q
            refine EW_iload (pc2 := 52) rfl dX12_house_50 5 rfl ?_
            refine EW_iconst (pc2 := 53) (v := (-1)) rfl dX12_house_52 (by decide) ?_
            refine EW_iload (pc2 := 55) rfl dX12_house_53 4 rfl ?_
            refine EW_iconst (pc2 := 56) (v := 1) rfl dX12_house_55 (by decide) ?_
            refine EW_isub (pc2 := 57) rfl dX12_house_56 ?_
            refine AW_invS (M' := MX12_isIn) [.int v5, .int (-1), .int (v4 - 1)] (rest := []) mlRX12_307 okX12_isIn (pc2 := 60) rfl dX12_house_57 rfl rfl (Nat.le_of_ble_eq_true rfl) (Nat.le_of_ble_eq_true rfl) (d' := 0) (by omega) (EW_mono (fun _ _ hr => ?_) (sX12_isIn v5 (-1) (v4 - 1)  (wr x 246 0 0) _ _ 0 0 (Nat.le_refl _) h))
            obtain ⟨r5, rfl, rfl, h⟩ := hr
            refine EW_if_ne (tgt := 65) (pc2 := 63) rfl dX12_house_60 (by decide) (fun q => ?_) (fun q => ?_)
            · replace h := h.1 q
              refine EW_aload_n (pc2 := 66) rfl dX12_house_65 0 rfl ?_
              refine AW_getr (r := 254) ⟨gfRX12_32, rfl⟩ (pc2 := 69) rfl dX12_house_66 q246 rfl ?_
              refine EW_aload_n (pc2 := 70) rfl dX12_house_69 0 rfl ?_
              refine AW_geti ⟨gfRX12_331, rfl⟩ (pc2 := 73) rfl dX12_house_70 q246 ?_
              refine EW_iload_n (pc2 := 74) rfl dX12_house_73 1 rfl ?_
              obtain ⟨b6, h⟩ := h
              refine AW_iast (pc2 := 75) rfl dX12_house_74 q254 b6 ?_
              refine EW_aload_n (pc2 := 76) rfl dX12_house_75 0 rfl ?_
              refine AW_getr (r := 255) ⟨gfRX12_35, rfl⟩ (pc2 := 79) rfl dX12_house_76 q246 rfl ?_
              refine EW_aload_n (pc2 := 80) rfl dX12_house_79 0 rfl ?_
              refine AW_geti ⟨gfRX12_331, rfl⟩ (pc2 := 83) rfl dX12_house_80 q246 ?_
              refine EW_iload_n (pc2 := 84) rfl dX12_house_83 2 rfl ?_
              obtain ⟨b7, h⟩ := h
              refine AW_iast (pc2 := 85) rfl dX12_house_84 q255 b7 ?_
              refine EW_aload_n (pc2 := 86) rfl dX12_house_85 0 rfl ?_
              refine AW_getr (r := 256) ⟨gfRX12_38, rfl⟩ (pc2 := 89) rfl dX12_house_86 q246 rfl ?_
              refine EW_aload_n (pc2 := 90) rfl dX12_house_89 0 rfl ?_
              refine AW_geti ⟨gfRX12_331, rfl⟩ (pc2 := 93) rfl dX12_house_90 q246 ?_
              refine EW_iload_n (pc2 := 94) rfl dX12_house_93 3 rfl ?_
              obtain ⟨b8, h⟩ := h
              refine AW_iast (pc2 := 95) rfl dX12_house_94 q256 b8 ?_
              refine EW_aload_n (pc2 := 96) rfl dX12_house_95 0 rfl ?_
              refine AW_getr (r := 257) ⟨gfRX12_41, rfl⟩ (pc2 := 99) rfl dX12_house_96 q246 rfl ?_
              refine EW_aload_n (pc2 := 100) rfl dX12_house_99 0 rfl ?_
              refine AW_geti ⟨gfRX12_331, rfl⟩ (pc2 := 103) rfl dX12_house_100 q246 ?_
              refine EW_iload (pc2 := 105) rfl dX12_house_103 4 rfl ?_
              obtain ⟨b9, h⟩ := h
              refine AW_iast (pc2 := 106) rfl dX12_house_105 q257 b9 ?_
              refine EW_aload_n (pc2 := 107) rfl dX12_house_106 0 rfl ?_
              refine AW_getr (r := 258) ⟨gfRX12_44, rfl⟩ (pc2 := 110) rfl dX12_house_107 q246 rfl ?_
              refine EW_aload_n (pc2 := 111) rfl dX12_house_110 0 rfl ?_
              refine AW_geti ⟨gfRX12_331, rfl⟩ (pc2 := 114) rfl dX12_house_111 q246 ?_
              refine EW_iload (pc2 := 116) rfl dX12_house_114 5 rfl ?_
              obtain ⟨b10, h⟩ := h
              refine AW_iast (pc2 := 117) rfl dX12_house_116 q258 b10 ?_
              refine EW_aload_n (pc2 := 118) rfl dX12_house_117 0 rfl ?_
              refine AW_getr (r := 260) ⟨gfRX12_50, rfl⟩ (pc2 := 121) rfl dX12_house_118 q246 rfl ?_
              refine EW_aload_n (pc2 := 122) rfl dX12_house_121 0 rfl ?_
              refine AW_geti ⟨gfRX12_331, rfl⟩ (pc2 := 125) rfl dX12_house_122 q246 ?_
              refine EW_iconst (pc2 := 126) (v := 1) rfl dX12_house_125 (by decide) ?_
              obtain ⟨b11, h⟩ := h
              refine AW_iast (pc2 := 127) rfl dX12_house_126 q260 b11 ?_
              refine EW_aload_n (pc2 := 128) rfl dX12_house_127 0 rfl ?_
              refine EW_dup (pc2 := 129) rfl dX12_house_128 rfl ?_
              refine AW_geti ⟨gfRX12_331, rfl⟩ (pc2 := 132) rfl dX12_house_129 q246 ?_
              refine EW_iconst (pc2 := 133) (v := 1) rfl dX12_house_132 (by decide) ?_
              refine EW_iadd (pc2 := 134) rfl dX12_house_133 ?_
              refine AW_puti ⟨gfRX12_331, rfl, rfl⟩ (pc2 := 137) rfl dX12_house_134 q246 ?_
              refine EW_aload_n (pc2 := 138) rfl dX12_house_137 0 rfl ?_
              refine AW_geti ⟨gfRX12_331, rfl⟩ (pc2 := 141) rfl dX12_house_138 q246 ?_
              refine EW_iconst (pc2 := 142) (v := 1) rfl dX12_house_141 (by decide) ?_
              refine EW_isub (pc2 := 143) rfl dX12_house_142 ?_
              exact AW_iret rfl dX12_house_143 ⟨_, _, rfl, rfl, h⟩
            · replace h := h.2 q
              refine EW_iconst (pc2 := 64) (v := (-1)) rfl dX12_house_63 (by decide) ?_
              exact AW_iret rfl dX12_house_64 ⟨_, _, rfl, rfl, h⟩
