theorem gfRX0_26 : ab_L RX0 26 0 6 := ⟨by decide, by decide, ab_in 555 (by decide +kernel) (by decide +kernel)⟩
theorem mlRX0_170 : Cond.methodLink RX0 170 yX0_callsThatAre ∈ ab_G ∧ Cond.instanceMethod yX0_callsThatAre ∈ ab_G ∧ Cond.selects RX0 yX0_callsThatAre yX0_callsThatAre ∈ ab_G := ⟨ab_in 1069 (by decide +kernel) (by decide +kernel), ab_in 1070 (by decide +kernel) (by decide +kernel), ab_in 1071 (by decide +kernel) (by decide +kernel)⟩
theorem mlRX0_118 : Cond.methodLink RX0 118 yX0_openAt ∈ ab_G ∧ Cond.instanceMethod yX0_openAt ∈ ab_G ∧ Cond.selects RX0 yX0_openAt yX0_openAt ∈ ab_G := ⟨ab_in 1047 (by decide +kernel) (by decide +kernel), ab_in 1048 (by decide +kernel) (by decide +kernel), ab_in 1049 (by decide +kernel) (by decide +kernel)⟩
theorem mlRX0_167 : Cond.methodLink RX0 167 yX0_readyOf ∈ ab_G ∧ Cond.instanceMethod yX0_readyOf ∈ ab_G ∧ Cond.selects RX0 yX0_readyOf yX0_readyOf ∈ ab_G := ⟨ab_in 1065 (by decide +kernel) (by decide +kernel), ab_in 1066 (by decide +kernel) (by decide +kernel), ab_in 1067 (by decide +kernel) (by decide +kernel)⟩
theorem gfRX0_147 : ab_L RX0 147 10 2 := ⟨by decide, by decide, ab_in 316 (by decide +kernel) (by decide +kernel)⟩
theorem mlRX0_164 : Cond.methodLink RX0 164 yX0_falseHundredths ∈ ab_G ∧ Cond.instanceMethod yX0_falseHundredths ∈ ab_G ∧ Cond.selects RX0 yX0_falseHundredths yX0_falseHundredths ∈ ab_G := ⟨ab_in 1061 (by decide +kernel) (by decide +kernel), ab_in 1062 (by decide +kernel) (by decide +kernel), ab_in 1063 (by decide +kernel) (by decide +kernel)⟩
theorem gfRX0_148 : ab_L RX0 148 10 1 := ⟨by decide, by decide, ab_in 312 (by decide +kernel) (by decide +kernel)⟩
theorem gfRX0_155 : ab_L RX0 155 4 3 := ⟨by decide, by decide, ab_in 229 (by decide +kernel) (by decide +kernel)⟩
theorem mmRX0_158 : Cond.methodLink RX0 158 Lib.Math.max.name ∈ ab_G ∧ Cond.static Lib.Math.max.name ∈ ab_G ∧ Cond.initialized "java/lang/Math" ∈ ab_G ∧ Cond.code Lib.Math.max.name Lib.Math.max.code 2 (some .int) ∈ ab_G := ⟨ab_in 1059 (by decide +kernel) (by decide +kernel), ab_in 909 (by decide +kernel) (by decide +kernel), ab_in 100 (by decide +kernel) (by decide +kernel), ab_in 910 (by decide +kernel) (by decide +kernel)⟩
abbrev MX0_readOrders : ab_M := (yX0_readOrders, cX0_readOrders, 6, none)
theorem dX0_readOrders_0 : decode cX0_readOrders 0 = .ok (.iconst 0, 1) := by decide +kernel
theorem dX0_readOrders_1 : decode cX0_readOrders 1 = .ok (.istore_n 3, 1) := by decide +kernel
theorem dX0_readOrders_2 : decode cX0_readOrders 2 = .ok (.iconst 0, 1) := by decide +kernel
theorem dX0_readOrders_3 : decode cX0_readOrders 3 = .ok (.istore 4, 2) := by decide +kernel
theorem dX0_readOrders_5 : decode cX0_readOrders 5 = .ok (.iconst 0, 1) := by decide +kernel
theorem dX0_readOrders_6 : decode cX0_readOrders 6 = .ok (.istore 5, 2) := by decide +kernel
theorem dX0_readOrders_8 : decode cX0_readOrders 8 = .ok (.iload 5, 2) := by decide +kernel
theorem dX0_readOrders_10 : decode cX0_readOrders 10 = .ok (.aload_n 0, 1) := by decide +kernel
theorem dX0_readOrders_11 : decode cX0_readOrders 11 = .ok (.getfield 49, 3) := by decide +kernel
theorem dX0_readOrders_14 : decode cX0_readOrders 14 = .ok (.getfield 147, 3) := by decide +kernel
theorem dX0_readOrders_17 : decode cX0_readOrders 17 = .ok (.if_icmp .ge 47, 3) := by decide +kernel
theorem dX0_readOrders_20 : decode cX0_readOrders 20 = .ok (.aload_n 0, 1) := by decide +kernel
theorem dX0_readOrders_21 : decode cX0_readOrders 21 = .ok (.getfield 49, 3) := by decide +kernel
theorem dX0_readOrders_24 : decode cX0_readOrders 24 = .ok (.getfield 148, 3) := by decide +kernel
theorem dX0_readOrders_27 : decode cX0_readOrders 27 = .ok (.iload 5, 2) := by decide +kernel
theorem dX0_readOrders_29 : decode cX0_readOrders 29 = .ok (.aaload, 1) := by decide +kernel
theorem dX0_readOrders_30 : decode cX0_readOrders 30 = .ok (.getfield 152, 3) := by decide +kernel
theorem dX0_readOrders_33 : decode cX0_readOrders 33 = .ok (.iload_n 1, 1) := by decide +kernel
theorem dX0_readOrders_34 : decode cX0_readOrders 34 = .ok (.if_icmp .ne 24, 3) := by decide +kernel
theorem dX0_readOrders_37 : decode cX0_readOrders 37 = .ok (.iload_n 3, 1) := by decide +kernel
theorem dX0_readOrders_38 : decode cX0_readOrders 38 = .ok (.aload_n 0, 1) := by decide +kernel
theorem dX0_readOrders_39 : decode cX0_readOrders 39 = .ok (.getfield 49, 3) := by decide +kernel
theorem dX0_readOrders_42 : decode cX0_readOrders 42 = .ok (.getfield 148, 3) := by decide +kernel
theorem dX0_readOrders_45 : decode cX0_readOrders 45 = .ok (.iload 5, 2) := by decide +kernel
theorem dX0_readOrders_47 : decode cX0_readOrders 47 = .ok (.aaload, 1) := by decide +kernel
theorem dX0_readOrders_48 : decode cX0_readOrders 48 = .ok (.getfield 155, 3) := by decide +kernel
theorem dX0_readOrders_51 : decode cX0_readOrders 51 = .ok (.invokestatic 158, 3) := by decide +kernel
theorem dX0_readOrders_54 : decode cX0_readOrders 54 = .ok (.istore_n 3, 1) := by decide +kernel
theorem dX0_readOrders_55 : decode cX0_readOrders 55 = .ok (.iinc 4 1, 3) := by decide +kernel
theorem dX0_readOrders_58 : decode cX0_readOrders 58 = .ok (.iinc 5 1, 3) := by decide +kernel
theorem dX0_readOrders_61 : decode cX0_readOrders 61 = .ok (.goto (-53), 3) := by decide +kernel
theorem dX0_readOrders_64 : decode cX0_readOrders 64 = .ok (.aload_n 0, 1) := by decide +kernel
theorem dX0_readOrders_65 : decode cX0_readOrders 65 = .ok (.getfield 35, 3) := by decide +kernel
theorem dX0_readOrders_68 : decode cX0_readOrders 68 = .ok (.iconst 0, 1) := by decide +kernel
theorem dX0_readOrders_69 : decode cX0_readOrders 69 = .ok (.iload_n 2, 1) := by decide +kernel
theorem dX0_readOrders_70 : decode cX0_readOrders 70 = .ok (.iastore, 1) := by decide +kernel
theorem dX0_readOrders_71 : decode cX0_readOrders 71 = .ok (.aload_n 0, 1) := by decide +kernel
theorem dX0_readOrders_72 : decode cX0_readOrders 72 = .ok (.getfield 35, 3) := by decide +kernel
theorem dX0_readOrders_75 : decode cX0_readOrders 75 = .ok (.iconst 1, 1) := by decide +kernel
theorem dX0_readOrders_76 : decode cX0_readOrders 76 = .ok (.aload_n 0, 1) := by decide +kernel
theorem dX0_readOrders_77 : decode cX0_readOrders 77 = .ok (.getfield 144, 3) := by decide +kernel
theorem dX0_readOrders_80 : decode cX0_readOrders 80 = .ok (.bipush 60, 2) := by decide +kernel
theorem dX0_readOrders_82 : decode cX0_readOrders 82 = .ok (.idiv, 1) := by decide +kernel
theorem dX0_readOrders_83 : decode cX0_readOrders 83 = .ok (.bipush 24, 2) := by decide +kernel
theorem dX0_readOrders_85 : decode cX0_readOrders 85 = .ok (.irem, 1) := by decide +kernel
theorem dX0_readOrders_86 : decode cX0_readOrders 86 = .ok (.iastore, 1) := by decide +kernel
theorem dX0_readOrders_87 : decode cX0_readOrders 87 = .ok (.aload_n 0, 1) := by decide +kernel
theorem dX0_readOrders_88 : decode cX0_readOrders 88 = .ok (.getfield 35, 3) := by decide +kernel
theorem dX0_readOrders_91 : decode cX0_readOrders 91 = .ok (.iconst 2, 1) := by decide +kernel
theorem dX0_readOrders_92 : decode cX0_readOrders 92 = .ok (.iload_n 3, 1) := by decide +kernel
theorem dX0_readOrders_93 : decode cX0_readOrders 93 = .ok (.iastore, 1) := by decide +kernel
theorem dX0_readOrders_94 : decode cX0_readOrders 94 = .ok (.aload_n 0, 1) := by decide +kernel
theorem dX0_readOrders_95 : decode cX0_readOrders 95 = .ok (.getfield 35, 3) := by decide +kernel
theorem dX0_readOrders_98 : decode cX0_readOrders 98 = .ok (.iconst 3, 1) := by decide +kernel
theorem dX0_readOrders_99 : decode cX0_readOrders 99 = .ok (.iload 4, 2) := by decide +kernel
theorem dX0_readOrders_101 : decode cX0_readOrders 101 = .ok (.iastore, 1) := by decide +kernel
theorem dX0_readOrders_102 : decode cX0_readOrders 102 = .ok (.aload_n 0, 1) := by decide +kernel
theorem dX0_readOrders_103 : decode cX0_readOrders 103 = .ok (.getfield 35, 3) := by decide +kernel
theorem dX0_readOrders_106 : decode cX0_readOrders 106 = .ok (.iconst 4, 1) := by decide +kernel
theorem dX0_readOrders_107 : decode cX0_readOrders 107 = .ok (.aload_n 0, 1) := by decide +kernel
theorem dX0_readOrders_108 : decode cX0_readOrders 108 = .ok (.iload_n 1, 1) := by decide +kernel
theorem dX0_readOrders_109 : decode cX0_readOrders 109 = .ok (.aload_n 0, 1) := by decide +kernel
theorem dX0_readOrders_110 : decode cX0_readOrders 110 = .ok (.getfield 144, 3) := by decide +kernel
theorem dX0_readOrders_113 : decode cX0_readOrders 113 = .ok (.invokestatic 94, 3) := by decide +kernel
theorem dX0_readOrders_116 : decode cX0_readOrders 116 = .ok (.invokevirtual 164, 3) := by decide +kernel
theorem dX0_readOrders_119 : decode cX0_readOrders 119 = .ok (.iastore, 1) := by decide +kernel
theorem dX0_readOrders_120 : decode cX0_readOrders 120 = .ok (.iconst 0, 1) := by decide +kernel
theorem dX0_readOrders_121 : decode cX0_readOrders 121 = .ok (.istore 5, 2) := by decide +kernel
theorem dX0_readOrders_123 : decode cX0_readOrders 123 = .ok (.iload 5, 2) := by decide +kernel
theorem dX0_readOrders_125 : decode cX0_readOrders 125 = .ok (.iconst 4, 1) := by decide +kernel
theorem dX0_readOrders_126 : decode cX0_readOrders 126 = .ok (.if_icmp .ge 24, 3) := by decide +kernel
theorem dX0_readOrders_129 : decode cX0_readOrders 129 = .ok (.aload_n 0, 1) := by decide +kernel
theorem dX0_readOrders_130 : decode cX0_readOrders 130 = .ok (.getfield 35, 3) := by decide +kernel
theorem dX0_readOrders_133 : decode cX0_readOrders 133 = .ok (.iconst 5, 1) := by decide +kernel
theorem dX0_readOrders_134 : decode cX0_readOrders 134 = .ok (.iload 5, 2) := by decide +kernel
theorem dX0_readOrders_136 : decode cX0_readOrders 136 = .ok (.iadd, 1) := by decide +kernel
theorem dX0_readOrders_137 : decode cX0_readOrders 137 = .ok (.aload_n 0, 1) := by decide +kernel
theorem dX0_readOrders_138 : decode cX0_readOrders 138 = .ok (.iload 5, 2) := by decide +kernel
theorem dX0_readOrders_140 : decode cX0_readOrders 140 = .ok (.invokevirtual 167, 3) := by decide +kernel
theorem dX0_readOrders_143 : decode cX0_readOrders 143 = .ok (.iastore, 1) := by decide +kernel
theorem dX0_readOrders_144 : decode cX0_readOrders 144 = .ok (.iinc 5 1, 3) := by decide +kernel
theorem dX0_readOrders_147 : decode cX0_readOrders 147 = .ok (.goto (-24), 3) := by decide +kernel
theorem dX0_readOrders_150 : decode cX0_readOrders 150 = .ok (.aload_n 0, 1) := by decide +kernel
theorem dX0_readOrders_151 : decode cX0_readOrders 151 = .ok (.getfield 35, 3) := by decide +kernel
theorem dX0_readOrders_154 : decode cX0_readOrders 154 = .ok (.bipush 9, 2) := by decide +kernel
theorem dX0_readOrders_156 : decode cX0_readOrders 156 = .ok (.aload_n 0, 1) := by decide +kernel
theorem dX0_readOrders_157 : decode cX0_readOrders 157 = .ok (.iconst 0, 1) := by decide +kernel
theorem dX0_readOrders_158 : decode cX0_readOrders 158 = .ok (.invokevirtual 170, 3) := by decide +kernel
theorem dX0_readOrders_161 : decode cX0_readOrders 161 = .ok (.aload_n 0, 1) := by decide +kernel
theorem dX0_readOrders_162 : decode cX0_readOrders 162 = .ok (.iload_n 1, 1) := by decide +kernel
theorem dX0_readOrders_163 : decode cX0_readOrders 163 = .ok (.invokevirtual 118, 3) := by decide +kernel
theorem dX0_readOrders_166 : decode cX0_readOrders 166 = .ok (.iconst (-1), 1) := by decide +kernel
theorem dX0_readOrders_167 : decode cX0_readOrders 167 = .ok (.if_icmp .ne 7, 3) := by decide +kernel
theorem dX0_readOrders_170 : decode cX0_readOrders 170 = .ok (.iconst 0, 1) := by decide +kernel
theorem dX0_readOrders_171 : decode cX0_readOrders 171 = .ok (.goto 4, 3) := by decide +kernel
theorem dX0_readOrders_174 : decode cX0_readOrders 174 = .ok (.iconst 1, 1) := by decide +kernel
theorem dX0_readOrders_175 : decode cX0_readOrders 175 = .ok (.isub, 1) := by decide +kernel
theorem dX0_readOrders_176 : decode cX0_readOrders 176 = .ok (.iastore, 1) := by decide +kernel
theorem dX0_readOrders_177 : decode cX0_readOrders 177 = .ok (.aload_n 0, 1) := by decide +kernel
theorem dX0_readOrders_178 : decode cX0_readOrders 178 = .ok (.getfield 26, 3) := by decide +kernel
theorem dX0_readOrders_181 : decode cX0_readOrders 181 = .ok (.aload_n 0, 1) := by decide +kernel
theorem dX0_readOrders_182 : decode cX0_readOrders 182 = .ok (.getfield 35, 3) := by decide +kernel
theorem dX0_readOrders_185 : decode cX0_readOrders 185 = .ok (.invokevirtual 173, 3) := by decide +kernel
theorem dX0_readOrders_188 : decode cX0_readOrders 188 = .ok (.return_, 1) := by decide +kernel
theorem okX0_readOrders : ab_okM MX0_readOrders 2 := ⟨by decide, ⟨by decide, by decide⟩, ab_in 1058 (by decide +kernel) (by decide +kernel), ab_in 92 (by decide +kernel) (by decide +kernel), by decide +kernel, by decide⟩
set_option maxHeartbeats 4000000 in
set_option maxRecDepth 100000 in
def wX0_readOrders_175 (s1 : Int32) (s2 : Int32) (s3 : Int32) (x : ab_X) (K : ab_X → Prop)  : Prop := (vp_in s1 11 ∧ wX9_run 69 79 (wr x 79 (Int32.toNatClampNeg s1) (s2 - s3)) (fun x15 => K x15))
set_option maxHeartbeats 4000000 in
set_option maxRecDepth 100000 in
theorem sX0_readOrders_175 (s1 : Int32) (s2 : Int32) (s3 : Int32)  (x : ab_X) (K : ab_X → Prop)  (d bc bs : Nat) (hdp : 3 ≤ d)  (h : wX0_readOrders_175 s1 s2 s3 x K ) : EW MX0_readOrders 175 [(0, .ref 66)] [.int s3, .int s2, .int s1, .ref 79] (aS x) d bc bs (liV K) := by
  unfold wX0_readOrders_175 at h
  refine EW_isub (pc2 := 176) rfl dX0_readOrders_175 ?_
  obtain ⟨b14, h⟩ := h
  refine AW_iast (pc2 := 177) rfl dX0_readOrders_176 q79 b14 ?_
  refine EW_aload_n (pc2 := 178) rfl dX0_readOrders_177 0 rfl ?_
  refine AW_getr (r := 69) ⟨gfRX0_26, rfl⟩ (pc2 := 181) rfl dX0_readOrders_178 q66 rfl ?_
  refine EW_aload_n (pc2 := 182) rfl dX0_readOrders_181 0 rfl ?_
  refine AW_getr (r := 79) ⟨gfRX0_35, rfl⟩ (pc2 := 185) rfl dX0_readOrders_182 q66 rfl ?_
  refine AW_invV (M' := MX9_run) [.ref 79] (rest := []) mlRX0_173 okX9_run (pc2 := 188) rfl dX0_readOrders_185 rfl rfl (Nat.le_of_ble_eq_true rfl) (Nat.le_of_ble_eq_true rfl) (d' := 2) (by omega) q69 ⟨by decide, rfl⟩ (EW_mono (fun _ _ hr => ?_) (sX9_run 69 79 (Or.inl rfl : isT 69) (Or.inl rfl : isLA 79) (wr x 79 (Int32.toNatClampNeg s1) (s2 - s3)) _ _ 0 0 (Nat.le_refl _) h))
  obtain ⟨x15, rfl, rfl, h⟩ := hr
  exact EW_vret rfl dX0_readOrders_188 ⟨_, rfl, rfl, h⟩
set_option maxHeartbeats 4000000 in
set_option maxRecDepth 100000 in
def lX0_readOrders_123 (v1 : Int32) (K : ab_X → Prop)  (L123 : Int32 → ab_X → Prop) (v5 : Int32) (x : ab_X) : Prop := ((4 ≤ v5 → wX0_callsThatAre 0 x (fun r10 => wX0_openAt v1 x (fun r11 => ((¬ r11 = (-1) → wX0_readOrders_175 9 r10 1 x K) ∧ (r11 = (-1) → wX0_readOrders_175 9 r10 0 x K))))) ∧ (¬ 4 ≤ v5 → wX0_readyOf v5 x (fun r12 => (vp_in (5 + v5) 11 ∧ L123 (v5 + 1) (wr x 79 (Int32.toNatClampNeg (5 + v5)) r12)))))
set_option maxHeartbeats 4000000 in
set_option maxRecDepth 100000 in
theorem sX0_readOrders_123 (v1 : Int32) (v5 : Int32)  (x : ab_X) (K : ab_X → Prop)  (d bc bs : Nat) (hdp : 3 ≤ d)  (h : Lp2 (lX0_readOrders_123 v1 K ) v5 x) : EW MX0_readOrders 123 [(0, .ref 66), (1, .int v1), (5, .int v5)] [] (aS x) d bc bs (liV K) := by
  refine Lp2.use (P := fun v5 x => EW MX0_readOrders 123 [(0, .ref 66), (1, .int v1), (5, .int v5)] [] (aS x) d bc bs (liV K)) (fun L123 v5 x hL123 h => ?_) v5 x h
  unfold lX0_readOrders_123 at h
  refine EW_iload (pc2 := 125) rfl dX0_readOrders_123 2 rfl ?_
  refine EW_iconst (pc2 := 126) (v := 4) rfl dX0_readOrders_125 (by decide) ?_
  refine EW_icmp_ge (tgt := 150) (pc2 := 129) rfl dX0_readOrders_126 (by decide) (fun q => ?_) (fun q => ?_)
  · replace h := h.1 q
    refine EW_aload_n (pc2 := 151) rfl dX0_readOrders_150 0 rfl ?_
    refine AW_getr (r := 79) ⟨gfRX0_35, rfl⟩ (pc2 := 154) rfl dX0_readOrders_151 q66 rfl ?_
    refine EW_bipush (pc2 := 156) (v := 9) rfl dX0_readOrders_154 (by decide) ?_
    refine EW_aload_n (pc2 := 157) rfl dX0_readOrders_156 0 rfl ?_
    refine EW_iconst (pc2 := 158) (v := 0) rfl dX0_readOrders_157 (by decide) ?_
    refine AW_invV (M' := MX0_callsThatAre) [.int 0] (rest := [.int 9, .ref 79]) mlRX0_170 okX0_callsThatAre (pc2 := 161) rfl dX0_readOrders_158 rfl rfl (Nat.le_of_ble_eq_true rfl) (Nat.le_of_ble_eq_true rfl) (d' := 0) (by omega) q66 ⟨by decide, rfl⟩ (EW_mono (fun _ _ hr => ?_) (sX0_callsThatAre 0  x _ _ 0 0 (Nat.le_refl _) h))
    obtain ⟨r10, rfl, rfl, h⟩ := hr
    refine EW_aload_n (pc2 := 162) rfl dX0_readOrders_161 0 rfl ?_
    refine EW_iload_n (pc2 := 163) rfl dX0_readOrders_162 1 rfl ?_
    refine AW_invV (M' := MX0_openAt) [.int v1] (rest := [.int r10, .int 9, .ref 79]) mlRX0_118 okX0_openAt (pc2 := 166) rfl dX0_readOrders_163 rfl rfl (Nat.le_of_ble_eq_true rfl) (Nat.le_of_ble_eq_true rfl) (d' := 0) (by omega) q66 ⟨by decide, rfl⟩ (EW_mono (fun _ _ hr => ?_) (sX0_openAt v1  x _ _ 0 0 (Nat.le_refl _) h))
    obtain ⟨r11, rfl, rfl, h⟩ := hr
    refine EW_iconst (pc2 := 167) (v := (-1)) rfl dX0_readOrders_166 (by decide) ?_
    refine EW_icmp_ne (tgt := 174) (pc2 := 170) rfl dX0_readOrders_167 (by decide) (fun q => ?_) (fun q => ?_)
    · replace h := h.1 q
      refine EW_iconst (pc2 := 175) (v := 1) rfl dX0_readOrders_174 (by decide) ?_
      refine EW_ls [0] rfl ?_
      exact sX0_readOrders_175 9 r10 1 x K d bc bs hdp h
    · replace h := h.2 q
      refine EW_iconst (pc2 := 171) (v := 0) rfl dX0_readOrders_170 (by decide) ?_
      refine EW_goto (tgt := 175) dX0_readOrders_171 (by decide) ?_
      refine EW_ls [0] rfl ?_
      exact sX0_readOrders_175 9 r10 0 x K d bc bs hdp h
  · replace h := h.2 q
    refine EW_aload_n (pc2 := 130) rfl dX0_readOrders_129 0 rfl ?_
    refine AW_getr (r := 79) ⟨gfRX0_35, rfl⟩ (pc2 := 133) rfl dX0_readOrders_130 q66 rfl ?_
    refine EW_iconst (pc2 := 134) (v := 5) rfl dX0_readOrders_133 (by decide) ?_
    refine EW_iload (pc2 := 136) rfl dX0_readOrders_134 2 rfl ?_
    refine EW_iadd (pc2 := 137) rfl dX0_readOrders_136 ?_
    refine EW_aload_n (pc2 := 138) rfl dX0_readOrders_137 0 rfl ?_
    refine EW_iload (pc2 := 140) rfl dX0_readOrders_138 2 rfl ?_
    refine AW_invV (M' := MX0_readyOf) [.int v5] (rest := [.int (5 + v5), .ref 79]) mlRX0_167 okX0_readyOf (pc2 := 143) rfl dX0_readOrders_140 rfl rfl (Nat.le_of_ble_eq_true rfl) (Nat.le_of_ble_eq_true rfl) (d' := 0) (by omega) q66 ⟨by decide, rfl⟩ (EW_mono (fun _ _ hr => ?_) (sX0_readyOf v5  x _ _ 0 0 (Nat.le_refl _) h))
    obtain ⟨r12, rfl, rfl, h⟩ := hr
    obtain ⟨b13, h⟩ := h
    refine AW_iast (pc2 := 144) rfl dX0_readOrders_143 q79 b13 ?_
    refine EW_iinc (v5 + 1) (pc2 := 147) rfl dX0_readOrders_144 2 rfl rfl (by decide) [1, 2, 0] [(0, .ref 66), (1, .int v1), (5, .int (v5 + 1))] rfl ?_
    refine EW_goto (tgt := 123) dX0_readOrders_147 (by decide) ?_
    exact hL123 (v5 + 1) (wr x 79 (Int32.toNatClampNeg (5 + v5)) r12) h
set_option maxHeartbeats 4000000 in
set_option maxRecDepth 100000 in
def lX0_readOrders_8 (v1 : Int32) (v2 : Int32) (x : ab_X) (K : ab_X → Prop)  (L8 : Int32 → Int32 → Int32 → Prop) (v3 : Int32) (v4 : Int32) (v5 : Int32) : Prop := (((x.1 9 2) ≤ v5 → (vp_in 0 11 ∧ vp_in 1 11 ∧ vp_in 2 11 ∧ vp_in 3 11 ∧ wX6_partOf ((wr (wr (wr (wr x 79 (Int32.toNatClampNeg 0) v2) 79 (Int32.toNatClampNeg 1) ((((wr x 79 (Int32.toNatClampNeg 0) v2).1 66 12) / 60) - (((wr x 79 (Int32.toNatClampNeg 0) v2).1 66 12) / 60) / 24 * 24)) 79 (Int32.toNatClampNeg 2) v3) 79 (Int32.toNatClampNeg 3) v4).1 66 12) (wr (wr (wr (wr x 79 (Int32.toNatClampNeg 0) v2) 79 (Int32.toNatClampNeg 1) ((((wr x 79 (Int32.toNatClampNeg 0) v2).1 66 12) / 60) - (((wr x 79 (Int32.toNatClampNeg 0) v2).1 66 12) / 60) / 24 * 24)) 79 (Int32.toNatClampNeg 2) v3) 79 (Int32.toNatClampNeg 3) v4) (fun r5 => wX0_falseHundredths v1 r5 (wr (wr (wr (wr x 79 (Int32.toNatClampNeg 0) v2) 79 (Int32.toNatClampNeg 1) ((((wr x 79 (Int32.toNatClampNeg 0) v2).1 66 12) / 60) - (((wr x 79 (Int32.toNatClampNeg 0) v2).1 66 12) / 60) / 24 * 24)) 79 (Int32.toNatClampNeg 2) v3) 79 (Int32.toNatClampNeg 3) v4) (fun r6 => (vp_in 4 11 ∧ Lp2 (lX0_readOrders_123 v1 K ) 0 (wr (wr (wr (wr (wr x 79 (Int32.toNatClampNeg 0) v2) 79 (Int32.toNatClampNeg 1) ((((wr x 79 (Int32.toNatClampNeg 0) v2).1 66 12) / 60) - (((wr x 79 (Int32.toNatClampNeg 0) v2).1 66 12) / 60) / 24 * 24)) 79 (Int32.toNatClampNeg 2) v3) 79 (Int32.toNatClampNeg 3) v4) 79 (Int32.toNatClampNeg 4) r6)))))) ∧ (¬ (x.1 9 2) ≤ v5 → (vp_in v5 12 ∧ ((¬ (x.1 (30 + 3 * Int32.toNatClampNeg v5) 1) = v1 → L8 v3 v4 (v5 + 1)) ∧ ((x.1 (30 + 3 * Int32.toNatClampNeg v5) 1) = v1 → (vp_in v5 12 ∧ L8 (imax v3 (x.1 (30 + 3 * Int32.toNatClampNeg v5) 3)) (v4 + 1) (v5 + 1)))))))
set_option maxHeartbeats 4000000 in
set_option maxRecDepth 100000 in
theorem sX0_readOrders_8 (v1 : Int32) (v2 : Int32) (v3 : Int32) (v4 : Int32) (v5 : Int32)  (x : ab_X) (K : ab_X → Prop)  (d bc bs : Nat) (hdp : 3 ≤ d)  (h : Lp3 (lX0_readOrders_8 v1 v2 x K ) v3 v4 v5) : EW MX0_readOrders 8 [(0, .ref 66), (1, .int v1), (2, .int v2), (3, .int v3), (4, .int v4), (5, .int v5)] [] (aS x) d bc bs (liV K) := by
  refine Lp3.use (P := fun v3 v4 v5 => EW MX0_readOrders 8 [(0, .ref 66), (1, .int v1), (2, .int v2), (3, .int v3), (4, .int v4), (5, .int v5)] [] (aS x) d bc bs (liV K)) (fun L8 v3 v4 v5 hL8 h => ?_) v3 v4 v5 h
  unfold lX0_readOrders_8 at h
  refine EW_iload (pc2 := 10) rfl dX0_readOrders_8 5 rfl ?_
  refine EW_aload_n (pc2 := 11) rfl dX0_readOrders_10 0 rfl ?_
  refine AW_getr (r := 9) ⟨gfRX0_49, rfl⟩ (pc2 := 14) rfl dX0_readOrders_11 q66 rfl ?_
  refine AW_geti ⟨gfRX0_147, rfl⟩ (pc2 := 17) rfl dX0_readOrders_14 q9 ?_
  refine EW_icmp_ge (tgt := 64) (pc2 := 20) rfl dX0_readOrders_17 (by decide) (fun q => ?_) (fun q => ?_)
  · replace h := h.1 q
    refine EW_aload_n (pc2 := 65) rfl dX0_readOrders_64 0 rfl ?_
    refine AW_getr (r := 79) ⟨gfRX0_35, rfl⟩ (pc2 := 68) rfl dX0_readOrders_65 q66 rfl ?_
    refine EW_iconst (pc2 := 69) (v := 0) rfl dX0_readOrders_68 (by decide) ?_
    refine EW_iload_n (pc2 := 70) rfl dX0_readOrders_69 2 rfl ?_
    obtain ⟨b1, h⟩ := h
    refine AW_iast (pc2 := 71) rfl dX0_readOrders_70 q79 b1 ?_
    refine EW_aload_n (pc2 := 72) rfl dX0_readOrders_71 0 rfl ?_
    refine AW_getr (r := 79) ⟨gfRX0_35, rfl⟩ (pc2 := 75) rfl dX0_readOrders_72 q66 rfl ?_
    refine EW_iconst (pc2 := 76) (v := 1) rfl dX0_readOrders_75 (by decide) ?_
    refine EW_aload_n (pc2 := 77) rfl dX0_readOrders_76 0 rfl ?_
    refine AW_geti ⟨gfRX0_144, rfl⟩ (pc2 := 80) rfl dX0_readOrders_77 q66 ?_
    refine EW_bipush (pc2 := 82) (v := 60) rfl dX0_readOrders_80 (by decide) ?_
    refine EW_idiv (pc2 := 83) rfl dX0_readOrders_82 (by decide) ?_
    refine EW_bipush (pc2 := 85) (v := 24) rfl dX0_readOrders_83 (by decide) ?_
    refine EW_irem (pc2 := 86) rfl dX0_readOrders_85 (by decide) ?_
    obtain ⟨b2, h⟩ := h
    refine AW_iast (pc2 := 87) rfl dX0_readOrders_86 q79 b2 ?_
    refine EW_aload_n (pc2 := 88) rfl dX0_readOrders_87 0 rfl ?_
    refine AW_getr (r := 79) ⟨gfRX0_35, rfl⟩ (pc2 := 91) rfl dX0_readOrders_88 q66 rfl ?_
    refine EW_iconst (pc2 := 92) (v := 2) rfl dX0_readOrders_91 (by decide) ?_
    refine EW_iload_n (pc2 := 93) rfl dX0_readOrders_92 3 rfl ?_
    obtain ⟨b3, h⟩ := h
    refine AW_iast (pc2 := 94) rfl dX0_readOrders_93 q79 b3 ?_
    refine EW_aload_n (pc2 := 95) rfl dX0_readOrders_94 0 rfl ?_
    refine AW_getr (r := 79) ⟨gfRX0_35, rfl⟩ (pc2 := 98) rfl dX0_readOrders_95 q66 rfl ?_
    refine EW_iconst (pc2 := 99) (v := 3) rfl dX0_readOrders_98 (by decide) ?_
    refine EW_iload (pc2 := 101) rfl dX0_readOrders_99 4 rfl ?_
    obtain ⟨b4, h⟩ := h
    refine AW_iast (pc2 := 102) rfl dX0_readOrders_101 q79 b4 ?_
    refine EW_aload_n (pc2 := 103) rfl dX0_readOrders_102 0 rfl ?_
    refine AW_getr (r := 79) ⟨gfRX0_35, rfl⟩ (pc2 := 106) rfl dX0_readOrders_103 q66 rfl ?_
    refine EW_iconst (pc2 := 107) (v := 4) rfl dX0_readOrders_106 (by decide) ?_
    refine EW_aload_n (pc2 := 108) rfl dX0_readOrders_107 0 rfl ?_
    refine EW_iload_n (pc2 := 109) rfl dX0_readOrders_108 1 rfl ?_
    refine EW_aload_n (pc2 := 110) rfl dX0_readOrders_109 0 rfl ?_
    refine AW_geti ⟨gfRX0_144, rfl⟩ (pc2 := 113) rfl dX0_readOrders_110 q66 ?_
    refine AW_invS (M' := MX6_partOf) [.int ((wr (wr (wr (wr x 79 (Int32.toNatClampNeg 0) v2) 79 (Int32.toNatClampNeg 1) ((((wr x 79 (Int32.toNatClampNeg 0) v2).1 66 12) / 60) - (((wr x 79 (Int32.toNatClampNeg 0) v2).1 66 12) / 60) / 24 * 24)) 79 (Int32.toNatClampNeg 2) v3) 79 (Int32.toNatClampNeg 3) v4).1 66 12)] (rest := [.int v1, .ref 66, .int 4, .ref 79]) mlRX0_94 okX6_partOf (pc2 := 116) rfl dX0_readOrders_113 rfl rfl (Nat.le_of_ble_eq_true rfl) (Nat.le_of_ble_eq_true rfl) (d' := 0) (by omega) (EW_mono (fun _ _ hr => ?_) (sX6_partOf ((wr (wr (wr (wr x 79 (Int32.toNatClampNeg 0) v2) 79 (Int32.toNatClampNeg 1) ((((wr x 79 (Int32.toNatClampNeg 0) v2).1 66 12) / 60) - (((wr x 79 (Int32.toNatClampNeg 0) v2).1 66 12) / 60) / 24 * 24)) 79 (Int32.toNatClampNeg 2) v3) 79 (Int32.toNatClampNeg 3) v4).1 66 12)  (wr (wr (wr (wr x 79 (Int32.toNatClampNeg 0) v2) 79 (Int32.toNatClampNeg 1) ((((wr x 79 (Int32.toNatClampNeg 0) v2).1 66 12) / 60) - (((wr x 79 (Int32.toNatClampNeg 0) v2).1 66 12) / 60) / 24 * 24)) 79 (Int32.toNatClampNeg 2) v3) 79 (Int32.toNatClampNeg 3) v4) _ _ 0 0 (Nat.le_refl _) h))
    obtain ⟨r5, rfl, rfl, h⟩ := hr
    refine AW_invV (M' := MX0_falseHundredths) [.int v1, .int r5] (rest := [.int 4, .ref 79]) mlRX0_164 okX0_falseHundredths (pc2 := 119) rfl dX0_readOrders_116 rfl rfl (Nat.le_of_ble_eq_true rfl) (Nat.le_of_ble_eq_true rfl) (d' := 1) (by omega) q66 ⟨by decide, rfl⟩ (EW_mono (fun _ _ hr => ?_) (sX0_falseHundredths v1 r5  (wr (wr (wr (wr x 79 (Int32.toNatClampNeg 0) v2) 79 (Int32.toNatClampNeg 1) ((((wr x 79 (Int32.toNatClampNeg 0) v2).1 66 12) / 60) - (((wr x 79 (Int32.toNatClampNeg 0) v2).1 66 12) / 60) / 24 * 24)) 79 (Int32.toNatClampNeg 2) v3) 79 (Int32.toNatClampNeg 3) v4) _ _ 0 0 (Nat.le_refl _) h))
    obtain ⟨r6, rfl, rfl, h⟩ := hr
    obtain ⟨b7, h⟩ := h
    refine AW_iast (pc2 := 120) rfl dX0_readOrders_119 q79 b7 ?_
    refine EW_iconst (pc2 := 121) (v := 0) rfl dX0_readOrders_120 (by decide) ?_
    refine EW_istore (pc2 := 123) rfl dX0_readOrders_121 (by decide) [1, 2, 3, 4, 5, 0] [(0, .ref 66), (1, .int v1), (2, .int v2), (3, .int v3), (4, .int v4), (5, .int 0)] rfl ?_
    refine EW_ls [0, 1, 5] rfl ?_
    exact sX0_readOrders_123 v1 0 (wr (wr (wr (wr (wr x 79 (Int32.toNatClampNeg 0) v2) 79 (Int32.toNatClampNeg 1) ((((wr x 79 (Int32.toNatClampNeg 0) v2).1 66 12) / 60) - (((wr x 79 (Int32.toNatClampNeg 0) v2).1 66 12) / 60) / 24 * 24)) 79 (Int32.toNatClampNeg 2) v3) 79 (Int32.toNatClampNeg 3) v4) 79 (Int32.toNatClampNeg 4) r6) K d bc bs hdp h
  · replace h := h.2 q
    refine EW_aload_n (pc2 := 21) rfl dX0_readOrders_20 0 rfl ?_
    refine AW_getr (r := 9) ⟨gfRX0_49, rfl⟩ (pc2 := 24) rfl dX0_readOrders_21 q66 rfl ?_
    refine AW_getr (r := 10) ⟨gfRX0_148, rfl⟩ (pc2 := 27) rfl dX0_readOrders_24 q9 rfl ?_
    refine EW_iload (pc2 := 29) rfl dX0_readOrders_27 5 rfl ?_
    obtain ⟨b8, h⟩ := h
    refine AW_aald5 (pc2 := 30) rfl dX0_readOrders_29 b8 ?_
    refine AW_geti ⟨gfRX0_152, rfl⟩ (pc2 := 33) rfl dX0_readOrders_30 (isH.o (isH_of b8)) ?_
    refine EW_iload_n (pc2 := 34) rfl dX0_readOrders_33 1 rfl ?_
    refine EW_icmp_ne (tgt := 58) (pc2 := 37) rfl dX0_readOrders_34 (by decide) (fun q => ?_) (fun q => ?_)
    · replace h := h.1 q
      refine EW_iinc (v5 + 1) (pc2 := 61) rfl dX0_readOrders_58 5 rfl rfl (by decide) [1, 2, 3, 4, 5, 0] [(0, .ref 66), (1, .int v1), (2, .int v2), (3, .int v3), (4, .int v4), (5, .int (v5 + 1))] rfl ?_
      refine EW_goto (tgt := 8) dX0_readOrders_61 (by decide) ?_
      exact hL8 v3 v4 (v5 + 1) h
    · replace h := h.2 q
      refine EW_iload_n (pc2 := 38) rfl dX0_readOrders_37 3 rfl ?_
      refine EW_aload_n (pc2 := 39) rfl dX0_readOrders_38 0 rfl ?_
      refine AW_getr (r := 9) ⟨gfRX0_49, rfl⟩ (pc2 := 42) rfl dX0_readOrders_39 q66 rfl ?_
      refine AW_getr (r := 10) ⟨gfRX0_148, rfl⟩ (pc2 := 45) rfl dX0_readOrders_42 q9 rfl ?_
      refine EW_iload (pc2 := 47) rfl dX0_readOrders_45 5 rfl ?_
      obtain ⟨b9, h⟩ := h
      refine AW_aald5 (pc2 := 48) rfl dX0_readOrders_47 b9 ?_
      refine AW_geti ⟨gfRX0_155, rfl⟩ (pc2 := 51) rfl dX0_readOrders_48 (isH.o (isH_of b9)) ?_
      refine AW_mmax mmRX0_158 (pc2 := 54) rfl dX0_readOrders_51 (Nat.le_of_ble_eq_true rfl) (by omega) ?_
      refine EW_istore_n (pc2 := 55) rfl dX0_readOrders_54 (by decide) [1, 2, 3, 0, 4, 5] [(0, .ref 66), (1, .int v1), (2, .int v2), (3, .int (imax v3 (x.1 (30 + 3 * Int32.toNatClampNeg v5) 3))), (4, .int v4), (5, .int v5)] rfl ?_
      refine EW_iinc (v4 + 1) (pc2 := 58) rfl dX0_readOrders_55 4 rfl rfl (by decide) [1, 2, 3, 4, 0, 5] [(0, .ref 66), (1, .int v1), (2, .int v2), (3, .int (imax v3 (x.1 (30 + 3 * Int32.toNatClampNeg v5) 3))), (4, .int (v4 + 1)), (5, .int v5)] rfl ?_
      refine EW_iinc (v5 + 1) (pc2 := 61) rfl dX0_readOrders_58 5 rfl rfl (by decide) [1, 2, 3, 4, 5, 0] [(0, .ref 66), (1, .int v1), (2, .int v2), (3, .int (imax v3 (x.1 (30 + 3 * Int32.toNatClampNeg v5) 3))), (4, .int (v4 + 1)), (5, .int (v5 + 1))] rfl ?_
      refine EW_goto (tgt := 8) dX0_readOrders_61 (by decide) ?_
      exact hL8 (imax v3 (x.1 (30 + 3 * Int32.toNatClampNeg v5) 3)) (v4 + 1) (v5 + 1) h
set_option maxHeartbeats 4000000 in
set_option maxRecDepth 100000 in
def wX0_readOrders (v1 : Int32) (v2 : Int32) (x : ab_X) (K : ab_X → Prop) : Prop := Lp3 (lX0_readOrders_8 v1 v2 x K ) 0 0 0
set_option maxHeartbeats 4000000 in
set_option maxRecDepth 100000 in
theorem sX0_readOrders (v1 : Int32) (v2 : Int32)  (x : ab_X) (K : ab_X → Prop) (d bc bs : Nat) (hdp : 3 ≤ d) (h : wX0_readOrders v1 v2 x K) : EW MX0_readOrders 0 [(0, .ref 66), (1, .int v1), (2, .int v2)] [] (aS x) d bc bs (liV K) := by
  unfold wX0_readOrders at h
  refine EW_iconst (pc2 := 1) (v := 0) rfl dX0_readOrders_0 (by decide) ?_
  refine EW_istore_n (pc2 := 2) rfl dX0_readOrders_1 (by decide) [1, 2, 3, 0] [(0, .ref 66), (1, .int v1), (2, .int v2), (3, .int 0)] rfl ?_
  refine EW_iconst (pc2 := 3) (v := 0) rfl dX0_readOrders_2 (by decide) ?_
  refine EW_istore (pc2 := 5) rfl dX0_readOrders_3 (by decide) [1, 2, 3, 4, 0] [(0, .ref 66), (1, .int v1), (2, .int v2), (3, .int 0), (4, .int 0)] rfl ?_
  refine EW_iconst (pc2 := 6) (v := 0) rfl dX0_readOrders_5 (by decide) ?_
  refine EW_istore (pc2 := 8) rfl dX0_readOrders_6 (by decide) [1, 2, 3, 4, 5, 0] [(0, .ref 66), (1, .int v1), (2, .int v2), (3, .int 0), (4, .int 0), (5, .int 0)] rfl ?_
  exact sX0_readOrders_8 v1 v2 0 0 0 x K d bc bs hdp h
abbrev MX0_findArrivals : ab_M := (yX0_findArrivals, cX0_findArrivals, 5, none)
theorem dX0_findArrivals_0 : decode cX0_findArrivals 0 = .ok (.iconst 0, 1) := by decide +kernel
theorem dX0_findArrivals_1 : decode cX0_findArrivals 1 = .ok (.istore_n 3, 1) := by decide +kernel
theorem dX0_findArrivals_2 : decode cX0_findArrivals 2 = .ok (.iload_n 3, 1) := by decide +kernel
theorem dX0_findArrivals_3 : decode cX0_findArrivals 3 = .ok (.aload_n 0, 1) := by decide +kernel
theorem dX0_findArrivals_4 : decode cX0_findArrivals 4 = .ok (.getfield 55, 3) := by decide +kernel
theorem dX0_findArrivals_7 : decode cX0_findArrivals 7 = .ok (.if_icmp .ge 67, 3) := by decide +kernel
theorem dX0_findArrivals_10 : decode cX0_findArrivals 10 = .ok (.aload_n 0, 1) := by decide +kernel
theorem dX0_findArrivals_11 : decode cX0_findArrivals 11 = .ok (.getfield 11, 3) := by decide +kernel
theorem dX0_findArrivals_14 : decode cX0_findArrivals 14 = .ok (.iload_n 3, 1) := by decide +kernel
theorem dX0_findArrivals_15 : decode cX0_findArrivals 15 = .ok (.aaload, 1) := by decide +kernel
theorem dX0_findArrivals_16 : decode cX0_findArrivals 16 = .ok (.getfield 75, 3) := by decide +kernel
theorem dX0_findArrivals_19 : decode cX0_findArrivals 19 = .ok (.ifCond .ne 20, 3) := by decide +kernel
theorem dX0_findArrivals_22 : decode cX0_findArrivals 22 = .ok (.aload_n 0, 1) := by decide +kernel
theorem dX0_findArrivals_23 : decode cX0_findArrivals 23 = .ok (.getfield 11, 3) := by decide +kernel
theorem dX0_findArrivals_26 : decode cX0_findArrivals 26 = .ok (.iload_n 3, 1) := by decide +kernel
theorem dX0_findArrivals_27 : decode cX0_findArrivals 27 = .ok (.aaload, 1) := by decide +kernel
theorem dX0_findArrivals_28 : decode cX0_findArrivals 28 = .ok (.getfield 63, 3) := by decide +kernel
theorem dX0_findArrivals_31 : decode cX0_findArrivals 31 = .ok (.iload_n 2, 1) := by decide +kernel
theorem dX0_findArrivals_32 : decode cX0_findArrivals 32 = .ok (.if_icmp .ne 7, 3) := by decide +kernel
theorem dX0_findArrivals_35 : decode cX0_findArrivals 35 = .ok (.iconst 1, 1) := by decide +kernel
theorem dX0_findArrivals_36 : decode cX0_findArrivals 36 = .ok (.goto 4, 3) := by decide +kernel
theorem dX0_findArrivals_39 : decode cX0_findArrivals 39 = .ok (.iconst 0, 1) := by decide +kernel
theorem dX0_findArrivals_40 : decode cX0_findArrivals 40 = .ok (.istore 4, 2) := by decide +kernel
theorem dX0_findArrivals_42 : decode cX0_findArrivals 42 = .ok (.aload_n 0, 1) := by decide +kernel
theorem dX0_findArrivals_43 : decode cX0_findArrivals 43 = .ok (.getfield 39, 3) := by decide +kernel
theorem dX0_findArrivals_46 : decode cX0_findArrivals 46 = .ok (.iload_n 3, 1) := by decide +kernel
theorem dX0_findArrivals_47 : decode cX0_findArrivals 47 = .ok (.iload 4, 2) := by decide +kernel
theorem dX0_findArrivals_49 : decode cX0_findArrivals 49 = .ok (.ifCond .eq 17, 3) := by decide +kernel
theorem dX0_findArrivals_52 : decode cX0_findArrivals 52 = .ok (.aload_n 0, 1) := by decide +kernel
theorem dX0_findArrivals_53 : decode cX0_findArrivals 53 = .ok (.aload_n 0, 1) := by decide +kernel
theorem dX0_findArrivals_54 : decode cX0_findArrivals 54 = .ok (.getfield 11, 3) := by decide +kernel
theorem dX0_findArrivals_57 : decode cX0_findArrivals 57 = .ok (.iload_n 3, 1) := by decide +kernel
theorem dX0_findArrivals_58 : decode cX0_findArrivals 58 = .ok (.aaload, 1) := by decide +kernel
theorem dX0_findArrivals_59 : decode cX0_findArrivals 59 = .ok (.iload_n 1, 1) := by decide +kernel
theorem dX0_findArrivals_60 : decode cX0_findArrivals 60 = .ok (.invokevirtual 194, 3) := by decide +kernel
theorem dX0_findArrivals_63 : decode cX0_findArrivals 63 = .ok (.goto 4, 3) := by decide +kernel
theorem dX0_findArrivals_66 : decode cX0_findArrivals 66 = .ok (.iconst (-1), 1) := by decide +kernel
theorem dX0_findArrivals_67 : decode cX0_findArrivals 67 = .ok (.iastore, 1) := by decide +kernel
theorem dX0_findArrivals_68 : decode cX0_findArrivals 68 = .ok (.iinc 3 1, 3) := by decide +kernel
theorem dX0_findArrivals_71 : decode cX0_findArrivals 71 = .ok (.goto (-69), 3) := by decide +kernel
theorem dX0_findArrivals_74 : decode cX0_findArrivals 74 = .ok (.return_, 1) := by decide +kernel
theorem okX0_findArrivals : ab_okM MX0_findArrivals 2 := ⟨by decide, ⟨by decide, by decide⟩, ab_in 1122 (by decide +kernel) (by decide +kernel), ab_in 92 (by decide +kernel) (by decide +kernel), by decide +kernel, by decide⟩
set_option maxHeartbeats 4000000 in
set_option maxRecDepth 100000 in
def wX0_findArrivals_40 (v1 : Int32) (v2 : Int32) (v3 : Int32) (s0 : Int32) (x : ab_X) (K : ab_X → Prop) (L2 : Int32 → ab_X → Prop) : Prop := ((s0 = 0 → (vp_in v3 16 ∧ L2 (v3 + 1) (wr x 80 (Int32.toNatClampNeg v3) (-1)))) ∧ (¬ s0 = 0 → (vp_in v3 16 ∧ wX0_arrivalOf (82 + Int32.toNatClampNeg v3) v1 x (fun r5 x6 => (vp_in v3 16 ∧ L2 (v3 + 1) (wr x6 80 (Int32.toNatClampNeg v3) r5))))))
set_option maxHeartbeats 4000000 in
set_option maxRecDepth 100000 in
theorem sX0_findArrivals_40 (v1 : Int32) (v2 : Int32) (v3 : Int32) (s0 : Int32)  (x : ab_X) (K : ab_X → Prop) (L2 : Int32 → ab_X → Prop) (d bc bs : Nat) (hdp : 3 ≤ d) (hL2 : ∀ (v3 : Int32) (x : ab_X), L2 v3 x → EW MX0_findArrivals 2 [(0, .ref 66), (1, .int v1), (2, .int v2), (3, .int v3)] [] (aS x) d bc bs (liV K)) (h : wX0_findArrivals_40 v1 v2 v3 s0 x K L2) : EW MX0_findArrivals 40 [(0, .ref 66), (1, .int v1), (2, .int v2), (3, .int v3)] [.int s0] (aS x) d bc bs (liV K) := by
  unfold wX0_findArrivals_40 at h
  refine EW_istore (pc2 := 42) rfl dX0_findArrivals_40 (by decide) [1, 2, 3, 4, 0] [(0, .ref 66), (1, .int v1), (2, .int v2), (3, .int v3), (4, .int s0)] rfl ?_
  refine EW_aload_n (pc2 := 43) rfl dX0_findArrivals_42 0 rfl ?_
  refine AW_getr (r := 80) ⟨gfRX0_39, rfl⟩ (pc2 := 46) rfl dX0_findArrivals_43 q66 rfl ?_
  refine EW_iload_n (pc2 := 47) rfl dX0_findArrivals_46 3 rfl ?_
  refine EW_iload (pc2 := 49) rfl dX0_findArrivals_47 4 rfl ?_
  refine EW_if_eq (tgt := 66) (pc2 := 52) rfl dX0_findArrivals_49 (by decide) (fun q => ?_) (fun q => ?_)
  · replace h := h.1 q
    refine EW_iconst (pc2 := 67) (v := (-1)) rfl dX0_findArrivals_66 (by decide) ?_
    obtain ⟨b3, h⟩ := h
    refine AW_iast (pc2 := 68) rfl dX0_findArrivals_67 q80 b3 ?_
    refine EW_iinc (v3 + 1) (pc2 := 71) rfl dX0_findArrivals_68 3 rfl rfl (by decide) [1, 2, 3, 0, 4] [(0, .ref 66), (1, .int v1), (2, .int v2), (3, .int (v3 + 1)), (4, .int s0)] rfl ?_
    refine EW_goto (tgt := 2) dX0_findArrivals_71 (by decide) ?_
    refine EW_ls [0, 1, 2, 3] rfl ?_
    exact hL2 (v3 + 1) (wr x 80 (Int32.toNatClampNeg v3) (-1)) h
  · replace h := h.2 q
    refine EW_aload_n (pc2 := 53) rfl dX0_findArrivals_52 0 rfl ?_
    refine EW_aload_n (pc2 := 54) rfl dX0_findArrivals_53 0 rfl ?_
    refine AW_getr (r := 67) ⟨gfRX0_11, rfl⟩ (pc2 := 57) rfl dX0_findArrivals_54 q66 rfl ?_
    refine EW_iload_n (pc2 := 58) rfl dX0_findArrivals_57 3 rfl ?_
    obtain ⟨b4, h⟩ := h
    refine AW_aald6 (pc2 := 59) rfl dX0_findArrivals_58 b4 ?_
    refine EW_iload_n (pc2 := 60) rfl dX0_findArrivals_59 1 rfl ?_
    refine AW_invV (M' := MX0_arrivalOf) [.ref (82 + Int32.toNatClampNeg v3), .int v1] (rest := [.int v3, .ref 80]) mlRX0_194 okX0_arrivalOf (pc2 := 63) rfl dX0_findArrivals_60 rfl rfl (Nat.le_of_ble_eq_true rfl) (Nat.le_of_ble_eq_true rfl) (d' := 2) (by omega) q66 ⟨by decide, rfl⟩ (EW_mono (fun _ _ hr => ?_) (sX0_arrivalOf (82 + Int32.toNatClampNeg v3) v1 (isW_of b4) x _ _ 0 0 (Nat.le_refl _) h))
    obtain ⟨r5, x6, rfl, rfl, h⟩ := hr
    refine EW_goto (tgt := 67) dX0_findArrivals_63 (by decide) ?_
    obtain ⟨b7, h⟩ := h
    refine AW_iast (pc2 := 68) rfl dX0_findArrivals_67 q80 b7 ?_
    refine EW_iinc (v3 + 1) (pc2 := 71) rfl dX0_findArrivals_68 3 rfl rfl (by decide) [1, 2, 3, 0, 4] [(0, .ref 66), (1, .int v1), (2, .int v2), (3, .int (v3 + 1)), (4, .int s0)] rfl ?_
    refine EW_goto (tgt := 2) dX0_findArrivals_71 (by decide) ?_
    refine EW_ls [0, 1, 2, 3] rfl ?_
    exact hL2 (v3 + 1) (wr x6 80 (Int32.toNatClampNeg v3) r5) h
set_option maxHeartbeats 4000000 in
set_option maxRecDepth 100000 in
def wX0_findArrivals_39 (v1 : Int32) (v2 : Int32) (v3 : Int32) (x : ab_X) (K : ab_X → Prop) (L2 : Int32 → ab_X → Prop) : Prop := wX0_findArrivals_40 v1 v2 v3 0 x K L2
set_option maxHeartbeats 4000000 in
set_option maxRecDepth 100000 in
theorem sX0_findArrivals_39 (v1 : Int32) (v2 : Int32) (v3 : Int32)  (x : ab_X) (K : ab_X → Prop) (L2 : Int32 → ab_X → Prop) (d bc bs : Nat) (hdp : 3 ≤ d) (hL2 : ∀ (v3 : Int32) (x : ab_X), L2 v3 x → EW MX0_findArrivals 2 [(0, .ref 66), (1, .int v1), (2, .int v2), (3, .int v3)] [] (aS x) d bc bs (liV K)) (h : wX0_findArrivals_39 v1 v2 v3 x K L2) : EW MX0_findArrivals 39 [(0, .ref 66), (1, .int v1), (2, .int v2), (3, .int v3)] [] (aS x) d bc bs (liV K) := by
  unfold wX0_findArrivals_39 at h
  refine EW_iconst (pc2 := 40) (v := 0) rfl dX0_findArrivals_39 (by decide) ?_
  exact sX0_findArrivals_40 v1 v2 v3 0 x K L2 d bc bs hdp hL2 h
set_option maxHeartbeats 4000000 in
set_option maxRecDepth 100000 in
def lX0_findArrivals_2 (v1 : Int32) (v2 : Int32) (K : ab_X → Prop)  (L2 : Int32 → ab_X → Prop) (v3 : Int32) (x : ab_X) : Prop := (((x.1 66 3) ≤ v3 → K x) ∧ (¬ (x.1 66 3) ≤ v3 → (vp_in v3 16 ∧ ((¬ (x.1 (82 + Int32.toNatClampNeg v3) 8) = 0 → wX0_findArrivals_39 v1 v2 v3 x K L2) ∧ ((x.1 (82 + Int32.toNatClampNeg v3) 8) = 0 → (vp_in v3 16 ∧ ((¬ (x.1 (82 + Int32.toNatClampNeg v3) 0) = v2 → wX0_findArrivals_39 v1 v2 v3 x K L2) ∧ ((x.1 (82 + Int32.toNatClampNeg v3) 0) = v2 → wX0_findArrivals_40 v1 v2 v3 1 x K L2))))))))
set_option maxHeartbeats 4000000 in
set_option maxRecDepth 100000 in
theorem sX0_findArrivals_2 (v1 : Int32) (v2 : Int32) (v3 : Int32)  (x : ab_X) (K : ab_X → Prop)  (d bc bs : Nat) (hdp : 3 ≤ d)  (h : Lp2 (lX0_findArrivals_2 v1 v2 K ) v3 x) : EW MX0_findArrivals 2 [(0, .ref 66), (1, .int v1), (2, .int v2), (3, .int v3)] [] (aS x) d bc bs (liV K) := by
  refine Lp2.use (P := fun v3 x => EW MX0_findArrivals 2 [(0, .ref 66), (1, .int v1), (2, .int v2), (3, .int v3)] [] (aS x) d bc bs (liV K)) (fun L2 v3 x hL2 h => ?_) v3 x h
  unfold lX0_findArrivals_2 at h
  refine EW_iload_n (pc2 := 3) rfl dX0_findArrivals_2 3 rfl ?_
  refine EW_aload_n (pc2 := 4) rfl dX0_findArrivals_3 0 rfl ?_
  refine AW_geti ⟨gfRX0_55, rfl⟩ (pc2 := 7) rfl dX0_findArrivals_4 q66 ?_
  refine EW_icmp_ge (tgt := 74) (pc2 := 10) rfl dX0_findArrivals_7 (by decide) (fun q => ?_) (fun q => ?_)
  · replace h := h.1 q
    exact EW_vret rfl dX0_findArrivals_74 ⟨_, rfl, rfl, h⟩
  · replace h := h.2 q
    refine EW_aload_n (pc2 := 11) rfl dX0_findArrivals_10 0 rfl ?_
    refine AW_getr (r := 67) ⟨gfRX0_11, rfl⟩ (pc2 := 14) rfl dX0_findArrivals_11 q66 rfl ?_
    refine EW_iload_n (pc2 := 15) rfl dX0_findArrivals_14 3 rfl ?_
    obtain ⟨b1, h⟩ := h
    refine AW_aald6 (pc2 := 16) rfl dX0_findArrivals_15 b1 ?_
    refine AW_geti ⟨gfRX0_75, rfl⟩ (pc2 := 19) rfl dX0_findArrivals_16 (isW.o (isW_of b1)) ?_
    refine EW_if_ne (tgt := 39) (pc2 := 22) rfl dX0_findArrivals_19 (by decide) (fun q => ?_) (fun q => ?_)
    · replace h := h.1 q
      exact sX0_findArrivals_39 v1 v2 v3 x K L2 d bc bs hdp hL2 h
    · replace h := h.2 q
      refine EW_aload_n (pc2 := 23) rfl dX0_findArrivals_22 0 rfl ?_
      refine AW_getr (r := 67) ⟨gfRX0_11, rfl⟩ (pc2 := 26) rfl dX0_findArrivals_23 q66 rfl ?_
      refine EW_iload_n (pc2 := 27) rfl dX0_findArrivals_26 3 rfl ?_
      obtain ⟨b2, h⟩ := h
      refine AW_aald6 (pc2 := 28) rfl dX0_findArrivals_27 b2 ?_
      refine AW_geti ⟨gfRX0_63, rfl⟩ (pc2 := 31) rfl dX0_findArrivals_28 (isW.o (isW_of b2)) ?_
      refine EW_iload_n (pc2 := 32) rfl dX0_findArrivals_31 2 rfl ?_
      refine EW_icmp_ne (tgt := 39) (pc2 := 35) rfl dX0_findArrivals_32 (by decide) (fun q => ?_) (fun q => ?_)
      · replace h := h.1 q
        exact sX0_findArrivals_39 v1 v2 v3 x K L2 d bc bs hdp hL2 h
      · replace h := h.2 q
        refine EW_iconst (pc2 := 36) (v := 1) rfl dX0_findArrivals_35 (by decide) ?_
        refine EW_goto (tgt := 40) dX0_findArrivals_36 (by decide) ?_
        exact sX0_findArrivals_40 v1 v2 v3 1 x K L2 d bc bs hdp hL2 h
set_option maxHeartbeats 4000000 in
set_option maxRecDepth 100000 in
def wX0_findArrivals (v1 : Int32) (v2 : Int32) (x : ab_X) (K : ab_X → Prop) : Prop := Lp2 (lX0_findArrivals_2 v1 v2 K ) 0 x
set_option maxHeartbeats 4000000 in
set_option maxRecDepth 100000 in
theorem sX0_findArrivals (v1 : Int32) (v2 : Int32)  (x : ab_X) (K : ab_X → Prop) (d bc bs : Nat) (hdp : 3 ≤ d) (h : wX0_findArrivals v1 v2 x K) : EW MX0_findArrivals 0 [(0, .ref 66), (1, .int v1), (2, .int v2)] [] (aS x) d bc bs (liV K) := by
  unfold wX0_findArrivals at h
  refine EW_iconst (pc2 := 1) (v := 0) rfl dX0_findArrivals_0 (by decide) ?_
  refine EW_istore_n (pc2 := 2) rfl dX0_findArrivals_1 (by decide) [1, 2, 3, 0] [(0, .ref 66), (1, .int v1), (2, .int v2), (3, .int 0)] rfl ?_
  exact sX0_findArrivals_2 v1 v2 0 x K d bc bs hdp h
