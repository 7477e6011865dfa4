theorem mlRX12_500 : Cond.methodLink RX12 500 yX12_actionOf ∈ ab_G ∧ Cond.static yX12_actionOf ∈ ab_G := ⟨ab_in 2475 (by decide +kernel) (by decide +kernel), ab_in 2476 (by decide +kernel) (by decide +kernel)⟩
theorem gfRX12_195 : ab_L RX12 195 12 68 := ⟨by decide, by decide, ab_in 1917 (by decide +kernel) (by decide +kernel)⟩
theorem mmRX12_311 : Cond.methodLink RX12 311 Lib.Math.min.name ∈ ab_G ∧ Cond.static Lib.Math.min.name ∈ ab_G ∧ Cond.initialized "java/lang/Math" ∈ ab_G ∧ Cond.code Lib.Math.min.name Lib.Math.min.code 2 (some .int) ∈ ab_G := ⟨ab_in 2228 (by decide +kernel) (by decide +kernel), ab_in 787 (by decide +kernel) (by decide +kernel), ab_in 100 (by decide +kernel) (by decide +kernel), ab_in 788 (by decide +kernel) (by decide +kernel)⟩
theorem gfRX12_198 : ab_L RX12 198 12 69 := ⟨by decide, by decide, ab_in 1918 (by decide +kernel) (by decide +kernel)⟩
theorem gfRX12_497 : ab_L RX12 497 12 74 := ⟨by decide, by decide, ab_in 1923 (by decide +kernel) (by decide +kernel)⟩
theorem gfRX12_494 : ab_L RX12 494 12 75 := ⟨by decide, by decide, ab_in 1924 (by decide +kernel) (by decide +kernel)⟩
abbrev MX12_clause : ab_M := (yX12_clause, cX12_clause, 6, none)
theorem dX12_clause_0 : decode cX12_clause 0 = .ok (.aload_n 0, 1) := by decide +kernel
theorem dX12_clause_1 : decode cX12_clause 1 = .ok (.invokevirtual 488, 3) := by decide +kernel
theorem dX12_clause_4 : decode cX12_clause 4 = .ok (.istore_n 3, 1) := by decide +kernel
theorem dX12_clause_5 : decode cX12_clause 5 = .ok (.aload_n 0, 1) := by decide +kernel
theorem dX12_clause_6 : decode cX12_clause 6 = .ok (.bipush 63, 2) := by decide +kernel
theorem dX12_clause_8 : decode cX12_clause 8 = .ok (.invokevirtual 472, 3) := by decide +kernel
theorem dX12_clause_11 : decode cX12_clause 11 = .ok (.ifCond .ne 4, 3) := by decide +kernel
theorem dX12_clause_14 : decode cX12_clause 14 = .ok (.return_, 1) := by decide +kernel
theorem dX12_clause_15 : decode cX12_clause 15 = .ok (.iload_n 3, 1) := by decide +kernel
theorem dX12_clause_16 : decode cX12_clause 16 = .ok (.ifCond .eq 21, 3) := by decide +kernel
theorem dX12_clause_19 : decode cX12_clause 19 = .ok (.iload_n 2, 1) := by decide +kernel
theorem dX12_clause_20 : decode cX12_clause 20 = .ok (.bipush 30, 2) := by decide +kernel
theorem dX12_clause_22 : decode cX12_clause 22 = .ok (.if_icmp .ge 15, 3) := by decide +kernel
theorem dX12_clause_25 : decode cX12_clause 25 = .ok (.aload_n 0, 1) := by decide +kernel
theorem dX12_clause_26 : decode cX12_clause 26 = .ok (.dup, 1) := by decide +kernel
theorem dX12_clause_27 : decode cX12_clause 27 = .ok (.getfield 494, 3) := by decide +kernel
theorem dX12_clause_30 : decode cX12_clause 30 = .ok (.iconst 1, 1) := by decide +kernel
theorem dX12_clause_31 : decode cX12_clause 31 = .ok (.iload_n 2, 1) := by decide +kernel
theorem dX12_clause_32 : decode cX12_clause 32 = .ok (.ishl, 1) := by decide +kernel
theorem dX12_clause_33 : decode cX12_clause 33 = .ok (.ior, 1) := by decide +kernel
theorem dX12_clause_34 : decode cX12_clause 34 = .ok (.putfield 494, 3) := by decide +kernel
theorem dX12_clause_37 : decode cX12_clause 37 = .ok (.iload_n 1, 1) := by decide +kernel
theorem dX12_clause_38 : decode cX12_clause 38 = .ok (.ifCond .eq 45, 3) := by decide +kernel
theorem dX12_clause_41 : decode cX12_clause 41 = .ok (.aload_n 0, 1) := by decide +kernel
theorem dX12_clause_42 : decode cX12_clause 42 = .ok (.iconst 3, 1) := by decide +kernel
theorem dX12_clause_43 : decode cX12_clause 43 = .ok (.invokevirtual 463, 3) := by decide +kernel
theorem dX12_clause_46 : decode cX12_clause 46 = .ok (.istore 4, 2) := by decide +kernel
theorem dX12_clause_48 : decode cX12_clause 48 = .ok (.aload_n 0, 1) := by decide +kernel
theorem dX12_clause_49 : decode cX12_clause 49 = .ok (.getfield 432, 3) := by decide +kernel
theorem dX12_clause_52 : decode cX12_clause 52 = .ok (.iconst (-1), 1) := by decide +kernel
theorem dX12_clause_53 : decode cX12_clause 53 = .ok (.if_icmp .ne 7, 3) := by decide +kernel
theorem dX12_clause_56 : decode cX12_clause 56 = .ok (.iload_n 3, 1) := by decide +kernel
theorem dX12_clause_57 : decode cX12_clause 57 = .ok (.ifCond .ne 4, 3) := by decide +kernel
theorem dX12_clause_60 : decode cX12_clause 60 = .ok (.return_, 1) := by decide +kernel
theorem dX12_clause_61 : decode cX12_clause 61 = .ok (.aload_n 0, 1) := by decide +kernel
theorem dX12_clause_62 : decode cX12_clause 62 = .ok (.getfield 198, 3) := by decide +kernel
theorem dX12_clause_65 : decode cX12_clause 65 = .ok (.aload_n 0, 1) := by decide +kernel
theorem dX12_clause_66 : decode cX12_clause 66 = .ok (.getfield 497, 3) := by decide +kernel
theorem dX12_clause_69 : decode cX12_clause 69 = .ok (.iload 4, 2) := by decide +kernel
theorem dX12_clause_71 : decode cX12_clause 71 = .ok (.iastore, 1) := by decide +kernel
theorem dX12_clause_72 : decode cX12_clause 72 = .ok (.aload_n 0, 1) := by decide +kernel
theorem dX12_clause_73 : decode cX12_clause 73 = .ok (.dup, 1) := by decide +kernel
theorem dX12_clause_74 : decode cX12_clause 74 = .ok (.getfield 497, 3) := by decide +kernel
theorem dX12_clause_77 : decode cX12_clause 77 = .ok (.iconst 1, 1) := by decide +kernel
theorem dX12_clause_78 : decode cX12_clause 78 = .ok (.iadd, 1) := by decide +kernel
theorem dX12_clause_79 : decode cX12_clause 79 = .ok (.putfield 497, 3) := by decide +kernel
theorem dX12_clause_82 : decode cX12_clause 82 = .ok (.return_, 1) := by decide +kernel
theorem dX12_clause_83 : decode cX12_clause 83 = .ok (.aload_n 0, 1) := by decide +kernel
theorem dX12_clause_84 : decode cX12_clause 84 = .ok (.invokevirtual 442, 3) := by decide +kernel
theorem dX12_clause_87 : decode cX12_clause 87 = .ok (.invokestatic 500, 3) := by decide +kernel
theorem dX12_clause_90 : decode cX12_clause 90 = .ok (.istore 4, 2) := by decide +kernel
theorem dX12_clause_92 : decode cX12_clause 92 = .ok (.iload 4, 2) := by decide +kernel
theorem dX12_clause_94 : decode cX12_clause 94 = .ok (.iconst (-1), 1) := by decide +kernel
theorem dX12_clause_95 : decode cX12_clause 95 = .ok (.if_icmp .ne 8, 3) := by decide +kernel
theorem dX12_clause_98 : decode cX12_clause 98 = .ok (.aload_n 0, 1) := by decide +kernel
theorem dX12_clause_99 : decode cX12_clause 99 = .ok (.invokevirtual 438, 3) := by decide +kernel
theorem dX12_clause_102 : decode cX12_clause 102 = .ok (.pop, 1) := by decide +kernel
theorem dX12_clause_103 : decode cX12_clause 103 = .ok (.aload_n 0, 1) := by decide +kernel
theorem dX12_clause_104 : decode cX12_clause 104 = .ok (.getfield 432, 3) := by decide +kernel
theorem dX12_clause_107 : decode cX12_clause 107 = .ok (.iconst (-1), 1) := by decide +kernel
theorem dX12_clause_108 : decode cX12_clause 108 = .ok (.if_icmp .ne 89, 3) := by decide +kernel
theorem dX12_clause_111 : decode cX12_clause 111 = .ok (.iload 4, 2) := by decide +kernel
theorem dX12_clause_113 : decode cX12_clause 113 = .ok (.iconst (-1), 1) := by decide +kernel
theorem dX12_clause_114 : decode cX12_clause 114 = .ok (.if_icmp .eq 83, 3) := by decide +kernel
theorem dX12_clause_117 : decode cX12_clause 117 = .ok (.aload_n 0, 1) := by decide +kernel
theorem dX12_clause_118 : decode cX12_clause 118 = .ok (.dup, 1) := by decide +kernel
theorem dX12_clause_119 : decode cX12_clause 119 = .ok (.getfield 423, 3) := by decide +kernel
theorem dX12_clause_122 : decode cX12_clause 122 = .ok (.iconst 1, 1) := by decide +kernel
theorem dX12_clause_123 : decode cX12_clause 123 = .ok (.iadd, 1) := by decide +kernel
theorem dX12_clause_124 : decode cX12_clause 124 = .ok (.putfield 423, 3) := by decide +kernel
theorem dX12_clause_127 : decode cX12_clause 127 = .ok (.aload_n 0, 1) := by decide +kernel
theorem dX12_clause_128 : decode cX12_clause 128 = .ok (.invokevirtual 442, 3) := by decide +kernel
theorem dX12_clause_131 : decode cX12_clause 131 = .ok (.istore 5, 2) := by decide +kernel
theorem dX12_clause_133 : decode cX12_clause 133 = .ok (.aload_n 0, 1) := by decide +kernel
theorem dX12_clause_134 : decode cX12_clause 134 = .ok (.invokevirtual 446, 3) := by decide +kernel
theorem dX12_clause_137 : decode cX12_clause 137 = .ok (.ifCond .ne 9, 3) := by decide +kernel
theorem dX12_clause_140 : decode cX12_clause 140 = .ok (.aload_n 0, 1) := by decide +kernel
theorem dX12_clause_141 : decode cX12_clause 141 = .ok (.invokevirtual 438, 3) := by decide +kernel
theorem dX12_clause_144 : decode cX12_clause 144 = .ok (.pop, 1) := by decide +kernel
theorem dX12_clause_145 : decode cX12_clause 145 = .ok (.return_, 1) := by decide +kernel
theorem dX12_clause_146 : decode cX12_clause 146 = .ok (.aload_n 0, 1) := by decide +kernel
theorem dX12_clause_147 : decode cX12_clause 147 = .ok (.dup, 1) := by decide +kernel
theorem dX12_clause_148 : decode cX12_clause 148 = .ok (.getfield 423, 3) := by decide +kernel
theorem dX12_clause_151 : decode cX12_clause 151 = .ok (.iconst 1, 1) := by decide +kernel
theorem dX12_clause_152 : decode cX12_clause 152 = .ok (.iadd, 1) := by decide +kernel
theorem dX12_clause_153 : decode cX12_clause 153 = .ok (.putfield 423, 3) := by decide +kernel
theorem dX12_clause_156 : decode cX12_clause 156 = .ok (.iload_n 3, 1) := by decide +kernel
theorem dX12_clause_157 : decode cX12_clause 157 = .ok (.ifCond .eq 28, 3) := by decide +kernel
theorem dX12_clause_160 : decode cX12_clause 160 = .ok (.aload_n 0, 1) := by decide +kernel
theorem dX12_clause_161 : decode cX12_clause 161 = .ok (.getfield 195, 3) := by decide +kernel
theorem dX12_clause_164 : decode cX12_clause 164 = .ok (.iload 4, 2) := by decide +kernel
theorem dX12_clause_166 : decode cX12_clause 166 = .ok (.bipush 9, 2) := by decide +kernel
theorem dX12_clause_168 : decode cX12_clause 168 = .ok (.aload_n 0, 1) := by decide +kernel
theorem dX12_clause_169 : decode cX12_clause 169 = .ok (.getfield 195, 3) := by decide +kernel
theorem dX12_clause_172 : decode cX12_clause 172 = .ok (.iload 4, 2) := by decide +kernel
theorem dX12_clause_174 : decode cX12_clause 174 = .ok (.iaload, 1) := by decide +kernel
theorem dX12_clause_175 : decode cX12_clause 175 = .ok (.iload 5, 2) := by decide +kernel
theorem dX12_clause_177 : decode cX12_clause 177 = .ok (.iadd, 1) := by decide +kernel
theorem dX12_clause_178 : decode cX12_clause 178 = .ok (.bipush 48, 2) := by decide +kernel
theorem dX12_clause_180 : decode cX12_clause 180 = .ok (.isub, 1) := by decide +kernel
theorem dX12_clause_181 : decode cX12_clause 181 = .ok (.invokestatic 311, 3) := by decide +kernel
theorem dX12_clause_184 : decode cX12_clause 184 = .ok (.iastore, 1) := by decide +kernel
theorem dX12_clause_185 : decode cX12_clause 185 = .ok (.aload_n 0, 1) := by decide +kernel
theorem dX12_clause_186 : decode cX12_clause 186 = .ok (.invokevirtual 442, 3) := by decide +kernel
theorem dX12_clause_189 : decode cX12_clause 189 = .ok (.invokestatic 500, 3) := by decide +kernel
theorem dX12_clause_192 : decode cX12_clause 192 = .ok (.istore 4, 2) := by decide +kernel
theorem dX12_clause_194 : decode cX12_clause 194 = .ok (.goto (-91), 3) := by decide +kernel
theorem dX12_clause_197 : decode cX12_clause 197 = .ok (.return_, 1) := by decide +kernel
theorem okX12_clause : ab_okM MX12_clause 2 := ⟨by decide, ⟨by decide, by decide⟩, ab_in 2474 (by decide +kernel) (by decide +kernel), ab_in 99 (by decide +kernel) (by decide +kernel), by decide +kernel, by decide⟩
set_option maxHeartbeats 4000000 in
set_option maxRecDepth 100000 in
def wX12_clause_185 (v3 : Int32) (x : ab_X) (K : ab_X → Prop) (L103 : Int32 → ab_X → Prop) : Prop := wX12_look x (fun r20 x21 => wX12_actionOf r20 x21 (fun r22 => L103 r22 x21))
set_option maxHeartbeats 4000000 in
set_option maxRecDepth 100000 in
theorem sX12_clause_185 (v3 : Int32)  (x : ab_X) (K : ab_X → Prop) (L103 : Int32 → ab_X → Prop) (d bc bs : Nat) (hdp : 208 ≤ d) (hL103 : ∀ (v4 : Int32) (x : ab_X), L103 v4 x → EW MX12_clause 103 [(0, .ref 246), (3, .int v3), (4, .int v4)] [] (aS x) d bc bs (liV K)) (h : wX12_clause_185 v3 x K L103) : EW MX12_clause 185 [(0, .ref 246), (3, .int v3)] [] (aS x) d bc bs (liV K) := by
  unfold wX12_clause_185 at h
  refine EW_aload_n (pc2 := 186) rfl dX12_clause_185 0 rfl ?_
  refine AW_invV (M' := MX12_look) [] (rest := []) mlRX12_442 okX12_look (pc2 := 189) rfl dX12_clause_186 rfl rfl (Nat.le_of_ble_eq_true rfl) (Nat.le_of_ble_eq_true rfl) (d' := 0) (by omega) q246 ⟨by decide, rfl⟩ (EW_mono (fun _ _ hr => ?_) (sX12_look   x _ _ 0 0 (Nat.le_refl _) h))
  obtain ⟨r20, x21, rfl, rfl, h⟩ := hr
  refine AW_invS (M' := MX12_actionOf) [.int r20] (rest := []) mlRX12_500 okX12_actionOf (pc2 := 192) rfl dX12_clause_189 rfl rfl (Nat.le_of_ble_eq_true rfl) (Nat.le_of_ble_eq_true rfl) (d' := 0) (by omega) (EW_mono (fun _ _ hr => ?_) (sX12_actionOf r20  x21 _ _ 0 0 (Nat.le_refl _) h))
  obtain ⟨r22, rfl, rfl, h⟩ := hr
  refine EW_istore (pc2 := 194) rfl dX12_clause_192 (by decide) [1, 2, 0] [(0, .ref 246), (3, .int v3), (4, .int r22)] rfl ?_
  refine EW_goto (tgt := 103) dX12_clause_194 (by decide) ?_
  exact hL103 r22 x21 h
set_option maxHeartbeats 4000000 in
set_option maxRecDepth 100000 in
def lX12_clause_103 (v3 : Int32) (K : ab_X → Prop)  (L103 : Int32 → ab_X → Prop) (v4 : Int32) (x : ab_X) : Prop := ((¬ (x.1 246 81) = (-1) → K x) ∧ ((x.1 246 81) = (-1) → ((v4 = (-1) → K x) ∧ (¬ v4 = (-1) → wX12_look (wr x 246 80 ((x.1 246 80) + 1)) (fun r13 x14 => wX12_isDigit x14 (fun r15 => ((¬ r15 = 0 → ((v3 = 0 → wX12_clause_185 v3 (wr x14 246 80 ((x14.1 246 80) + 1)) K L103) ∧ (¬ v3 = 0 → (vp_in v4 5 ∧ vp_in v4 5 ∧ wX12_clause_185 v3 (wr (wr x14 246 80 ((x14.1 246 80) + 1)) 308 (Int32.toNatClampNeg v4) (imin 9 ((((wr x14 246 80 ((x14.1 246 80) + 1)).1 308 (Int32.toNatClampNeg v4)) + r13) - 48))) K L103)))) ∧ (r15 = 0 → wX12_stop x14 (fun r18 x19 => K x19)))))))))
set_option maxHeartbeats 4000000 in
set_option maxRecDepth 100000 in
theorem sX12_clause_103 (v3 : Int32) (v4 : Int32)  (x : ab_X) (K : ab_X → Prop)  (d bc bs : Nat) (hdp : 208 ≤ d)  (h : Lp2 (lX12_clause_103 v3 K ) v4 x) : EW MX12_clause 103 [(0, .ref 246), (3, .int v3), (4, .int v4)] [] (aS x) d bc bs (liV K) := by
  refine Lp2.use (P := fun v4 x => EW MX12_clause 103 [(0, .ref 246), (3, .int v3), (4, .int v4)] [] (aS x) d bc bs (liV K)) (fun L103 v4 x hL103 h => ?_) v4 x h
  unfold lX12_clause_103 at h
  refine EW_aload_n (pc2 := 104) rfl dX12_clause_103 0 rfl ?_
  refine AW_geti ⟨gfRX12_432, rfl⟩ (pc2 := 107) rfl dX12_clause_104 q246 ?_
  refine EW_iconst (pc2 := 108) (v := (-1)) rfl dX12_clause_107 (by decide) ?_
  refine EW_icmp_ne (tgt := 197) (pc2 := 111) rfl dX12_clause_108 (by decide) (fun q => ?_) (fun q => ?_)
  · replace h := h.1 q
    exact EW_vret rfl dX12_clause_197 ⟨_, rfl, rfl, h⟩
  · replace h := h.2 q
    refine EW_iload (pc2 := 113) rfl dX12_clause_111 2 rfl ?_
    refine EW_iconst (pc2 := 114) (v := (-1)) rfl dX12_clause_113 (by decide) ?_
    refine EW_icmp_eq (tgt := 197) (pc2 := 117) rfl dX12_clause_114 (by decide) (fun q => ?_) (fun q => ?_)
    · replace h := h.1 q
      exact EW_vret rfl dX12_clause_197 ⟨_, rfl, rfl, h⟩
    · replace h := h.2 q
      refine EW_aload_n (pc2 := 118) rfl dX12_clause_117 0 rfl ?_
      refine EW_dup (pc2 := 119) rfl dX12_clause_118 rfl ?_
      refine AW_geti ⟨gfRX12_423, rfl⟩ (pc2 := 122) rfl dX12_clause_119 q246 ?_
      refine EW_iconst (pc2 := 123) (v := 1) rfl dX12_clause_122 (by decide) ?_
      refine EW_iadd (pc2 := 124) rfl dX12_clause_123 ?_
      refine AW_puti ⟨gfRX12_423, rfl, rfl⟩ (pc2 := 127) rfl dX12_clause_124 q246 ?_
      refine EW_aload_n (pc2 := 128) rfl dX12_clause_127 0 rfl ?_
      refine AW_invV (M' := MX12_look) [] (rest := []) mlRX12_442 okX12_look (pc2 := 131) rfl dX12_clause_128 rfl rfl (Nat.le_of_ble_eq_true rfl) (Nat.le_of_ble_eq_true rfl) (d' := 0) (by omega) q246 ⟨by decide, rfl⟩ (EW_mono (fun _ _ hr => ?_) (sX12_look   (wr x 246 80 ((x.1 246 80) + 1)) _ _ 0 0 (Nat.le_refl _) h))
      obtain ⟨r13, x14, rfl, rfl, h⟩ := hr
      refine EW_istore (pc2 := 133) rfl dX12_clause_131 (by decide) [1, 2, 3, 0] [(0, .ref 246), (3, .int v3), (4, .int v4), (5, .int r13)] rfl ?_
      refine EW_aload_n (pc2 := 134) rfl dX12_clause_133 0 rfl ?_
      refine AW_invV (M' := MX12_isDigit) [] (rest := []) mlRX12_446 okX12_isDigit (pc2 := 137) rfl dX12_clause_134 rfl rfl (Nat.le_of_ble_eq_true rfl) (Nat.le_of_ble_eq_true rfl) (d' := 0) (by omega) q246 ⟨by decide, rfl⟩ (EW_mono (fun _ _ hr => ?_) (sX12_isDigit   x14 _ _ 0 0 (Nat.le_refl _) h))
      obtain ⟨r15, rfl, rfl, h⟩ := hr
      refine EW_if_ne (tgt := 146) (pc2 := 140) rfl dX12_clause_137 (by decide) (fun q => ?_) (fun q => ?_)
      · replace h := h.1 q
        refine EW_aload_n (pc2 := 147) rfl dX12_clause_146 0 rfl ?_
        refine EW_dup (pc2 := 148) rfl dX12_clause_147 rfl ?_
        refine AW_geti ⟨gfRX12_423, rfl⟩ (pc2 := 151) rfl dX12_clause_148 q246 ?_
        refine EW_iconst (pc2 := 152) (v := 1) rfl dX12_clause_151 (by decide) ?_
        refine EW_iadd (pc2 := 153) rfl dX12_clause_152 ?_
        refine AW_puti ⟨gfRX12_423, rfl, rfl⟩ (pc2 := 156) rfl dX12_clause_153 q246 ?_
        refine EW_iload_n (pc2 := 157) rfl dX12_clause_156 1 rfl ?_
        refine EW_if_eq (tgt := 185) (pc2 := 160) rfl dX12_clause_157 (by decide) (fun q => ?_) (fun q => ?_)
        · replace h := h.1 q
          refine EW_ls [0, 1] rfl ?_
          exact sX12_clause_185 v3 (wr x14 246 80 ((x14.1 246 80) + 1)) K L103 d bc bs hdp hL103 h
        · replace h := h.2 q
          refine EW_aload_n (pc2 := 161) rfl dX12_clause_160 0 rfl ?_
          refine AW_getr (r := 308) ⟨gfRX12_195, rfl⟩ (pc2 := 164) rfl dX12_clause_161 q246 rfl ?_
          refine EW_iload (pc2 := 166) rfl dX12_clause_164 2 rfl ?_
          refine EW_bipush (pc2 := 168) (v := 9) rfl dX12_clause_166 (by decide) ?_
          refine EW_aload_n (pc2 := 169) rfl dX12_clause_168 0 rfl ?_
          refine AW_getr (r := 308) ⟨gfRX12_195, rfl⟩ (pc2 := 172) rfl dX12_clause_169 q246 rfl ?_
          refine EW_iload (pc2 := 174) rfl dX12_clause_172 2 rfl ?_
          obtain ⟨b16, h⟩ := h
          refine AW_iald (pc2 := 175) rfl dX12_clause_174 q308 b16 ?_
          refine EW_iload (pc2 := 177) rfl dX12_clause_175 3 rfl ?_
          refine EW_iadd (pc2 := 178) rfl dX12_clause_177 ?_
          refine EW_bipush (pc2 := 180) (v := 48) rfl dX12_clause_178 (by decide) ?_
          refine EW_isub (pc2 := 181) rfl dX12_clause_180 ?_
          refine AW_mmin mmRX12_311 (pc2 := 184) rfl dX12_clause_181 (Nat.le_of_ble_eq_true rfl) (by omega) ?_
          obtain ⟨b17, h⟩ := h
          refine AW_iast (pc2 := 185) rfl dX12_clause_184 q308 b17 ?_
          refine EW_ls [0, 1] rfl ?_
          exact sX12_clause_185 v3 (wr (wr x14 246 80 ((x14.1 246 80) + 1)) 308 (Int32.toNatClampNeg v4) (imin 9 ((((wr x14 246 80 ((x14.1 246 80) + 1)).1 308 (Int32.toNatClampNeg v4)) + r13) - 48))) K L103 d bc bs hdp hL103 h
      · replace h := h.2 q
        refine EW_aload_n (pc2 := 141) rfl dX12_clause_140 0 rfl ?_
        refine AW_invV (M' := MX12_stop) [] (rest := []) mlRX12_438 okX12_stop (pc2 := 144) rfl dX12_clause_141 rfl rfl (Nat.le_of_ble_eq_true rfl) (Nat.le_of_ble_eq_true rfl) (d' := 0) (by omega) q246 ⟨by decide, rfl⟩ (EW_mono (fun _ _ hr => ?_) (sX12_stop   x14 _ _ 0 0 (Nat.le_refl _) h))
        obtain ⟨r18, x19, rfl, rfl, h⟩ := hr
        refine EW_pop (pc2 := 145) rfl dX12_clause_144 rfl ?_
        exact EW_vret rfl dX12_clause_145 ⟨_, rfl, rfl, h⟩
set_option maxHeartbeats 4000000 in
set_option maxRecDepth 100000 in
def wX12_clause_37 (v1 : Int32) (v3 : Int32) (x : ab_X) (K : ab_X → Prop)  : Prop := ((v1 = 0 → wX12_look x (fun r5 x6 => wX12_actionOf r5 x6 (fun r7 => ((¬ r7 = (-1) → Lp2 (lX12_clause_103 v3 K ) r7 x6) ∧ (r7 = (-1) → wX12_stop x6 (fun r8 x9 => Lp2 (lX12_clause_103 v3 K ) r7 x9)))))) ∧ (¬ v1 = 0 → wX12_number 3 x (fun r10 x11 => ((¬ (x11.1 246 81) = (-1) → K x11) ∧ ((x11.1 246 81) = (-1) → ((¬ v3 = 0 → (vp_in (x11.1 246 74) 200 ∧ K (wr (wr x11 309 (Int32.toNatClampNeg (x11.1 246 74)) r10) 246 74 (((wr x11 309 (Int32.toNatClampNeg (x11.1 246 74)) r10).1 246 74) + 1)))) ∧ (v3 = 0 → K x11)))))))
set_option maxHeartbeats 4000000 in
set_option maxRecDepth 100000 in
theorem sX12_clause_37 (v1 : Int32) (v3 : Int32)  (x : ab_X) (K : ab_X → Prop)  (d bc bs : Nat) (hdp : 208 ≤ d)  (h : wX12_clause_37 v1 v3 x K ) : EW MX12_clause 37 [(0, .ref 246), (1, .int v1), (3, .int v3)] [] (aS x) d bc bs (liV K) := by
  unfold wX12_clause_37 at h
  refine EW_iload_n (pc2 := 38) rfl dX12_clause_37 1 rfl ?_
  refine EW_if_eq (tgt := 83) (pc2 := 41) rfl dX12_clause_38 (by decide) (fun q => ?_) (fun q => ?_)
  · replace h := h.1 q
    refine EW_aload_n (pc2 := 84) rfl dX12_clause_83 0 rfl ?_
    refine AW_invV (M' := MX12_look) [] (rest := []) mlRX12_442 okX12_look (pc2 := 87) rfl dX12_clause_84 rfl rfl (Nat.le_of_ble_eq_true rfl) (Nat.le_of_ble_eq_true rfl) (d' := 0) (by omega) q246 ⟨by decide, rfl⟩ (EW_mono (fun _ _ hr => ?_) (sX12_look   x _ _ 0 0 (Nat.le_refl _) h))
    obtain ⟨r5, x6, rfl, rfl, h⟩ := hr
    refine AW_invS (M' := MX12_actionOf) [.int r5] (rest := []) mlRX12_500 okX12_actionOf (pc2 := 90) rfl dX12_clause_87 rfl rfl (Nat.le_of_ble_eq_true rfl) (Nat.le_of_ble_eq_true rfl) (d' := 0) (by omega) (EW_mono (fun _ _ hr => ?_) (sX12_actionOf r5  x6 _ _ 0 0 (Nat.le_refl _) h))
    obtain ⟨r7, rfl, rfl, h⟩ := hr
    refine EW_istore (pc2 := 92) rfl dX12_clause_90 (by decide) [1, 2, 3, 0] [(0, .ref 246), (1, .int v1), (3, .int v3), (4, .int r7)] rfl ?_
    refine EW_iload (pc2 := 94) rfl dX12_clause_92 3 rfl ?_
    refine EW_iconst (pc2 := 95) (v := (-1)) rfl dX12_clause_94 (by decide) ?_
    refine EW_icmp_ne (tgt := 103) (pc2 := 98) rfl dX12_clause_95 (by decide) (fun q => ?_) (fun q => ?_)
    · replace h := h.1 q
      refine EW_ls [0, 2, 3] rfl ?_
      exact sX12_clause_103 v3 r7 x6 K d bc bs hdp h
    · replace h := h.2 q
      refine EW_aload_n (pc2 := 99) rfl dX12_clause_98 0 rfl ?_
      refine AW_invV (M' := MX12_stop) [] (rest := []) mlRX12_438 okX12_stop (pc2 := 102) rfl dX12_clause_99 rfl rfl (Nat.le_of_ble_eq_true rfl) (Nat.le_of_ble_eq_true rfl) (d' := 0) (by omega) q246 ⟨by decide, rfl⟩ (EW_mono (fun _ _ hr => ?_) (sX12_stop   x6 _ _ 0 0 (Nat.le_refl _) h))
      obtain ⟨r8, x9, rfl, rfl, h⟩ := hr
      refine EW_pop (pc2 := 103) rfl dX12_clause_102 rfl ?_
      refine EW_ls [0, 2, 3] rfl ?_
      exact sX12_clause_103 v3 r7 x9 K d bc bs hdp h
  · replace h := h.2 q
    refine EW_aload_n (pc2 := 42) rfl dX12_clause_41 0 rfl ?_
    refine EW_iconst (pc2 := 43) (v := 3) rfl dX12_clause_42 (by decide) ?_
    refine AW_invV (M' := MX12_number) [.int 3] (rest := []) mlRX12_463 okX12_number (pc2 := 46) rfl dX12_clause_43 rfl rfl (Nat.le_of_ble_eq_true rfl) (Nat.le_of_ble_eq_true rfl) (d' := 1) (by omega) q246 ⟨by decide, rfl⟩ (EW_mono (fun _ _ hr => ?_) (sX12_number 3  x _ _ 0 0 (Nat.le_refl _) h))
    obtain ⟨r10, x11, rfl, rfl, h⟩ := hr
    refine EW_istore (pc2 := 48) rfl dX12_clause_46 (by decide) [1, 2, 3, 0] [(0, .ref 246), (1, .int v1), (3, .int v3), (4, .int r10)] rfl ?_
    refine EW_aload_n (pc2 := 49) rfl dX12_clause_48 0 rfl ?_
    refine AW_geti ⟨gfRX12_432, rfl⟩ (pc2 := 52) rfl dX12_clause_49 q246 ?_
    refine EW_iconst (pc2 := 53) (v := (-1)) rfl dX12_clause_52 (by decide) ?_
    refine EW_icmp_ne (tgt := 60) (pc2 := 56) rfl dX12_clause_53 (by decide) (fun q => ?_) (fun q => ?_)
    · replace h := h.1 q
      exact EW_vret rfl dX12_clause_60 ⟨_, rfl, rfl, h⟩
    · replace h := h.2 q
      refine EW_iload_n (pc2 := 57) rfl dX12_clause_56 2 rfl ?_
      refine EW_if_ne (tgt := 61) (pc2 := 60) rfl dX12_clause_57 (by decide) (fun q => ?_) (fun q => ?_)
      · replace h := h.1 q
        refine EW_aload_n (pc2 := 62) rfl dX12_clause_61 0 rfl ?_
        refine AW_getr (r := 309) ⟨gfRX12_198, rfl⟩ (pc2 := 65) rfl dX12_clause_62 q246 rfl ?_
        refine EW_aload_n (pc2 := 66) rfl dX12_clause_65 0 rfl ?_
        refine AW_geti ⟨gfRX12_497, rfl⟩ (pc2 := 69) rfl dX12_clause_66 q246 ?_
        refine EW_iload (pc2 := 71) rfl dX12_clause_69 3 rfl ?_
        obtain ⟨b12, h⟩ := h
        refine AW_iast (pc2 := 72) rfl dX12_clause_71 q309 b12 ?_
        refine EW_aload_n (pc2 := 73) rfl dX12_clause_72 0 rfl ?_
        refine EW_dup (pc2 := 74) rfl dX12_clause_73 rfl ?_
        refine AW_geti ⟨gfRX12_497, rfl⟩ (pc2 := 77) rfl dX12_clause_74 q246 ?_
        refine EW_iconst (pc2 := 78) (v := 1) rfl dX12_clause_77 (by decide) ?_
        refine EW_iadd (pc2 := 79) rfl dX12_clause_78 ?_
        refine AW_puti ⟨gfRX12_497, rfl, rfl⟩ (pc2 := 82) rfl dX12_clause_79 q246 ?_
        exact EW_vret rfl dX12_clause_82 ⟨_, rfl, rfl, h⟩
      · replace h := h.2 q
        exact EW_vret rfl dX12_clause_60 ⟨_, rfl, rfl, h⟩
set_option maxHeartbeats 4000000 in
set_option maxRecDepth 100000 in
def wX12_clause (v1 : Int32) (v2 : Int32) (x : ab_X) (K : ab_X → Prop) : Prop := wX12_condition x (fun r1 x2 => wX12_takes 63 x2 (fun r3 x4 => ((¬ r3 = 0 → ((r1 = 0 → wX12_clause_37 v1 r1 x4 K) ∧ (¬ r1 = 0 → ((30 ≤ v2 → wX12_clause_37 v1 r1 x4 K) ∧ (¬ 30 ≤ v2 → wX12_clause_37 v1 r1 (wr x4 246 75 ((x4.1 246 75) ||| (1 <<< (v2 &&& 31)))) K))))) ∧ (r3 = 0 → K x4))))
set_option maxHeartbeats 4000000 in
set_option maxRecDepth 100000 in
theorem sX12_clause (v1 : Int32) (v2 : Int32)  (x : ab_X) (K : ab_X → Prop) (d bc bs : Nat) (hdp : 208 ≤ d) (h : wX12_clause v1 v2 x K) : EW MX12_clause 0 [(0, .ref 246), (1, .int v1), (2, .int v2)] [] (aS x) d bc bs (liV K) := by
  unfold wX12_clause at h
  refine EW_aload_n (pc2 := 1) rfl dX12_clause_0 0 rfl ?_
  refine AW_invV (M' := MX12_condition) [] (rest := []) mlRX12_488 okX12_condition (pc2 := 4) rfl dX12_clause_1 rfl rfl (Nat.le_of_ble_eq_true rfl) (Nat.le_of_ble_eq_true rfl) (d' := 207) (by omega) q246 ⟨by decide, rfl⟩ (EW_mono (fun _ _ hr => ?_) (sX12_condition   x _ _ 0 0 (Nat.le_refl _) h))
  obtain ⟨r1, x2, rfl, rfl, h⟩ := hr
  refine EW_istore_n (pc2 := 5) rfl dX12_clause_4 (by decide) [1, 2, 3, 0] [(0, .ref 246), (1, .int v1), (2, .int v2), (3, .int r1)] rfl ?_
  refine EW_aload_n (pc2 := 6) rfl dX12_clause_5 0 rfl ?_
  refine EW_bipush (pc2 := 8) (v := 63) rfl dX12_clause_6 (by decide) ?_
  refine AW_invV (M' := MX12_takes) [.int 63] (rest := []) mlRX12_472 okX12_takes (pc2 := 11) rfl dX12_clause_8 rfl rfl (Nat.le_of_ble_eq_true rfl) (Nat.le_of_ble_eq_true rfl) (d' := 1) (by omega) q246 ⟨by decide, rfl⟩ (EW_mono (fun _ _ hr => ?_) (sX12_takes 63  x2 _ _ 0 0 (Nat.le_refl _) h))
  obtain ⟨r3, x4, rfl, rfl, h⟩ := hr
  refine EW_if_ne (tgt := 15) (pc2 := 14) rfl dX12_clause_11 (by decide) (fun q => ?_) (fun q => ?_)
  · replace h := h.1 q
    refine EW_iload_n (pc2 := 16) rfl dX12_clause_15 3 rfl ?_
    refine EW_if_eq (tgt := 37) (pc2 := 19) rfl dX12_clause_16 (by decide) (fun q => ?_) (fun q => ?_)
    · replace h := h.1 q
      refine EW_ls [0, 1, 3] rfl ?_
      exact sX12_clause_37 v1 r1 x4 K d bc bs hdp h
    · replace h := h.2 q
      refine EW_iload_n (pc2 := 20) rfl dX12_clause_19 2 rfl ?_
      refine EW_bipush (pc2 := 22) (v := 30) rfl dX12_clause_20 (by decide) ?_
      refine EW_icmp_ge (tgt := 37) (pc2 := 25) rfl dX12_clause_22 (by decide) (fun q => ?_) (fun q => ?_)
      · replace h := h.1 q
        refine EW_ls [0, 1, 3] rfl ?_
        exact sX12_clause_37 v1 r1 x4 K d bc bs hdp h
      · replace h := h.2 q
        refine EW_aload_n (pc2 := 26) rfl dX12_clause_25 0 rfl ?_
        refine EW_dup (pc2 := 27) rfl dX12_clause_26 rfl ?_
        refine AW_geti ⟨gfRX12_494, rfl⟩ (pc2 := 30) rfl dX12_clause_27 q246 ?_
        refine EW_iconst (pc2 := 31) (v := 1) rfl dX12_clause_30 (by decide) ?_
        refine EW_iload_n (pc2 := 32) rfl dX12_clause_31 2 rfl ?_
        refine EW_ishl (pc2 := 33) rfl dX12_clause_32 ?_
        refine EW_ior (pc2 := 34) rfl dX12_clause_33 ?_
        refine AW_puti ⟨gfRX12_494, rfl, rfl⟩ (pc2 := 37) rfl dX12_clause_34 q246 ?_
        refine EW_ls [0, 1, 3] rfl ?_
        exact sX12_clause_37 v1 r1 (wr x4 246 75 ((x4.1 246 75) ||| (1 <<< (v2 &&& 31)))) K d bc bs hdp h
  · replace h := h.2 q
    exact EW_vret rfl dX12_clause_14 ⟨_, rfl, rfl, h⟩
