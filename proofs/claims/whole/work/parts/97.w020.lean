theorem gfRX12_235 : ab_L RX12 235 12 90 := ⟨by decide, by decide, ab_in 1939 (by decide +kernel) (by decide +kernel)⟩
theorem mlRX12_555 : Cond.methodLink RX12 555 yX12_answer ∈ ab_G ∧ Cond.instanceMethod yX12_answer ∈ ab_G ∧ Cond.selects RX12 yX12_answer yX12_answer ∈ ab_G := ⟨ab_in 2519 (by decide +kernel) (by decide +kernel), ab_in 2521 (by decide +kernel) (by decide +kernel), ab_in 52 (by decide +kernel) (by decide +kernel)⟩
theorem mlRX12_528 : Cond.methodLink RX12 528 yX12_openAt ∈ ab_G ∧ Cond.instanceMethod yX12_openAt ∈ ab_G ∧ Cond.selects RX12 yX12_openAt yX12_openAt ∈ ab_G := ⟨ab_in 2284 (by decide +kernel) (by decide +kernel), ab_in 2286 (by decide +kernel) (by decide +kernel), ab_in 20 (by decide +kernel) (by decide +kernel)⟩
theorem mlRX12_531 : Cond.methodLink RX12 531 yX12_burnsAt ∈ ab_G ∧ Cond.instanceMethod yX12_burnsAt ∈ ab_G ∧ Cond.selects RX12 yX12_burnsAt yX12_burnsAt ∈ ab_G := ⟨ab_in 2288 (by decide +kernel) (by decide +kernel), ab_in 2290 (by decide +kernel) (by decide +kernel), ab_in 21 (by decide +kernel) (by decide +kernel)⟩
abbrev MX12_call : ab_M := (yX12_call, cX12_call, 3, (some .int))
theorem dX12_call_0 : decode cX12_call 0 = .ok (.aload_n 0, 1) := by decide +kernel
theorem dX12_call_1 : decode cX12_call 1 = .ok (.iconst 0, 1) := by decide +kernel
theorem dX12_call_2 : decode cX12_call 2 = .ok (.putfield 297, 3) := by decide +kernel
theorem dX12_call_5 : decode cX12_call 5 = .ok (.iload_n 1, 1) := by decide +kernel
theorem dX12_call_6 : decode cX12_call 6 = .ok (.invokestatic 303, 3) := by decide +kernel
theorem dX12_call_9 : decode cX12_call 9 = .ok (.ifCond .ne 5, 3) := by decide +kernel
theorem dX12_call_12 : decode cX12_call 12 = .ok (.iconst (-1), 1) := by decide +kernel
theorem dX12_call_13 : decode cX12_call 13 = .ok (.ireturn, 1) := by decide +kernel
theorem dX12_call_14 : decode cX12_call 14 = .ok (.aload_n 0, 1) := by decide +kernel
theorem dX12_call_15 : decode cX12_call 15 = .ok (.iload_n 1, 1) := by decide +kernel
theorem dX12_call_16 : decode cX12_call 16 = .ok (.invokevirtual 528, 3) := by decide +kernel
theorem dX12_call_19 : decode cX12_call 19 = .ok (.istore_n 2, 1) := by decide +kernel
theorem dX12_call_20 : decode cX12_call 20 = .ok (.iload_n 2, 1) := by decide +kernel
theorem dX12_call_21 : decode cX12_call 21 = .ok (.iconst (-1), 1) := by decide +kernel
theorem dX12_call_22 : decode cX12_call 22 = .ok (.if_icmp .ne 71, 3) := by decide +kernel
theorem dX12_call_25 : decode cX12_call 25 = .ok (.aload_n 0, 1) := by decide +kernel
theorem dX12_call_26 : decode cX12_call 26 = .ok (.getfield 525, 3) := by decide +kernel
theorem dX12_call_29 : decode cX12_call 29 = .ok (.bipush 60, 2) := by decide +kernel
theorem dX12_call_31 : decode cX12_call 31 = .ok (.if_icmp .ne 5, 3) := by decide +kernel
theorem dX12_call_34 : decode cX12_call 34 = .ok (.iconst (-1), 1) := by decide +kernel
theorem dX12_call_35 : decode cX12_call 35 = .ok (.ireturn, 1) := by decide +kernel
theorem dX12_call_36 : decode cX12_call 36 = .ok (.aload_n 0, 1) := by decide +kernel
theorem dX12_call_37 : decode cX12_call 37 = .ok (.getfield 525, 3) := by decide +kernel
theorem dX12_call_40 : decode cX12_call 40 = .ok (.istore_n 2, 1) := by decide +kernel
theorem dX12_call_41 : decode cX12_call 41 = .ok (.aload_n 0, 1) := by decide +kernel
theorem dX12_call_42 : decode cX12_call 42 = .ok (.getfield 214, 3) := by decide +kernel
theorem dX12_call_45 : decode cX12_call 45 = .ok (.iload_n 2, 1) := by decide +kernel
theorem dX12_call_46 : decode cX12_call 46 = .ok (.iload_n 1, 1) := by decide +kernel
theorem dX12_call_47 : decode cX12_call 47 = .ok (.iastore, 1) := by decide +kernel
theorem dX12_call_48 : decode cX12_call 48 = .ok (.aload_n 0, 1) := by decide +kernel
theorem dX12_call_49 : decode cX12_call 49 = .ok (.getfield 217, 3) := by decide +kernel
theorem dX12_call_52 : decode cX12_call 52 = .ok (.iload_n 2, 1) := by decide +kernel
theorem dX12_call_53 : decode cX12_call 53 = .ok (.iconst 0, 1) := by decide +kernel
theorem dX12_call_54 : decode cX12_call 54 = .ok (.iastore, 1) := by decide +kernel
theorem dX12_call_55 : decode cX12_call 55 = .ok (.aload_n 0, 1) := by decide +kernel
theorem dX12_call_56 : decode cX12_call 56 = .ok (.getfield 223, 3) := by decide +kernel
theorem dX12_call_59 : decode cX12_call 59 = .ok (.iload_n 2, 1) := by decide +kernel
theorem dX12_call_60 : decode cX12_call 60 = .ok (.aload_n 0, 1) := by decide +kernel
theorem dX12_call_61 : decode cX12_call 61 = .ok (.getfield 395, 3) := by decide +kernel
theorem dX12_call_64 : decode cX12_call 64 = .ok (.iastore, 1) := by decide +kernel
theorem dX12_call_65 : decode cX12_call 65 = .ok (.aload_n 0, 1) := by decide +kernel
theorem dX12_call_66 : decode cX12_call 66 = .ok (.getfield 226, 3) := by decide +kernel
theorem dX12_call_69 : decode cX12_call 69 = .ok (.iload_n 2, 1) := by decide +kernel
theorem dX12_call_70 : decode cX12_call 70 = .ok (.iconst (-1), 1) := by decide +kernel
theorem dX12_call_71 : decode cX12_call 71 = .ok (.iastore, 1) := by decide +kernel
theorem dX12_call_72 : decode cX12_call 72 = .ok (.aload_n 0, 1) := by decide +kernel
theorem dX12_call_73 : decode cX12_call 73 = .ok (.dup, 1) := by decide +kernel
theorem dX12_call_74 : decode cX12_call 74 = .ok (.getfield 525, 3) := by decide +kernel
theorem dX12_call_77 : decode cX12_call 77 = .ok (.iconst 1, 1) := by decide +kernel
theorem dX12_call_78 : decode cX12_call 78 = .ok (.iadd, 1) := by decide +kernel
theorem dX12_call_79 : decode cX12_call 79 = .ok (.putfield 525, 3) := by decide +kernel
theorem dX12_call_82 : decode cX12_call 82 = .ok (.aload_n 0, 1) := by decide +kernel
theorem dX12_call_83 : decode cX12_call 83 = .ok (.getfield 238, 3) := by decide +kernel
theorem dX12_call_86 : decode cX12_call 86 = .ok (.iload_n 2, 1) := by decide +kernel
theorem dX12_call_87 : decode cX12_call 87 = .ok (.aload_n 0, 1) := by decide +kernel
theorem dX12_call_88 : decode cX12_call 88 = .ok (.iload_n 1, 1) := by decide +kernel
theorem dX12_call_89 : decode cX12_call 89 = .ok (.invokevirtual 531, 3) := by decide +kernel
theorem dX12_call_92 : decode cX12_call 92 = .ok (.bastore, 1) := by decide +kernel
theorem dX12_call_93 : decode cX12_call 93 = .ok (.aload_n 0, 1) := by decide +kernel
theorem dX12_call_94 : decode cX12_call 94 = .ok (.getfield 235, 3) := by decide +kernel
theorem dX12_call_97 : decode cX12_call 97 = .ok (.iload_n 2, 1) := by decide +kernel
theorem dX12_call_98 : decode cX12_call 98 = .ok (.dup2, 1) := by decide +kernel
theorem dX12_call_99 : decode cX12_call 99 = .ok (.iaload, 1) := by decide +kernel
theorem dX12_call_100 : decode cX12_call 100 = .ok (.iconst 1, 1) := by decide +kernel
theorem dX12_call_101 : decode cX12_call 101 = .ok (.iadd, 1) := by decide +kernel
theorem dX12_call_102 : decode cX12_call 102 = .ok (.iastore, 1) := by decide +kernel
theorem dX12_call_103 : decode cX12_call 103 = .ok (.aload_n 0, 1) := by decide +kernel
theorem dX12_call_104 : decode cX12_call 104 = .ok (.getfield 217, 3) := by decide +kernel
theorem dX12_call_107 : decode cX12_call 107 = .ok (.iload_n 2, 1) := by decide +kernel
theorem dX12_call_108 : decode cX12_call 108 = .ok (.iaload, 1) := by decide +kernel
theorem dX12_call_109 : decode cX12_call 109 = .ok (.iconst 3, 1) := by decide +kernel
theorem dX12_call_110 : decode cX12_call 110 = .ok (.if_icmp .ne 5, 3) := by decide +kernel
theorem dX12_call_113 : decode cX12_call 113 = .ok (.iload_n 2, 1) := by decide +kernel
theorem dX12_call_114 : decode cX12_call 114 = .ok (.ireturn, 1) := by decide +kernel
theorem dX12_call_115 : decode cX12_call 115 = .ok (.aload_n 0, 1) := by decide +kernel
theorem dX12_call_116 : decode cX12_call 116 = .ok (.getfield 217, 3) := by decide +kernel
theorem dX12_call_119 : decode cX12_call 119 = .ok (.iload_n 2, 1) := by decide +kernel
theorem dX12_call_120 : decode cX12_call 120 = .ok (.dup2, 1) := by decide +kernel
theorem dX12_call_121 : decode cX12_call 121 = .ok (.iaload, 1) := by decide +kernel
theorem dX12_call_122 : decode cX12_call 122 = .ok (.iconst 1, 1) := by decide +kernel
theorem dX12_call_123 : decode cX12_call 123 = .ok (.iadd, 1) := by decide +kernel
theorem dX12_call_124 : decode cX12_call 124 = .ok (.iastore, 1) := by decide +kernel
theorem dX12_call_125 : decode cX12_call 125 = .ok (.aload_n 0, 1) := by decide +kernel
theorem dX12_call_126 : decode cX12_call 126 = .ok (.iload_n 2, 1) := by decide +kernel
theorem dX12_call_127 : decode cX12_call 127 = .ok (.invokevirtual 555, 3) := by decide +kernel
theorem dX12_call_130 : decode cX12_call 130 = .ok (.iload_n 2, 1) := by decide +kernel
theorem dX12_call_131 : decode cX12_call 131 = .ok (.ireturn, 1) := by decide +kernel
theorem okX12_call : ab_okM MX12_call 1 := ⟨by decide, ⟨by decide, by decide⟩, ab_in 2518 (by decide +kernel) (by decide +kernel), ab_in 99 (by decide +kernel) (by decide +kernel), by decide +kernel, by decide⟩
set_option maxHeartbeats 4000000 in
set_option maxRecDepth 100000 in
theorem sX12_call_93 (v2 : Int32)  (x : ab_X) (K : Int32 → ab_X → Prop)  (d bc bs : Nat) (hdp : 212 ≤ d)  (h : wX12_call_93 v2 x K ) : EW MX12_call 93 [(0, .ref 246), (2, .int v2)] [] (aS x) d bc bs (liI K) := by
  unfold wX12_call_93 at h
  refine EW_aload_n (pc2 := 94) rfl dX12_call_93 0 rfl ?_
  refine AW_getr (r := 317) ⟨gfRX12_235, rfl⟩ (pc2 := 97) rfl dX12_call_94 q246 rfl ?_
  refine EW_iload_n (pc2 := 98) rfl dX12_call_97 1 rfl ?_
  refine EW_dup2 (pc2 := 99) rfl dX12_call_98 rfl rfl ?_
  obtain ⟨b10, h⟩ := h
  refine AW_iald (pc2 := 100) rfl dX12_call_99 q317 b10 ?_
  refine EW_iconst (pc2 := 101) (v := 1) rfl dX12_call_100 (by decide) ?_
  refine EW_iadd (pc2 := 102) rfl dX12_call_101 ?_
  obtain ⟨b11, h⟩ := h
  refine AW_iast (pc2 := 103) rfl dX12_call_102 q317 b11 ?_
  refine EW_aload_n (pc2 := 104) rfl dX12_call_103 0 rfl ?_
  refine AW_getr (r := 311) ⟨gfRX12_217, rfl⟩ (pc2 := 107) rfl dX12_call_104 q246 rfl ?_
  refine EW_iload_n (pc2 := 108) rfl dX12_call_107 1 rfl ?_
  obtain ⟨b12, h⟩ := h
  refine AW_iald (pc2 := 109) rfl dX12_call_108 q311 b12 ?_
  refine EW_iconst (pc2 := 110) (v := 3) rfl dX12_call_109 (by decide) ?_
  refine EW_icmp_ne (tgt := 115) (pc2 := 113) rfl dX12_call_110 (by decide) (fun q => ?_) (fun q => ?_)
  · replace h := h.1 q
    refine EW_aload_n (pc2 := 116) rfl dX12_call_115 0 rfl ?_
    refine AW_getr (r := 311) ⟨gfRX12_217, rfl⟩ (pc2 := 119) rfl dX12_call_116 q246 rfl ?_
    refine EW_iload_n (pc2 := 120) rfl dX12_call_119 1 rfl ?_
    refine EW_dup2 (pc2 := 121) rfl dX12_call_120 rfl rfl ?_
    obtain ⟨b13, h⟩ := h
    refine AW_iald (pc2 := 122) rfl dX12_call_121 q311 b13 ?_
    refine EW_iconst (pc2 := 123) (v := 1) rfl dX12_call_122 (by decide) ?_
    refine EW_iadd (pc2 := 124) rfl dX12_call_123 ?_
    obtain ⟨b14, h⟩ := h
    refine AW_iast (pc2 := 125) rfl dX12_call_124 q311 b14 ?_
    refine EW_aload_n (pc2 := 126) rfl dX12_call_125 0 rfl ?_
    refine EW_iload_n (pc2 := 127) rfl dX12_call_126 1 rfl ?_
    refine AW_invV (M' := MX12_answer) [.int v2] (rest := []) mlRX12_555 okX12_answer (pc2 := 130) rfl dX12_call_127 rfl rfl (Nat.le_of_ble_eq_true rfl) (Nat.le_of_ble_eq_true rfl) (d' := 211) (by omega) q246 ⟨by decide, rfl⟩ (EW_mono (fun _ _ hr => ?_) (sX12_answer v2  (wr (wr x 317 (Int32.toNatClampNeg v2) ((x.1 317 (Int32.toNatClampNeg v2)) + 1)) 311 (Int32.toNatClampNeg v2) (((wr x 317 (Int32.toNatClampNeg v2) ((x.1 317 (Int32.toNatClampNeg v2)) + 1)).1 311 (Int32.toNatClampNeg v2)) + 1)) _ _ 0 0 (Nat.le_refl _) h))
    obtain ⟨x15, rfl, rfl, h⟩ := hr
    refine EW_iload_n (pc2 := 131) rfl dX12_call_130 1 rfl ?_
    exact AW_iret rfl dX12_call_131 ⟨_, _, rfl, rfl, h⟩
  · replace h := h.2 q
    refine EW_iload_n (pc2 := 114) rfl dX12_call_113 1 rfl ?_
    exact AW_iret rfl dX12_call_114 ⟨_, _, rfl, rfl, h⟩
set_option maxHeartbeats 4000000 in
set_option maxRecDepth 100000 in
theorem sX12_call (v1 : Int32)  (x : ab_X) (K : Int32 → ab_X → Prop) (d bc bs : Nat) (hdp : 212 ≤ d) (h : wX12_call v1 x K) : EW MX12_call 0 [(0, .ref 246), (1, .int v1)] [] (aS x) d bc bs (liI K) := by
  unfold wX12_call at h
  refine EW_aload_n (pc2 := 1) rfl dX12_call_0 0 rfl ?_
  refine EW_iconst (pc2 := 2) (v := 0) rfl dX12_call_1 (by decide) ?_
  refine AW_puti ⟨gfRX12_297, rfl, rfl⟩ (pc2 := 5) rfl dX12_call_2 q246 ?_
  refine EW_iload_n (pc2 := 6) rfl dX12_call_5 1 rfl ?_
  refine AW_invS (M' := MX12_isCorner) [.int v1] (rest := []) mlRX12_303 okX12_isCorner (pc2 := 9) rfl dX12_call_6 rfl rfl (Nat.le_of_ble_eq_true rfl) (Nat.le_of_ble_eq_true rfl) (d' := 0) (by omega) (EW_mono (fun _ _ hr => ?_) (sX12_isCorner v1  (wr x 246 0 0) _ _ 0 0 (Nat.le_refl _) h))
  obtain ⟨r1, rfl, rfl, h⟩ := hr
  refine EW_if_ne (tgt := 14) (pc2 := 12) rfl dX12_call_9 (by decide) (fun q => ?_) (fun q => ?_)
  · replace h := h.1 q
    refine EW_aload_n (pc2 := 15) rfl dX12_call_14 0 rfl ?_
    refine EW_iload_n (pc2 := 16) rfl dX12_call_15 1 rfl ?_
    refine AW_invV (M' := MX12_openAt) [.int v1] (rest := []) mlRX12_528 okX12_openAt (pc2 := 19) rfl dX12_call_16 rfl rfl (Nat.le_of_ble_eq_true rfl) (Nat.le_of_ble_eq_true rfl) (d' := 0) (by omega) q246 ⟨by decide, rfl⟩ (EW_mono (fun _ _ hr => ?_) (sX12_openAt v1  (wr x 246 0 0) _ _ 0 0 (Nat.le_refl _) h))
    obtain ⟨r2, rfl, rfl, h⟩ := hr
    refine EW_istore_n (pc2 := 20) rfl dX12_call_19 (by decide) [1, 2, 0] [(0, .ref 246), (1, .int v1), (2, .int r2)] rfl ?_
    refine EW_iload_n (pc2 := 21) rfl dX12_call_20 2 rfl ?_
    refine EW_iconst (pc2 := 22) (v := (-1)) rfl dX12_call_21 (by decide) ?_
    refine EW_icmp_ne (tgt := 93) (pc2 := 25) rfl dX12_call_22 (by decide) (fun q => ?_) (fun q => ?_)
    · replace h := h.1 q
      refine EW_ls [0, 2] rfl ?_
      exact sX12_call_93 r2 (wr x 246 0 0) K d bc bs hdp h
    · replace h := h.2 q
      refine EW_aload_n (pc2 := 26) rfl dX12_call_25 0 rfl ?_
      refine AW_geti ⟨gfRX12_525, rfl⟩ (pc2 := 29) rfl dX12_call_26 q246 ?_
      refine EW_bipush (pc2 := 31) (v := 60) rfl dX12_call_29 (by decide) ?_
      refine EW_icmp_ne (tgt := 36) (pc2 := 34) rfl dX12_call_31 (by decide) (fun q => ?_) (fun q => ?_)
      · replace h := h.1 q
        refine EW_aload_n (pc2 := 37) rfl dX12_call_36 0 rfl ?_
        refine AW_geti ⟨gfRX12_525, rfl⟩ (pc2 := 40) rfl dX12_call_37 q246 ?_
        refine EW_istore_n (pc2 := 41) rfl dX12_call_40 (by decide) [1, 2, 0] [(0, .ref 246), (1, .int v1), (2, .int ((wr x 246 0 0).1 246 92))] rfl ?_
        refine EW_aload_n (pc2 := 42) rfl dX12_call_41 0 rfl ?_
        refine AW_getr (r := 310) ⟨gfRX12_214, rfl⟩ (pc2 := 45) rfl dX12_call_42 q246 rfl ?_
        refine EW_iload_n (pc2 := 46) rfl dX12_call_45 2 rfl ?_
        refine EW_iload_n (pc2 := 47) rfl dX12_call_46 1 rfl ?_
        obtain ⟨b3, h⟩ := h
        refine AW_iast (pc2 := 48) rfl dX12_call_47 q310 b3 ?_
        refine EW_aload_n (pc2 := 49) rfl dX12_call_48 0 rfl ?_
        refine AW_getr (r := 311) ⟨gfRX12_217, rfl⟩ (pc2 := 52) rfl dX12_call_49 q246 rfl ?_
        refine EW_iload_n (pc2 := 53) rfl dX12_call_52 2 rfl ?_
        refine EW_iconst (pc2 := 54) (v := 0) rfl dX12_call_53 (by decide) ?_
        obtain ⟨b4, h⟩ := h
        refine AW_iast (pc2 := 55) rfl dX12_call_54 q311 b4 ?_
        refine EW_aload_n (pc2 := 56) rfl dX12_call_55 0 rfl ?_
        refine AW_getr (r := 313) ⟨gfRX12_223, rfl⟩ (pc2 := 59) rfl dX12_call_56 q246 rfl ?_
        refine EW_iload_n (pc2 := 60) rfl dX12_call_59 2 rfl ?_
        refine EW_aload_n (pc2 := 61) rfl dX12_call_60 0 rfl ?_
        refine AW_geti ⟨gfRX12_395, rfl⟩ (pc2 := 64) rfl dX12_call_61 q246 ?_
        obtain ⟨b5, h⟩ := h
        refine AW_iast (pc2 := 65) rfl dX12_call_64 q313 b5 ?_
        refine EW_aload_n (pc2 := 66) rfl dX12_call_65 0 rfl ?_
        refine AW_getr (r := 314) ⟨gfRX12_226, rfl⟩ (pc2 := 69) rfl dX12_call_66 q246 rfl ?_
        refine EW_iload_n (pc2 := 70) rfl dX12_call_69 2 rfl ?_
        refine EW_iconst (pc2 := 71) (v := (-1)) rfl dX12_call_70 (by decide) ?_
        obtain ⟨b6, h⟩ := h
        refine AW_iast (pc2 := 72) rfl dX12_call_71 q314 b6 ?_
        refine EW_aload_n (pc2 := 73) rfl dX12_call_72 0 rfl ?_
        refine EW_dup (pc2 := 74) rfl dX12_call_73 rfl ?_
        refine AW_geti ⟨gfRX12_525, rfl⟩ (pc2 := 77) rfl dX12_call_74 q246 ?_
        refine EW_iconst (pc2 := 78) (v := 1) rfl dX12_call_77 (by decide) ?_
        refine EW_iadd (pc2 := 79) rfl dX12_call_78 ?_
        refine AW_puti ⟨gfRX12_525, rfl, rfl⟩ (pc2 := 82) rfl dX12_call_79 q246 ?_
        refine EW_aload_n (pc2 := 83) rfl dX12_call_82 0 rfl ?_
        refine AW_getr (r := 318) ⟨gfRX12_238, rfl⟩ (pc2 := 86) rfl dX12_call_83 q246 rfl ?_
        refine EW_iload_n (pc2 := 87) rfl dX12_call_86 2 rfl ?_
        refine EW_aload_n (pc2 := 88) rfl dX12_call_87 0 rfl ?_
        refine EW_iload_n (pc2 := 89) rfl dX12_call_88 1 rfl ?_
        refine AW_invV (M' := MX12_burnsAt) [.int v1] (rest := [.int ((wr x 246 0 0).1 246 92), .ref 318]) mlRX12_531 okX12_burnsAt (pc2 := 92) rfl dX12_call_89 rfl rfl (Nat.le_of_ble_eq_true rfl) (Nat.le_of_ble_eq_true rfl) (d' := 3) (by omega) q246 ⟨by decide, rfl⟩ (EW_mono (fun _ _ hr => ?_) (sX12_burnsAt v1  (wr (wr (wr (wr (wr (wr x 246 0 0) 310 (Int32.toNatClampNeg ((wr x 246 0 0).1 246 92)) v1) 311 (Int32.toNatClampNeg ((wr x 246 0 0).1 246 92)) 0) 313 (Int32.toNatClampNeg ((wr x 246 0 0).1 246 92)) ((wr (wr (wr x 246 0 0) 310 (Int32.toNatClampNeg ((wr x 246 0 0).1 246 92)) v1) 311 (Int32.toNatClampNeg ((wr x 246 0 0).1 246 92)) 0).1 246 1)) 314 (Int32.toNatClampNeg ((wr x 246 0 0).1 246 92)) (-1)) 246 92 (((wr (wr (wr (wr (wr x 246 0 0) 310 (Int32.toNatClampNeg ((wr x 246 0 0).1 246 92)) v1) 311 (Int32.toNatClampNeg ((wr x 246 0 0).1 246 92)) 0) 313 (Int32.toNatClampNeg ((wr x 246 0 0).1 246 92)) ((wr (wr (wr x 246 0 0) 310 (Int32.toNatClampNeg ((wr x 246 0 0).1 246 92)) v1) 311 (Int32.toNatClampNeg ((wr x 246 0 0).1 246 92)) 0).1 246 1)) 314 (Int32.toNatClampNeg ((wr x 246 0 0).1 246 92)) (-1)).1 246 92) + 1)) _ _ 0 0 (Nat.le_refl _) h))
        obtain ⟨r7, rfl, rfl, h⟩ := hr
        obtain ⟨b8, h⟩ := h
        obtain ⟨z9, h⟩ := h
        refine AW_zast (pc2 := 93) rfl dX12_call_92 q318 b8 z9 ?_
        refine EW_ls [0, 2] rfl ?_
        exact sX12_call_93 ((wr x 246 0 0).1 246 92) (wr (wr (wr (wr (wr (wr (wr x 246 0 0) 310 (Int32.toNatClampNeg ((wr x 246 0 0).1 246 92)) v1) 311 (Int32.toNatClampNeg ((wr x 246 0 0).1 246 92)) 0) 313 (Int32.toNatClampNeg ((wr x 246 0 0).1 246 92)) ((wr (wr (wr x 246 0 0) 310 (Int32.toNatClampNeg ((wr x 246 0 0).1 246 92)) v1) 311 (Int32.toNatClampNeg ((wr x 246 0 0).1 246 92)) 0).1 246 1)) 314 (Int32.toNatClampNeg ((wr x 246 0 0).1 246 92)) (-1)) 246 92 (((wr (wr (wr (wr (wr x 246 0 0) 310 (Int32.toNatClampNeg ((wr x 246 0 0).1 246 92)) v1) 311 (Int32.toNatClampNeg ((wr x 246 0 0).1 246 92)) 0) 313 (Int32.toNatClampNeg ((wr x 246 0 0).1 246 92)) ((wr (wr (wr x 246 0 0) 310 (Int32.toNatClampNeg ((wr x 246 0 0).1 246 92)) v1) 311 (Int32.toNatClampNeg ((wr x 246 0 0).1 246 92)) 0).1 246 1)) 314 (Int32.toNatClampNeg ((wr x 246 0 0).1 246 92)) (-1)).1 246 92) + 1)) 318 (Int32.toNatClampNeg ((wr x 246 0 0).1 246 92)) r7) K d bc bs hdp h
      · replace h := h.2 q
        refine EW_iconst (pc2 := 35) (v := (-1)) rfl dX12_call_34 (by decide) ?_
        exact AW_iret rfl dX12_call_35 ⟨_, _, rfl, rfl, h⟩
  · replace h := h.2 q
    refine EW_iconst (pc2 := 13) (v := (-1)) rfl dX12_call_12 (by decide) ?_
    exact AW_iret rfl dX12_call_13 ⟨_, _, rfl, rfl, h⟩
abbrev MX12_called : ab_M := (yX12_called, cX12_called, 3, (some .int))
theorem dX12_called_0 : decode cX12_called 0 = .ok (.aload_n 0, 1) := by decide +kernel
theorem dX12_called_1 : decode cX12_called 1 = .ok (.iconst 0, 1) := by decide +kernel
theorem dX12_called_2 : decode cX12_called 2 = .ok (.putfield 297, 3) := by decide +kernel
theorem dX12_called_5 : decode cX12_called 5 = .ok (.iload_n 1, 1) := by decide +kernel
theorem dX12_called_6 : decode cX12_called 6 = .ok (.ifCond .lt 11, 3) := by decide +kernel
theorem dX12_called_9 : decode cX12_called 9 = .ok (.iload_n 1, 1) := by decide +kernel
theorem dX12_called_10 : decode cX12_called 10 = .ok (.aload_n 0, 1) := by decide +kernel
theorem dX12_called_11 : decode cX12_called 11 = .ok (.getfield 525, 3) := by decide +kernel
theorem dX12_called_14 : decode cX12_called 14 = .ok (.if_icmp .lt 5, 3) := by decide +kernel
theorem dX12_called_17 : decode cX12_called 17 = .ok (.iconst (-1), 1) := by decide +kernel
theorem dX12_called_18 : decode cX12_called 18 = .ok (.ireturn, 1) := by decide +kernel
theorem dX12_called_19 : decode cX12_called 19 = .ok (.iload_n 2, 1) := by decide +kernel
theorem dX12_called_20 : decode cX12_called 20 = .ok (.tableswitch 104 0 7 #[48, 55, 62, 69, 76, 83, 90, 97], 48) := by decide +kernel
theorem dX12_called_68 : decode cX12_called 68 = .ok (.aload_n 0, 1) := by decide +kernel
theorem dX12_called_69 : decode cX12_called 69 = .ok (.getfield 214, 3) := by decide +kernel
theorem dX12_called_72 : decode cX12_called 72 = .ok (.iload_n 1, 1) := by decide +kernel
theorem dX12_called_73 : decode cX12_called 73 = .ok (.iaload, 1) := by decide +kernel
theorem dX12_called_74 : decode cX12_called 74 = .ok (.ireturn, 1) := by decide +kernel
theorem dX12_called_75 : decode cX12_called 75 = .ok (.aload_n 0, 1) := by decide +kernel
theorem dX12_called_76 : decode cX12_called 76 = .ok (.getfield 217, 3) := by decide +kernel
theorem dX12_called_79 : decode cX12_called 79 = .ok (.iload_n 1, 1) := by decide +kernel
theorem dX12_called_80 : decode cX12_called 80 = .ok (.iaload, 1) := by decide +kernel
theorem dX12_called_81 : decode cX12_called 81 = .ok (.ireturn, 1) := by decide +kernel
theorem dX12_called_82 : decode cX12_called 82 = .ok (.aload_n 0, 1) := by decide +kernel
theorem dX12_called_83 : decode cX12_called 83 = .ok (.getfield 220, 3) := by decide +kernel
theorem dX12_called_86 : decode cX12_called 86 = .ok (.iload_n 1, 1) := by decide +kernel
theorem dX12_called_87 : decode cX12_called 87 = .ok (.iaload, 1) := by decide +kernel
theorem dX12_called_88 : decode cX12_called 88 = .ok (.ireturn, 1) := by decide +kernel
theorem dX12_called_89 : decode cX12_called 89 = .ok (.aload_n 0, 1) := by decide +kernel
theorem dX12_called_90 : decode cX12_called 90 = .ok (.getfield 223, 3) := by decide +kernel
theorem dX12_called_93 : decode cX12_called 93 = .ok (.iload_n 1, 1) := by decide +kernel
theorem dX12_called_94 : decode cX12_called 94 = .ok (.iaload, 1) := by decide +kernel
theorem dX12_called_95 : decode cX12_called 95 = .ok (.ireturn, 1) := by decide +kernel
theorem dX12_called_96 : decode cX12_called 96 = .ok (.aload_n 0, 1) := by decide +kernel
theorem dX12_called_97 : decode cX12_called 97 = .ok (.getfield 226, 3) := by decide +kernel
theorem dX12_called_100 : decode cX12_called 100 = .ok (.iload_n 1, 1) := by decide +kernel
theorem dX12_called_101 : decode cX12_called 101 = .ok (.iaload, 1) := by decide +kernel
theorem dX12_called_102 : decode cX12_called 102 = .ok (.ireturn, 1) := by decide +kernel
theorem dX12_called_103 : decode cX12_called 103 = .ok (.aload_n 0, 1) := by decide +kernel
theorem dX12_called_104 : decode cX12_called 104 = .ok (.getfield 229, 3) := by decide +kernel
theorem dX12_called_107 : decode cX12_called 107 = .ok (.iload_n 1, 1) := by decide +kernel
theorem dX12_called_108 : decode cX12_called 108 = .ok (.iaload, 1) := by decide +kernel
theorem dX12_called_109 : decode cX12_called 109 = .ok (.ireturn, 1) := by decide +kernel
theorem dX12_called_110 : decode cX12_called 110 = .ok (.aload_n 0, 1) := by decide +kernel
theorem dX12_called_111 : decode cX12_called 111 = .ok (.getfield 232, 3) := by decide +kernel
theorem dX12_called_114 : decode cX12_called 114 = .ok (.iload_n 1, 1) := by decide +kernel
theorem dX12_called_115 : decode cX12_called 115 = .ok (.iaload, 1) := by decide +kernel
theorem dX12_called_116 : decode cX12_called 116 = .ok (.ireturn, 1) := by decide +kernel
theorem dX12_called_117 : decode cX12_called 117 = .ok (.aload_n 0, 1) := by decide +kernel
theorem dX12_called_118 : decode cX12_called 118 = .ok (.getfield 235, 3) := by decide +kernel
theorem dX12_called_121 : decode cX12_called 121 = .ok (.iload_n 1, 1) := by decide +kernel
theorem dX12_called_122 : decode cX12_called 122 = .ok (.iaload, 1) := by decide +kernel
theorem dX12_called_123 : decode cX12_called 123 = .ok (.ireturn, 1) := by decide +kernel
theorem dX12_called_124 : decode cX12_called 124 = .ok (.iconst (-1), 1) := by decide +kernel
theorem dX12_called_125 : decode cX12_called 125 = .ok (.ireturn, 1) := by decide +kernel
theorem okX12_called : ab_okM MX12_called 2 := ⟨by decide, ⟨by decide, by decide⟩, ab_in 2538 (by decide +kernel) (by decide +kernel), ab_in 99 (by decide +kernel) (by decide +kernel), by decide +kernel, by decide⟩
set_option maxHeartbeats 4000000 in
set_option maxRecDepth 100000 in
theorem sX12_called (v1 : Int32) (v2 : Int32)  (x : ab_X) (K : Int32 → ab_X → Prop) (d bc bs : Nat) (hdp : 0 ≤ d) (h : wX12_called v1 v2 x K) : EW MX12_called 0 [(0, .ref 246), (1, .int v1), (2, .int v2)] [] (aS x) d bc bs (liI K) := by
  unfold wX12_called at h
  refine EW_aload_n (pc2 := 1) rfl dX12_called_0 0 rfl ?_
  refine EW_iconst (pc2 := 2) (v := 0) rfl dX12_called_1 (by decide) ?_
  refine AW_puti ⟨gfRX12_297, rfl, rfl⟩ (pc2 := 5) rfl dX12_called_2 q246 ?_
  refine EW_iload_n (pc2 := 6) rfl dX12_called_5 1 rfl ?_
  refine EW_if_lt (tgt := 17) (pc2 := 9) rfl dX12_called_6 (by decide) (fun q => ?_) (fun q => ?_)
  · replace h := h.1 q
    refine EW_iconst (pc2 := 18) (v := (-1)) rfl dX12_called_17 (by decide) ?_
    exact AW_iret rfl dX12_called_18 ⟨_, _, rfl, rfl, h⟩
  · replace h := h.2 q
    refine EW_iload_n (pc2 := 10) rfl dX12_called_9 1 rfl ?_
    refine EW_aload_n (pc2 := 11) rfl dX12_called_10 0 rfl ?_
    refine AW_geti ⟨gfRX12_525, rfl⟩ (pc2 := 14) rfl dX12_called_11 q246 ?_
    refine EW_icmp_lt (tgt := 19) (pc2 := 17) rfl dX12_called_14 (by decide) (fun q => ?_) (fun q => ?_)
    · replace h := h.1 q
      refine EW_iload_n (pc2 := 20) rfl dX12_called_19 2 rfl ?_
      by_cases qo : Int32.toInt v2 < 0 ∨ 7 < Int32.toInt v2
      · replace h := h.1 qo
        refine EW_tabOut (tgt := 124) dX12_called_20 qo (by decide) ?_
        refine EW_iconst (pc2 := 125) (v := (-1)) rfl dX12_called_124 (by decide) ?_
        exact AW_iret rfl dX12_called_125 ⟨_, _, rfl, rfl, h⟩
      · obtain ⟨kk, hkk, qk⟩ := sw_in 0 7 (by decide) qo
        match kk, hkk, qk with
        | 0, _, qk =>
          replace h := h.2.1 qk
          refine EW_tabIn (off := 48) (tgt := 68) dX12_called_20 (by rw [qk]; decide) (by rw [qk]; decide) (by rw [qk]; decide) (by decide) ?_
          refine EW_aload_n (pc2 := 69) rfl dX12_called_68 0 rfl ?_
          refine AW_getr (r := 310) ⟨gfRX12_214, rfl⟩ (pc2 := 72) rfl dX12_called_69 q246 rfl ?_
          refine EW_iload_n (pc2 := 73) rfl dX12_called_72 1 rfl ?_
          obtain ⟨b1, h⟩ := h
          refine AW_iald (pc2 := 74) rfl dX12_called_73 q310 b1 ?_
          exact AW_iret rfl dX12_called_74 ⟨_, _, rfl, rfl, h⟩
        | 1, _, qk =>
          replace h := h.2.2.1 qk
          refine EW_tabIn (off := 55) (tgt := 75) dX12_called_20 (by rw [qk]; decide) (by rw [qk]; decide) (by rw [qk]; decide) (by decide) ?_
          refine EW_aload_n (pc2 := 76) rfl dX12_called_75 0 rfl ?_
          refine AW_getr (r := 311) ⟨gfRX12_217, rfl⟩ (pc2 := 79) rfl dX12_called_76 q246 rfl ?_
          refine EW_iload_n (pc2 := 80) rfl dX12_called_79 1 rfl ?_
          obtain ⟨b2, h⟩ := h
          refine AW_iald (pc2 := 81) rfl dX12_called_80 q311 b2 ?_
          exact AW_iret rfl dX12_called_81 ⟨_, _, rfl, rfl, h⟩
        | 2, _, qk =>
          replace h := h.2.2.2.1 qk
          refine EW_tabIn (off := 62) (tgt := 82) dX12_called_20 (by rw [qk]; decide) (by rw [qk]; decide) (by rw [qk]; decide) (by decide) ?_
          refine EW_aload_n (pc2 := 83) rfl dX12_called_82 0 rfl ?_
          refine AW_getr (r := 312) ⟨gfRX12_220, rfl⟩ (pc2 := 86) rfl dX12_called_83 q246 rfl ?_
          refine EW_iload_n (pc2 := 87) rfl dX12_called_86 1 rfl ?_
          obtain ⟨b3, h⟩ := h
          refine AW_iald (pc2 := 88) rfl dX12_called_87 q312 b3 ?_
          exact AW_iret rfl dX12_called_88 ⟨_, _, rfl, rfl, h⟩
        | 3, _, qk =>
          replace h := h.2.2.2.2.1 qk
          refine EW_tabIn (off := 69) (tgt := 89) dX12_called_20 (by rw [qk]; decide) (by rw [qk]; decide) (by rw [qk]; decide) (by decide) ?_
          refine EW_aload_n (pc2 := 90) rfl dX12_called_89 0 rfl ?_
          refine AW_getr (r := 313) ⟨gfRX12_223, rfl⟩ (pc2 := 93) rfl dX12_called_90 q246 rfl ?_
          refine EW_iload_n (pc2 := 94) rfl dX12_called_93 1 rfl ?_
          obtain ⟨b4, h⟩ := h
          refine AW_iald (pc2 := 95) rfl dX12_called_94 q313 b4 ?_
          exact AW_iret rfl dX12_called_95 ⟨_, _, rfl, rfl, h⟩
        | 4, _, qk =>
          replace h := h.2.2.2.2.2.1 qk
          refine EW_tabIn (off := 76) (tgt := 96) dX12_called_20 (by rw [qk]; decide) (by rw [qk]; decide) (by rw [qk]; decide) (by decide) ?_
          refine EW_aload_n (pc2 := 97) rfl dX12_called_96 0 rfl ?_
          refine AW_getr (r := 314) ⟨gfRX12_226, rfl⟩ (pc2 := 100) rfl dX12_called_97 q246 rfl ?_
          refine EW_iload_n (pc2 := 101) rfl dX12_called_100 1 rfl ?_
          obtain ⟨b5, h⟩ := h
          refine AW_iald (pc2 := 102) rfl dX12_called_101 q314 b5 ?_
          exact AW_iret rfl dX12_called_102 ⟨_, _, rfl, rfl, h⟩
        | 5, _, qk =>
          replace h := h.2.2.2.2.2.2.1 qk
          refine EW_tabIn (off := 83) (tgt := 103) dX12_called_20 (by rw [qk]; decide) (by rw [qk]; decide) (by rw [qk]; decide) (by decide) ?_
          refine EW_aload_n (pc2 := 104) rfl dX12_called_103 0 rfl ?_
          refine AW_getr (r := 315) ⟨gfRX12_229, rfl⟩ (pc2 := 107) rfl dX12_called_104 q246 rfl ?_
          refine EW_iload_n (pc2 := 108) rfl dX12_called_107 1 rfl ?_
          obtain ⟨b6, h⟩ := h
          refine AW_iald (pc2 := 109) rfl dX12_called_108 q315 b6 ?_
          exact AW_iret rfl dX12_called_109 ⟨_, _, rfl, rfl, h⟩
        | 6, _, qk =>
          replace h := h.2.2.2.2.2.2.2.1 qk
          refine EW_tabIn (off := 90) (tgt := 110) dX12_called_20 (by rw [qk]; decide) (by rw [qk]; decide) (by rw [qk]; decide) (by decide) ?_
          refine EW_aload_n (pc2 := 111) rfl dX12_called_110 0 rfl ?_
          refine AW_getr (r := 316) ⟨gfRX12_232, rfl⟩ (pc2 := 114) rfl dX12_called_111 q246 rfl ?_
          refine EW_iload_n (pc2 := 115) rfl dX12_called_114 1 rfl ?_
          obtain ⟨b7, h⟩ := h
          refine AW_iald (pc2 := 116) rfl dX12_called_115 q316 b7 ?_
          exact AW_iret rfl dX12_called_116 ⟨_, _, rfl, rfl, h⟩
        | 7, _, qk =>
          replace h := h.2.2.2.2.2.2.2.2 qk
          refine EW_tabIn (off := 97) (tgt := 117) dX12_called_20 (by rw [qk]; decide) (by rw [qk]; decide) (by rw [qk]; decide) (by decide) ?_
          refine EW_aload_n (pc2 := 118) rfl dX12_called_117 0 rfl ?_
          refine AW_getr (r := 317) ⟨gfRX12_235, rfl⟩ (pc2 := 121) rfl dX12_called_118 q246 rfl ?_
          refine EW_iload_n (pc2 := 122) rfl dX12_called_121 1 rfl ?_
          obtain ⟨b8, h⟩ := h
          refine AW_iald (pc2 := 123) rfl dX12_called_122 q317 b8 ?_
          exact AW_iret rfl dX12_called_123 ⟨_, _, rfl, rfl, h⟩
        | n9 + 8, hkk, _ => exact absurd hkk (by omega)
    · replace h := h.2 q
      refine EW_iconst (pc2 := 18) (v := (-1)) rfl dX12_called_17 (by decide) ?_
      exact AW_iret rfl dX12_called_18 ⟨_, _, rfl, rfl, h⟩
theorem gfRX12_648 : ab_L RX12 648 12 116 := ⟨by decide, by decide, ab_in 1965 (by decide +kernel) (by decide +kernel)⟩
abbrev MX12_isRow : ab_M := (yX12_isRow, cX12_isRow, 2, (some .boolean))
theorem dX12_isRow_0 : decode cX12_isRow 0 = .ok (.iload_n 1, 1) := by decide +kernel
theorem dX12_isRow_1 : decode cX12_isRow 1 = .ok (.ifCond .lt 15, 3) := by decide +kernel
theorem dX12_isRow_4 : decode cX12_isRow 4 = .ok (.iload_n 1, 1) := by decide +kernel
theorem dX12_isRow_5 : decode cX12_isRow 5 = .ok (.aload_n 0, 1) := by decide +kernel
theorem dX12_isRow_6 : decode cX12_isRow 6 = .ok (.getfield 648, 3) := by decide +kernel
theorem dX12_isRow_9 : decode cX12_isRow 9 = .ok (.if_icmp .ge 7, 3) := by decide +kernel
theorem dX12_isRow_12 : decode cX12_isRow 12 = .ok (.iconst 1, 1) := by decide +kernel
theorem dX12_isRow_13 : decode cX12_isRow 13 = .ok (.goto 4, 3) := by decide +kernel
theorem dX12_isRow_16 : decode cX12_isRow 16 = .ok (.iconst 0, 1) := by decide +kernel
theorem dX12_isRow_17 : decode cX12_isRow 17 = .ok (.ireturn, 1) := by decide +kernel
theorem okX12_isRow : ab_okM MX12_isRow 1 := ⟨by decide, ⟨by decide, by decide⟩, ab_in 2706 (by decide +kernel) (by decide +kernel), ab_in 99 (by decide +kernel) (by decide +kernel), by decide +kernel, by decide⟩
set_option maxHeartbeats 4000000 in
set_option maxRecDepth 100000 in
theorem sX12_isRow (v1 : Int32)  (x : ab_X) (K : Int32 → Prop) (d bc bs : Nat) (hdp : 0 ≤ d) (h : wX12_isRow v1 x K) : EW MX12_isRow 0 [(0, .ref 246), (1, .int v1)] [] (aS x) d bc bs (liP x K) := by
  unfold wX12_isRow at h
  refine EW_iload_n (pc2 := 1) rfl dX12_isRow_0 1 rfl ?_
  refine EW_if_lt (tgt := 16) (pc2 := 4) rfl dX12_isRow_1 (by decide) (fun q => ?_) (fun q => ?_)
  · replace h := h.1 q
    refine EW_iconst (pc2 := 17) (v := 0) rfl dX12_isRow_16 (by decide) ?_
    exact AW_zret rfl isB0 dX12_isRow_17 ⟨_, rfl, rfl, h⟩
  · replace h := h.2 q
    refine EW_iload_n (pc2 := 5) rfl dX12_isRow_4 1 rfl ?_
    refine EW_aload_n (pc2 := 6) rfl dX12_isRow_5 0 rfl ?_
    refine AW_geti ⟨gfRX12_648, rfl⟩ (pc2 := 9) rfl dX12_isRow_6 q246 ?_
    refine EW_icmp_ge (tgt := 16) (pc2 := 12) rfl dX12_isRow_9 (by decide) (fun q => ?_) (fun q => ?_)
    · replace h := h.1 q
      refine EW_iconst (pc2 := 17) (v := 0) rfl dX12_isRow_16 (by decide) ?_
      exact AW_zret rfl isB0 dX12_isRow_17 ⟨_, rfl, rfl, h⟩
    · replace h := h.2 q
      refine EW_iconst (pc2 := 13) (v := 1) rfl dX12_isRow_12 (by decide) ?_
      refine EW_goto (tgt := 17) dX12_isRow_13 (by decide) ?_
      exact AW_zret rfl isB1 dX12_isRow_17 ⟨_, rfl, rfl, h⟩
theorem mlRX12_651 : Cond.methodLink RX12 651 yX12_isRow ∈ ab_G ∧ Cond.instanceMethod yX12_isRow ∈ ab_G ∧ Cond.selects RX12 yX12_isRow yX12_isRow ∈ ab_G := ⟨ab_in 2703 (by decide +kernel) (by decide +kernel), ab_in 2705 (by decide +kernel) (by decide +kernel), ab_in 82 (by decide +kernel) (by decide +kernel)⟩
theorem gfRX12_281 : ab_L RX12 281 12 115 := ⟨by decide, by decide, ab_in 1964 (by decide +kernel) (by decide +kernel)⟩
theorem cnRX12_669 : Cond.constant RX12 669 1048575 ∈ ab_G := ab_in 2729 (by decide +kernel) (by decide +kernel)
abbrev MX12_canJudge : ab_M := (yX12_canJudge, cX12_canJudge, 4, (some .boolean))
theorem dX12_canJudge_0 : decode cX12_canJudge 0 = .ok (.aload_n 0, 1) := by decide +kernel
theorem dX12_canJudge_1 : decode cX12_canJudge 1 = .ok (.iconst 0, 1) := by decide +kernel
theorem dX12_canJudge_2 : decode cX12_canJudge 2 = .ok (.putfield 297, 3) := by decide +kernel
theorem dX12_canJudge_5 : decode cX12_canJudge 5 = .ok (.aload_n 0, 1) := by decide +kernel
theorem dX12_canJudge_6 : decode cX12_canJudge 6 = .ok (.iload_n 1, 1) := by decide +kernel
theorem dX12_canJudge_7 : decode cX12_canJudge 7 = .ok (.invokevirtual 651, 3) := by decide +kernel
theorem dX12_canJudge_10 : decode cX12_canJudge 10 = .ok (.ifCond .eq 37, 3) := by decide +kernel
theorem dX12_canJudge_13 : decode cX12_canJudge 13 = .ok (.aload_n 0, 1) := by decide +kernel
theorem dX12_canJudge_14 : decode cX12_canJudge 14 = .ok (.getfield 281, 3) := by decide +kernel
theorem dX12_canJudge_17 : decode cX12_canJudge 17 = .ok (.iload_n 1, 1) := by decide +kernel
theorem dX12_canJudge_18 : decode cX12_canJudge 18 = .ok (.baload, 1) := by decide +kernel
theorem dX12_canJudge_19 : decode cX12_canJudge 19 = .ok (.ifCond .ne 28, 3) := by decide +kernel
theorem dX12_canJudge_22 : decode cX12_canJudge 22 = .ok (.iload_n 2, 1) := by decide +kernel
theorem dX12_canJudge_23 : decode cX12_canJudge 23 = .ok (.iconst 0, 1) := by decide +kernel
theorem dX12_canJudge_24 : decode cX12_canJudge 24 = .ok (.ldc_w 669, 3) := by decide +kernel
theorem dX12_canJudge_27 : decode cX12_canJudge 27 = .ok (.invokestatic 307, 3) := by decide +kernel
theorem dX12_canJudge_30 : decode cX12_canJudge 30 = .ok (.ifCond .eq 17, 3) := by decide +kernel
theorem dX12_canJudge_33 : decode cX12_canJudge 33 = .ok (.iload_n 3, 1) := by decide +kernel
theorem dX12_canJudge_34 : decode cX12_canJudge 34 = .ok (.iconst 0, 1) := by decide +kernel
theorem dX12_canJudge_35 : decode cX12_canJudge 35 = .ok (.bipush 100, 2) := by decide +kernel
theorem dX12_canJudge_37 : decode cX12_canJudge 37 = .ok (.invokestatic 307, 3) := by decide +kernel
theorem dX12_canJudge_40 : decode cX12_canJudge 40 = .ok (.ifCond .eq 7, 3) := by decide +kernel
theorem dX12_canJudge_43 : decode cX12_canJudge 43 = .ok (.iconst 1, 1) := by decide +kernel
theorem dX12_canJudge_44 : decode cX12_canJudge 44 = .ok (.goto 4, 3) := by decide +kernel
theorem dX12_canJudge_47 : decode cX12_canJudge 47 = .ok (.iconst 0, 1) := by decide +kernel
theorem dX12_canJudge_48 : decode cX12_canJudge 48 = .ok (.ireturn, 1) := by decide +kernel
theorem okX12_canJudge : ab_okM MX12_canJudge 3 := ⟨by decide, ⟨by decide, by decide⟩, ab_in 2728 (by decide +kernel) (by decide +kernel), ab_in 99 (by decide +kernel) (by decide +kernel), by decide +kernel, by decide⟩
set_option maxHeartbeats 4000000 in
set_option maxRecDepth 100000 in
theorem sX12_canJudge (v1 : Int32) (v2 : Int32) (v3 : Int32)  (x : ab_X) (K : Int32 → ab_X → Prop) (d bc bs : Nat) (hdp : 1 ≤ d) (h : wX12_canJudge v1 v2 v3 x K) : EW MX12_canJudge 0 [(0, .ref 246), (1, .int v1), (2, .int v2), (3, .int v3)] [] (aS x) d bc bs (liI K) := by
  unfold wX12_canJudge at h
  refine EW_aload_n (pc2 := 1) rfl dX12_canJudge_0 0 rfl ?_
  refine EW_iconst (pc2 := 2) (v := 0) rfl dX12_canJudge_1 (by decide) ?_
  refine AW_puti ⟨gfRX12_297, rfl, rfl⟩ (pc2 := 5) rfl dX12_canJudge_2 q246 ?_
  refine EW_aload_n (pc2 := 6) rfl dX12_canJudge_5 0 rfl ?_
  refine EW_iload_n (pc2 := 7) rfl dX12_canJudge_6 1 rfl ?_
  refine AW_invV (M' := MX12_isRow) [.int v1] (rest := []) mlRX12_651 okX12_isRow (pc2 := 10) rfl dX12_canJudge_7 rfl rfl (Nat.le_of_ble_eq_true rfl) (Nat.le_of_ble_eq_true rfl) (d' := 0) (by omega) q246 ⟨by decide, rfl⟩ (EW_mono (fun _ _ hr => ?_) (sX12_isRow v1  (wr x 246 0 0) _ _ 0 0 (Nat.le_refl _) h))
  obtain ⟨r1, rfl, rfl, h⟩ := hr
  refine EW_if_eq (tgt := 47) (pc2 := 13) rfl dX12_canJudge_10 (by decide) (fun q => ?_) (fun q => ?_)
  · replace h := h.1 q
    refine EW_iconst (pc2 := 48) (v := 0) rfl dX12_canJudge_47 (by decide) ?_
    exact AW_zret rfl isB0 dX12_canJudge_48 ⟨_, _, rfl, rfl, h⟩
  · replace h := h.2 q
    refine EW_aload_n (pc2 := 14) rfl dX12_canJudge_13 0 rfl ?_
    refine AW_getr (r := 332) ⟨gfRX12_281, rfl⟩ (pc2 := 17) rfl dX12_canJudge_14 q246 rfl ?_
    refine EW_iload_n (pc2 := 18) rfl dX12_canJudge_17 1 rfl ?_
    obtain ⟨b2, h⟩ := h
    refine AW_zald (pc2 := 19) rfl dX12_canJudge_18 q332 b2 ?_
    refine EW_if_ne (tgt := 47) (pc2 := 22) rfl dX12_canJudge_19 (by decide) (fun q => ?_) (fun q => ?_)
    · replace h := h.1 q
      refine EW_iconst (pc2 := 48) (v := 0) rfl dX12_canJudge_47 (by decide) ?_
      exact AW_zret rfl isB0 dX12_canJudge_48 ⟨_, _, rfl, rfl, h⟩
    · replace h := h.2 q
      refine EW_iload_n (pc2 := 23) rfl dX12_canJudge_22 2 rfl ?_
      refine EW_iconst (pc2 := 24) (v := 0) rfl dX12_canJudge_23 (by decide) ?_
      refine EW_ldcw cnRX12_669 (pc2 := 27) rfl dX12_canJudge_24 ?_
      refine AW_invS (M' := MX12_isIn) [.int v2, .int 0, .int 1048575] (rest := []) mlRX12_307 okX12_isIn (pc2 := 30) rfl dX12_canJudge_27 rfl rfl (Nat.le_of_ble_eq_true rfl) (Nat.le_of_ble_eq_true rfl) (d' := 0) (by omega) (EW_mono (fun _ _ hr => ?_) (sX12_isIn v2 0 1048575  (wr x 246 0 0) _ _ 0 0 (Nat.le_refl _) h))
      obtain ⟨r3, rfl, rfl, h⟩ := hr
      refine EW_if_eq (tgt := 47) (pc2 := 33) rfl dX12_canJudge_30 (by decide) (fun q => ?_) (fun q => ?_)
      · replace h := h.1 q
        refine EW_iconst (pc2 := 48) (v := 0) rfl dX12_canJudge_47 (by decide) ?_
        exact AW_zret rfl isB0 dX12_canJudge_48 ⟨_, _, rfl, rfl, h⟩
      · replace h := h.2 q
        refine EW_iload_n (pc2 := 34) rfl dX12_canJudge_33 3 rfl ?_
        refine EW_iconst (pc2 := 35) (v := 0) rfl dX12_canJudge_34 (by decide) ?_
        refine EW_bipush (pc2 := 37) (v := 100) rfl dX12_canJudge_35 (by decide) ?_
        refine AW_invS (M' := MX12_isIn) [.int v3, .int 0, .int 100] (rest := []) mlRX12_307 okX12_isIn (pc2 := 40) rfl dX12_canJudge_37 rfl rfl (Nat.le_of_ble_eq_true rfl) (Nat.le_of_ble_eq_true rfl) (d' := 0) (by omega) (EW_mono (fun _ _ hr => ?_) (sX12_isIn v3 0 100  (wr x 246 0 0) _ _ 0 0 (Nat.le_refl _) h))
        obtain ⟨r4, rfl, rfl, h⟩ := hr
        refine EW_if_eq (tgt := 47) (pc2 := 43) rfl dX12_canJudge_40 (by decide) (fun q => ?_) (fun q => ?_)
        · replace h := h.1 q
          refine EW_iconst (pc2 := 48) (v := 0) rfl dX12_canJudge_47 (by decide) ?_
          exact AW_zret rfl isB0 dX12_canJudge_48 ⟨_, _, rfl, rfl, h⟩
        · replace h := h.2 q
          refine EW_iconst (pc2 := 44) (v := 1) rfl dX12_canJudge_43 (by decide) ?_
          refine EW_goto (tgt := 48) dX12_canJudge_44 (by decide) ?_
          exact AW_zret rfl isB1 dX12_canJudge_48 ⟨_, _, rfl, rfl, h⟩
theorem gfRX12_596 : ab_L RX12 596 12 99 := ⟨by decide, by decide, ab_in 1948 (by decide +kernel) (by decide +kernel)⟩
theorem gfRX12_244 : ab_L RX12 244 12 95 := ⟨by decide, by decide, ab_in 1944 (by decide +kernel) (by decide +kernel)⟩
theorem gfRX12_247 : ab_L RX12 247 12 96 := ⟨by decide, by decide, ab_in 1945 (by decide +kernel) (by decide +kernel)⟩
theorem gfRX12_250 : ab_L RX12 250 12 97 := ⟨by decide, by decide, ab_in 1946 (by decide +kernel) (by decide +kernel)⟩
theorem gfRX12_253 : ab_L RX12 253 12 98 := ⟨by decide, by decide, ab_in 1947 (by decide +kernel) (by decide +kernel)⟩
abbrev MX12_tell : ab_M := (yX12_tell, cX12_tell, 4, (some .boolean))
theorem dX12_tell_0 : decode cX12_tell 0 = .ok (.aload_n 0, 1) := by decide +kernel
theorem dX12_tell_1 : decode cX12_tell 1 = .ok (.iload_n 1, 1) := by decide +kernel
theorem dX12_tell_2 : decode cX12_tell 2 = .ok (.invokevirtual 334, 3) := by decide +kernel
theorem dX12_tell_5 : decode cX12_tell 5 = .ok (.ifCond .eq 12, 3) := by decide +kernel
theorem dX12_tell_8 : decode cX12_tell 8 = .ok (.aload_n 0, 1) := by decide +kernel
theorem dX12_tell_9 : decode cX12_tell 9 = .ok (.getfield 596, 3) := by decide +kernel
theorem dX12_tell_12 : decode cX12_tell 12 = .ok (.bipush 100, 2) := by decide +kernel
theorem dX12_tell_14 : decode cX12_tell 14 = .ok (.if_icmp .ne 5, 3) := by decide +kernel
theorem dX12_tell_17 : decode cX12_tell 17 = .ok (.iconst 0, 1) := by decide +kernel
theorem dX12_tell_18 : decode cX12_tell 18 = .ok (.ireturn, 1) := by decide +kernel
theorem dX12_tell_19 : decode cX12_tell 19 = .ok (.aload_n 0, 1) := by decide +kernel
theorem dX12_tell_20 : decode cX12_tell 20 = .ok (.getfield 244, 3) := by decide +kernel
theorem dX12_tell_23 : decode cX12_tell 23 = .ok (.aload_n 0, 1) := by decide +kernel
theorem dX12_tell_24 : decode cX12_tell 24 = .ok (.getfield 596, 3) := by decide +kernel
theorem dX12_tell_27 : decode cX12_tell 27 = .ok (.iload_n 1, 1) := by decide +kernel
theorem dX12_tell_28 : decode cX12_tell 28 = .ok (.iastore, 1) := by decide +kernel
theorem dX12_tell_29 : decode cX12_tell 29 = .ok (.aload_n 0, 1) := by decide +kernel
theorem dX12_tell_30 : decode cX12_tell 30 = .ok (.getfield 247, 3) := by decide +kernel
theorem dX12_tell_33 : decode cX12_tell 33 = .ok (.aload_n 0, 1) := by decide +kernel
theorem dX12_tell_34 : decode cX12_tell 34 = .ok (.getfield 596, 3) := by decide +kernel
theorem dX12_tell_37 : decode cX12_tell 37 = .ok (.iload_n 2, 1) := by decide +kernel
theorem dX12_tell_38 : decode cX12_tell 38 = .ok (.iastore, 1) := by decide +kernel
theorem dX12_tell_39 : decode cX12_tell 39 = .ok (.aload_n 0, 1) := by decide +kernel
theorem dX12_tell_40 : decode cX12_tell 40 = .ok (.getfield 250, 3) := by decide +kernel
theorem dX12_tell_43 : decode cX12_tell 43 = .ok (.aload_n 0, 1) := by decide +kernel
theorem dX12_tell_44 : decode cX12_tell 44 = .ok (.getfield 596, 3) := by decide +kernel
theorem dX12_tell_47 : decode cX12_tell 47 = .ok (.iload_n 3, 1) := by decide +kernel
theorem dX12_tell_48 : decode cX12_tell 48 = .ok (.iastore, 1) := by decide +kernel
theorem dX12_tell_49 : decode cX12_tell 49 = .ok (.aload_n 0, 1) := by decide +kernel
theorem dX12_tell_50 : decode cX12_tell 50 = .ok (.getfield 253, 3) := by decide +kernel
theorem dX12_tell_53 : decode cX12_tell 53 = .ok (.aload_n 0, 1) := by decide +kernel
theorem dX12_tell_54 : decode cX12_tell 54 = .ok (.getfield 596, 3) := by decide +kernel
theorem dX12_tell_57 : decode cX12_tell 57 = .ok (.aload_n 0, 1) := by decide +kernel
theorem dX12_tell_58 : decode cX12_tell 58 = .ok (.getfield 395, 3) := by decide +kernel
theorem dX12_tell_61 : decode cX12_tell 61 = .ok (.iastore, 1) := by decide +kernel
theorem dX12_tell_62 : decode cX12_tell 62 = .ok (.aload_n 0, 1) := by decide +kernel
theorem dX12_tell_63 : decode cX12_tell 63 = .ok (.dup, 1) := by decide +kernel
theorem dX12_tell_64 : decode cX12_tell 64 = .ok (.getfield 596, 3) := by decide +kernel
theorem dX12_tell_67 : decode cX12_tell 67 = .ok (.iconst 1, 1) := by decide +kernel
theorem dX12_tell_68 : decode cX12_tell 68 = .ok (.iadd, 1) := by decide +kernel
theorem dX12_tell_69 : decode cX12_tell 69 = .ok (.putfield 596, 3) := by decide +kernel
theorem dX12_tell_72 : decode cX12_tell 72 = .ok (.iconst 1, 1) := by decide +kernel
theorem dX12_tell_73 : decode cX12_tell 73 = .ok (.ireturn, 1) := by decide +kernel
theorem okX12_tell : ab_okM MX12_tell 3 := ⟨by decide, ⟨by decide, by decide⟩, ab_in 2626 (by decide +kernel) (by decide +kernel), ab_in 99 (by decide +kernel) (by decide +kernel), by decide +kernel, by decide⟩
set_option maxHeartbeats 4000000 in
set_option maxRecDepth 100000 in
theorem sX12_tell (v1 : Int32) (v2 : Int32) (v3 : Int32)  (x : ab_X) (K : Int32 → ab_X → Prop) (d bc bs : Nat) (hdp : 1 ≤ d) (h : wX12_tell v1 v2 v3 x K) : EW MX12_tell 0 [(0, .ref 246), (1, .int v1), (2, .int v2), (3, .int v3)] [] (aS x) d bc bs (liI K) := by
  unfold wX12_tell at h
  refine EW_aload_n (pc2 := 1) rfl dX12_tell_0 0 rfl ?_
  refine EW_iload_n (pc2 := 2) rfl dX12_tell_1 1 rfl ?_
  refine AW_invV (M' := MX12_isHouse) [.int v1] (rest := []) mlRX12_334 okX12_isHouse (pc2 := 5) rfl dX12_tell_2 rfl rfl (Nat.le_of_ble_eq_true rfl) (Nat.le_of_ble_eq_true rfl) (d' := 0) (by omega) q246 ⟨by decide, rfl⟩ (EW_mono (fun _ _ hr => ?_) (sX12_isHouse v1  x _ _ 0 0 (Nat.le_refl _) h))
  obtain ⟨r1, rfl, rfl, h⟩ := hr
  refine EW_if_eq (tgt := 17) (pc2 := 8) rfl dX12_tell_5 (by decide) (fun q => ?_) (fun q => ?_)
  · replace h := h.1 q
    refine EW_iconst (pc2 := 18) (v := 0) rfl dX12_tell_17 (by decide) ?_
    exact AW_zret rfl isB0 dX12_tell_18 ⟨_, _, rfl, rfl, h⟩
  · replace h := h.2 q
    refine EW_aload_n (pc2 := 9) rfl dX12_tell_8 0 rfl ?_
    refine AW_geti ⟨gfRX12_596, rfl⟩ (pc2 := 12) rfl dX12_tell_9 q246 ?_
    refine EW_bipush (pc2 := 14) (v := 100) rfl dX12_tell_12 (by decide) ?_
    refine EW_icmp_ne (tgt := 19) (pc2 := 17) rfl dX12_tell_14 (by decide) (fun q => ?_) (fun q => ?_)
    · replace h := h.1 q
      refine EW_aload_n (pc2 := 20) rfl dX12_tell_19 0 rfl ?_
      refine AW_getr (r := 320) ⟨gfRX12_244, rfl⟩ (pc2 := 23) rfl dX12_tell_20 q246 rfl ?_
      refine EW_aload_n (pc2 := 24) rfl dX12_tell_23 0 rfl ?_
      refine AW_geti ⟨gfRX12_596, rfl⟩ (pc2 := 27) rfl dX12_tell_24 q246 ?_
      refine EW_iload_n (pc2 := 28) rfl dX12_tell_27 1 rfl ?_
      obtain ⟨b2, h⟩ := h
      refine AW_iast (pc2 := 29) rfl dX12_tell_28 q320 b2 ?_
      refine EW_aload_n (pc2 := 30) rfl dX12_tell_29 0 rfl ?_
      refine AW_getr (r := 321) ⟨gfRX12_247, rfl⟩ (pc2 := 33) rfl dX12_tell_30 q246 rfl ?_
      refine EW_aload_n (pc2 := 34) rfl dX12_tell_33 0 rfl ?_
      refine AW_geti ⟨gfRX12_596, rfl⟩ (pc2 := 37) rfl dX12_tell_34 q246 ?_
      refine EW_iload_n (pc2 := 38) rfl dX12_tell_37 2 rfl ?_
      obtain ⟨b3, h⟩ := h
      refine AW_iast (pc2 := 39) rfl dX12_tell_38 q321 b3 ?_
      refine EW_aload_n (pc2 := 40) rfl dX12_tell_39 0 rfl ?_
      refine AW_getr (r := 322) ⟨gfRX12_250, rfl⟩ (pc2 := 43) rfl dX12_tell_40 q246 rfl ?_
      refine EW_aload_n (pc2 := 44) rfl dX12_tell_43 0 rfl ?_
      refine AW_geti ⟨gfRX12_596, rfl⟩ (pc2 := 47) rfl dX12_tell_44 q246 ?_
      refine EW_iload_n (pc2 := 48) rfl dX12_tell_47 3 rfl ?_
      obtain ⟨b4, h⟩ := h
      refine AW_iast (pc2 := 49) rfl dX12_tell_48 q322 b4 ?_
      refine EW_aload_n (pc2 := 50) rfl dX12_tell_49 0 rfl ?_
      refine AW_getr (r := 323) ⟨gfRX12_253, rfl⟩ (pc2 := 53) rfl dX12_tell_50 q246 rfl ?_
      refine EW_aload_n (pc2 := 54) rfl dX12_tell_53 0 rfl ?_
      refine AW_geti ⟨gfRX12_596, rfl⟩ (pc2 := 57) rfl dX12_tell_54 q246 ?_
      refine EW_aload_n (pc2 := 58) rfl dX12_tell_57 0 rfl ?_
      refine AW_geti ⟨gfRX12_395, rfl⟩ (pc2 := 61) rfl dX12_tell_58 q246 ?_
      obtain ⟨b5, h⟩ := h
      refine AW_iast (pc2 := 62) rfl dX12_tell_61 q323 b5 ?_
      refine EW_aload_n (pc2 := 63) rfl dX12_tell_62 0 rfl ?_
      refine EW_dup (pc2 := 64) rfl dX12_tell_63 rfl ?_
      refine AW_geti ⟨gfRX12_596, rfl⟩ (pc2 := 67) rfl dX12_tell_64 q246 ?_
      refine EW_iconst (pc2 := 68) (v := 1) rfl dX12_tell_67 (by decide) ?_
      refine EW_iadd (pc2 := 69) rfl dX12_tell_68 ?_
      refine AW_puti ⟨gfRX12_596, rfl, rfl⟩ (pc2 := 72) rfl dX12_tell_69 q246 ?_
      refine EW_iconst (pc2 := 73) (v := 1) rfl dX12_tell_72 (by decide) ?_
      exact AW_zret rfl isB1 dX12_tell_73 ⟨_, _, rfl, rfl, h⟩
    · replace h := h.2 q
      refine EW_iconst (pc2 := 18) (v := 0) rfl dX12_tell_17 (by decide) ?_
      exact AW_zret rfl isB0 dX12_tell_18 ⟨_, _, rfl, rfl, h⟩
theorem mlRX12_599 : Cond.methodLink RX12 599 yX12_tell ∈ ab_G ∧ Cond.instanceMethod yX12_tell ∈ ab_G ∧ Cond.selects RX12 yX12_tell yX12_tell ∈ ab_G := ⟨ab_in 2623 (by decide +kernel) (by decide +kernel), ab_in 2625 (by decide +kernel) (by decide +kernel), ab_in 73 (by decide +kernel) (by decide +kernel)⟩
abbrev MX12_change : ab_M := (yX12_change, cX12_change, 4, (some .boolean))
theorem dX12_change_0 : decode cX12_change 0 = .ok (.aload_n 0, 1) := by decide +kernel
theorem dX12_change_1 : decode cX12_change 1 = .ok (.iconst 0, 1) := by decide +kernel
theorem dX12_change_2 : decode cX12_change 2 = .ok (.putfield 297, 3) := by decide +kernel
theorem dX12_change_5 : decode cX12_change 5 = .ok (.iload_n 2, 1) := by decide +kernel
theorem dX12_change_6 : decode cX12_change 6 = .ok (.iconst 0, 1) := by decide +kernel
theorem dX12_change_7 : decode cX12_change 7 = .ok (.bipush 9, 2) := by decide +kernel
theorem dX12_change_9 : decode cX12_change 9 = .ok (.invokestatic 307, 3) := by decide +kernel
theorem dX12_change_12 : decode cX12_change 12 = .ok (.ifCond .eq 29, 3) := by decide +kernel
theorem dX12_change_15 : decode cX12_change 15 = .ok (.iload_n 3, 1) := by decide +kernel
theorem dX12_change_16 : decode cX12_change 16 = .ok (.iconst 0, 1) := by decide +kernel
theorem dX12_change_17 : decode cX12_change 17 = .ok (.aload_n 0, 1) := by decide +kernel
theorem dX12_change_18 : decode cX12_change 18 = .ok (.getfield 395, 3) := by decide +kernel
theorem dX12_change_21 : decode cX12_change 21 = .ok (.invokestatic 307, 3) := by decide +kernel
theorem dX12_change_24 : decode cX12_change 24 = .ok (.ifCond .eq 17, 3) := by decide +kernel
theorem dX12_change_27 : decode cX12_change 27 = .ok (.aload_n 0, 1) := by decide +kernel
theorem dX12_change_28 : decode cX12_change 28 = .ok (.iload_n 1, 1) := by decide +kernel
theorem dX12_change_29 : decode cX12_change 29 = .ok (.iload_n 2, 1) := by decide +kernel
theorem dX12_change_30 : decode cX12_change 30 = .ok (.iload_n 3, 1) := by decide +kernel
theorem dX12_change_31 : decode cX12_change 31 = .ok (.invokevirtual 599, 3) := by decide +kernel
theorem dX12_change_34 : decode cX12_change 34 = .ok (.ifCond .eq 7, 3) := by decide +kernel
theorem dX12_change_37 : decode cX12_change 37 = .ok (.iconst 1, 1) := by decide +kernel
theorem dX12_change_38 : decode cX12_change 38 = .ok (.goto 4, 3) := by decide +kernel
theorem dX12_change_41 : decode cX12_change 41 = .ok (.iconst 0, 1) := by decide +kernel
theorem dX12_change_42 : decode cX12_change 42 = .ok (.ireturn, 1) := by decide +kernel
theorem okX12_change : ab_okM MX12_change 3 := ⟨by decide, ⟨by decide, by decide⟩, ab_in 2622 (by decide +kernel) (by decide +kernel), ab_in 99 (by decide +kernel) (by decide +kernel), by decide +kernel, by decide⟩
set_option maxHeartbeats 4000000 in
set_option maxRecDepth 100000 in
theorem sX12_change (v1 : Int32) (v2 : Int32) (v3 : Int32)  (x : ab_X) (K : Int32 → ab_X → Prop) (d bc bs : Nat) (hdp : 2 ≤ d) (h : wX12_change v1 v2 v3 x K) : EW MX12_change 0 [(0, .ref 246), (1, .int v1), (2, .int v2), (3, .int v3)] [] (aS x) d bc bs (liI K) := by
  unfold wX12_change at h
  refine EW_aload_n (pc2 := 1) rfl dX12_change_0 0 rfl ?_
  refine EW_iconst (pc2 := 2) (v := 0) rfl dX12_change_1 (by decide) ?_
  refine AW_puti ⟨gfRX12_297, rfl, rfl⟩ (pc2 := 5) rfl dX12_change_2 q246 ?_
  refine EW_iload_n (pc2 := 6) rfl dX12_change_5 2 rfl ?_
  refine EW_iconst (pc2 := 7) (v := 0) rfl dX12_change_6 (by decide) ?_
  refine EW_bipush (pc2 := 9) (v := 9) rfl dX12_change_7 (by decide) ?_
  refine AW_invS (M' := MX12_isIn) [.int v2, .int 0, .int 9] (rest := []) mlRX12_307 okX12_isIn (pc2 := 12) rfl dX12_change_9 rfl rfl (Nat.le_of_ble_eq_true rfl) (Nat.le_of_ble_eq_true rfl) (d' := 0) (by omega) (EW_mono (fun _ _ hr => ?_) (sX12_isIn v2 0 9  (wr x 246 0 0) _ _ 0 0 (Nat.le_refl _) h))
  obtain ⟨r1, rfl, rfl, h⟩ := hr
  refine EW_if_eq (tgt := 41) (pc2 := 15) rfl dX12_change_12 (by decide) (fun q => ?_) (fun q => ?_)
  · replace h := h.1 q
    refine EW_iconst (pc2 := 42) (v := 0) rfl dX12_change_41 (by decide) ?_
    exact AW_zret rfl isB0 dX12_change_42 ⟨_, _, rfl, rfl, h⟩
  · replace h := h.2 q
    refine EW_iload_n (pc2 := 16) rfl dX12_change_15 3 rfl ?_
    refine EW_iconst (pc2 := 17) (v := 0) rfl dX12_change_16 (by decide) ?_
    refine EW_aload_n (pc2 := 18) rfl dX12_change_17 0 rfl ?_
    refine AW_geti ⟨gfRX12_395, rfl⟩ (pc2 := 21) rfl dX12_change_18 q246 ?_
    refine AW_invS (M' := MX12_isIn) [.int v3, .int 0, .int ((wr x 246 0 0).1 246 1)] (rest := []) mlRX12_307 okX12_isIn (pc2 := 24) rfl dX12_change_21 rfl rfl (Nat.le_of_ble_eq_true rfl) (Nat.le_of_ble_eq_true rfl) (d' := 0) (by omega) (EW_mono (fun _ _ hr => ?_) (sX12_isIn v3 0 ((wr x 246 0 0).1 246 1)  (wr x 246 0 0) _ _ 0 0 (Nat.le_refl _) h))
    obtain ⟨r2, rfl, rfl, h⟩ := hr
    refine EW_if_eq (tgt := 41) (pc2 := 27) rfl dX12_change_24 (by decide) (fun q => ?_) (fun q => ?_)
    · replace h := h.1 q
      refine EW_iconst (pc2 := 42) (v := 0) rfl dX12_change_41 (by decide) ?_
      exact AW_zret rfl isB0 dX12_change_42 ⟨_, _, rfl, rfl, h⟩
    · replace h := h.2 q
      refine EW_aload_n (pc2 := 28) rfl dX12_change_27 0 rfl ?_
      refine EW_iload_n (pc2 := 29) rfl dX12_change_28 1 rfl ?_
      refine EW_iload_n (pc2 := 30) rfl dX12_change_29 2 rfl ?_
      refine EW_iload_n (pc2 := 31) rfl dX12_change_30 3 rfl ?_
      refine AW_invV (M' := MX12_tell) [.int v1, .int v2, .int v3] (rest := []) mlRX12_599 okX12_tell (pc2 := 34) rfl dX12_change_31 rfl rfl (Nat.le_of_ble_eq_true rfl) (Nat.le_of_ble_eq_true rfl) (d' := 1) (by omega) q246 ⟨by decide, rfl⟩ (EW_mono (fun _ _ hr => ?_) (sX12_tell v1 v2 v3  (wr x 246 0 0) _ _ 0 0 (Nat.le_refl _) h))
      obtain ⟨r3, x4, rfl, rfl, h⟩ := hr
      refine EW_if_eq (tgt := 41) (pc2 := 37) rfl dX12_change_34 (by decide) (fun q => ?_) (fun q => ?_)
      · replace h := h.1 q
        refine EW_iconst (pc2 := 42) (v := 0) rfl dX12_change_41 (by decide) ?_
        exact AW_zret rfl isB0 dX12_change_42 ⟨_, _, rfl, rfl, h⟩
      · replace h := h.2 q
        refine EW_iconst (pc2 := 38) (v := 1) rfl dX12_change_37 (by decide) ?_
        refine EW_goto (tgt := 42) dX12_change_38 (by decide) ?_
        exact AW_zret rfl isB1 dX12_change_42 ⟨_, _, rfl, rfl, h⟩
abbrev MX12_isStreet : ab_M := (yX12_isStreet, cX12_isStreet, 2, (some .boolean))
theorem dX12_isStreet_0 : decode cX12_isStreet 0 = .ok (.iload_n 1, 1) := by decide +kernel
theorem dX12_isStreet_1 : decode cX12_isStreet 1 = .ok (.ifCond .lt 15, 3) := by decide +kernel
theorem dX12_isStreet_4 : decode cX12_isStreet 4 = .ok (.iload_n 1, 1) := by decide +kernel
theorem dX12_isStreet_5 : decode cX12_isStreet 5 = .ok (.aload_n 0, 1) := by decide +kernel
theorem dX12_isStreet_6 : decode cX12_isStreet 6 = .ok (.getfield 300, 3) := by decide +kernel
theorem dX12_isStreet_9 : decode cX12_isStreet 9 = .ok (.if_icmp .ge 7, 3) := by decide +kernel
theorem dX12_isStreet_12 : decode cX12_isStreet 12 = .ok (.iconst 1, 1) := by decide +kernel
theorem dX12_isStreet_13 : decode cX12_isStreet 13 = .ok (.goto 4, 3) := by decide +kernel
theorem dX12_isStreet_16 : decode cX12_isStreet 16 = .ok (.iconst 0, 1) := by decide +kernel
theorem dX12_isStreet_17 : decode cX12_isStreet 17 = .ok (.ireturn, 1) := by decide +kernel
theorem okX12_isStreet : ab_okM MX12_isStreet 1 := ⟨by decide, ⟨by decide, by decide⟩, ab_in 2236 (by decide +kernel) (by decide +kernel), ab_in 99 (by decide +kernel) (by decide +kernel), by decide +kernel, by decide⟩
set_option maxHeartbeats 4000000 in
set_option maxRecDepth 100000 in
theorem sX12_isStreet (v1 : Int32)  (x : ab_X) (K : Int32 → Prop) (d bc bs : Nat) (hdp : 0 ≤ d) (h : wX12_isStreet v1 x K) : EW MX12_isStreet 0 [(0, .ref 246), (1, .int v1)] [] (aS x) d bc bs (liP x K) := by
  unfold wX12_isStreet at h
  refine EW_iload_n (pc2 := 1) rfl dX12_isStreet_0 1 rfl ?_
  refine EW_if_lt (tgt := 16) (pc2 := 4) rfl dX12_isStreet_1 (by decide) (fun q => ?_) (fun q => ?_)
  · replace h := h.1 q
    refine EW_iconst (pc2 := 17) (v := 0) rfl dX12_isStreet_16 (by decide) ?_
    exact AW_zret rfl isB0 dX12_isStreet_17 ⟨_, rfl, rfl, h⟩
  · replace h := h.2 q
    refine EW_iload_n (pc2 := 5) rfl dX12_isStreet_4 1 rfl ?_
    refine EW_aload_n (pc2 := 6) rfl dX12_isStreet_5 0 rfl ?_
    refine AW_geti ⟨gfRX12_300, rfl⟩ (pc2 := 9) rfl dX12_isStreet_6 q246 ?_
    refine EW_icmp_ge (tgt := 16) (pc2 := 12) rfl dX12_isStreet_9 (by decide) (fun q => ?_) (fun q => ?_)
    · replace h := h.1 q
      refine EW_iconst (pc2 := 17) (v := 0) rfl dX12_isStreet_16 (by decide) ?_
      exact AW_zret rfl isB0 dX12_isStreet_17 ⟨_, rfl, rfl, h⟩
    · replace h := h.2 q
      refine EW_iconst (pc2 := 13) (v := 1) rfl dX12_isStreet_12 (by decide) ?_
      refine EW_goto (tgt := 17) dX12_isStreet_13 (by decide) ?_
      exact AW_zret rfl isB1 dX12_isStreet_17 ⟨_, rfl, rfl, h⟩
theorem mlRX12_317 : Cond.methodLink RX12 317 yX12_isStreet ∈ ab_G ∧ Cond.instanceMethod yX12_isStreet ∈ ab_G ∧ Cond.selects RX12 yX12_isStreet yX12_isStreet ∈ ab_G := ⟨ab_in 2233 (by decide +kernel) (by decide +kernel), ab_in 2235 (by decide +kernel) (by decide +kernel), ab_in 14 (by decide +kernel) (by decide +kernel)⟩
abbrev MX12_closed : ab_M := (yX12_closed, cX12_closed, 3, (some .boolean))
theorem dX12_closed_0 : decode cX12_closed 0 = .ok (.aload_n 0, 1) := by decide +kernel
theorem dX12_closed_1 : decode cX12_closed 1 = .ok (.iconst 0, 1) := by decide +kernel
theorem dX12_closed_2 : decode cX12_closed 2 = .ok (.putfield 297, 3) := by decide +kernel
theorem dX12_closed_5 : decode cX12_closed 5 = .ok (.aload_n 0, 1) := by decide +kernel
theorem dX12_closed_6 : decode cX12_closed 6 = .ok (.iload_n 1, 1) := by decide +kernel
theorem dX12_closed_7 : decode cX12_closed 7 = .ok (.invokevirtual 317, 3) := by decide +kernel
theorem dX12_closed_10 : decode cX12_closed 10 = .ok (.ifCond .eq 13, 3) := by decide +kernel
theorem dX12_closed_13 : decode cX12_closed 13 = .ok (.aload_n 0, 1) := by decide +kernel
theorem dX12_closed_14 : decode cX12_closed 14 = .ok (.getfield 25, 3) := by decide +kernel
theorem dX12_closed_17 : decode cX12_closed 17 = .ok (.iload_n 1, 1) := by decide +kernel
theorem dX12_closed_18 : decode cX12_closed 18 = .ok (.baload, 1) := by decide +kernel
theorem dX12_closed_19 : decode cX12_closed 19 = .ok (.iload_n 2, 1) := by decide +kernel
theorem dX12_closed_20 : decode cX12_closed 20 = .ok (.if_icmp .ne 5, 3) := by decide +kernel
theorem dX12_closed_23 : decode cX12_closed 23 = .ok (.iconst 0, 1) := by decide +kernel
theorem dX12_closed_24 : decode cX12_closed 24 = .ok (.ireturn, 1) := by decide +kernel
theorem dX12_closed_25 : decode cX12_closed 25 = .ok (.aload_n 0, 1) := by decide +kernel
theorem dX12_closed_26 : decode cX12_closed 26 = .ok (.getfield 25, 3) := by decide +kernel
theorem dX12_closed_29 : decode cX12_closed 29 = .ok (.iload_n 1, 1) := by decide +kernel
theorem dX12_closed_30 : decode cX12_closed 30 = .ok (.iload_n 2, 1) := by decide +kernel
theorem dX12_closed_31 : decode cX12_closed 31 = .ok (.bastore, 1) := by decide +kernel
theorem dX12_closed_32 : decode cX12_closed 32 = .ok (.iconst 1, 1) := by decide +kernel
theorem dX12_closed_33 : decode cX12_closed 33 = .ok (.ireturn, 1) := by decide +kernel
theorem okX12_closed : ab_okM MX12_closed 2 := ⟨by decide, ⟨by decide, by decide⟩, ab_in 2240 (by decide +kernel) (by decide +kernel), ab_in 99 (by decide +kernel) (by decide +kernel), by decide +kernel, by decide⟩
set_option maxHeartbeats 4000000 in
set_option maxRecDepth 100000 in
theorem sX12_closed (v1 : Int32) (v2 : Int32)  (x : ab_X) (K : Int32 → ab_X → Prop) (d bc bs : Nat) (hdp : 1 ≤ d) (h : wX12_closed v1 v2 x K) : EW MX12_closed 0 [(0, .ref 246), (1, .int v1), (2, .int v2)] [] (aS x) d bc bs (liI K) := by
  unfold wX12_closed at h
  refine EW_aload_n (pc2 := 1) rfl dX12_closed_0 0 rfl ?_
  refine EW_iconst (pc2 := 2) (v := 0) rfl dX12_closed_1 (by decide) ?_
  refine AW_puti ⟨gfRX12_297, rfl, rfl⟩ (pc2 := 5) rfl dX12_closed_2 q246 ?_
  refine EW_aload_n (pc2 := 6) rfl dX12_closed_5 0 rfl ?_
  refine EW_iload_n (pc2 := 7) rfl dX12_closed_6 1 rfl ?_
  refine AW_invV (M' := MX12_isStreet) [.int v1] (rest := []) mlRX12_317 okX12_isStreet (pc2 := 10) rfl dX12_closed_7 rfl rfl (Nat.le_of_ble_eq_true rfl) (Nat.le_of_ble_eq_true rfl) (d' := 0) (by omega) q246 ⟨by decide, rfl⟩ (EW_mono (fun _ _ hr => ?_) (sX12_isStreet v1  (wr x 246 0 0) _ _ 0 0 (Nat.le_refl _) h))
  obtain ⟨r1, rfl, rfl, h⟩ := hr
  refine EW_if_eq (tgt := 23) (pc2 := 13) rfl dX12_closed_10 (by decide) (fun q => ?_) (fun q => ?_)
  · replace h := h.1 q
    refine EW_iconst (pc2 := 24) (v := 0) rfl dX12_closed_23 (by decide) ?_
    exact AW_zret rfl isB0 dX12_closed_24 ⟨_, _, rfl, rfl, h⟩
  · replace h := h.2 q
    refine EW_aload_n (pc2 := 14) rfl dX12_closed_13 0 rfl ?_
    refine AW_getr (r := 252) ⟨gfRX12_25, rfl⟩ (pc2 := 17) rfl dX12_closed_14 q246 rfl ?_
    refine EW_iload_n (pc2 := 18) rfl dX12_closed_17 1 rfl ?_
    obtain ⟨b2, h⟩ := h
    refine AW_zald (pc2 := 19) rfl dX12_closed_18 q252 b2 ?_
    refine EW_iload_n (pc2 := 20) rfl dX12_closed_19 2 rfl ?_
    refine EW_icmp_ne (tgt := 25) (pc2 := 23) rfl dX12_closed_20 (by decide) (fun q => ?_) (fun q => ?_)
    · replace h := h.1 q
      refine EW_aload_n (pc2 := 26) rfl dX12_closed_25 0 rfl ?_
      refine AW_getr (r := 252) ⟨gfRX12_25, rfl⟩ (pc2 := 29) rfl dX12_closed_26 q246 rfl ?_
      refine EW_iload_n (pc2 := 30) rfl dX12_closed_29 1 rfl ?_
      refine EW_iload_n (pc2 := 31) rfl dX12_closed_30 2 rfl ?_
      obtain ⟨b3, h⟩ := h
      obtain ⟨z4, h⟩ := h
      refine AW_zast (pc2 := 32) rfl dX12_closed_31 q252 b3 z4 ?_
      refine EW_iconst (pc2 := 33) (v := 1) rfl dX12_closed_32 (by decide) ?_
      exact AW_zret rfl isB1 dX12_closed_33 ⟨_, _, rfl, rfl, h⟩
    · replace h := h.2 q
      refine EW_iconst (pc2 := 24) (v := 0) rfl dX12_closed_23 (by decide) ?_
      exact AW_zret rfl isB0 dX12_closed_24 ⟨_, _, rfl, rfl, h⟩
abbrev MX12_daysFrom : ab_M := (yX12_daysFrom, cX12_daysFrom, 5, (some .int))
theorem dX12_daysFrom_0 : decode cX12_daysFrom 0 = .ok (.iconst (-1), 1) := by decide +kernel
theorem dX12_daysFrom_1 : decode cX12_daysFrom 1 = .ok (.istore_n 3, 1) := by decide +kernel
theorem dX12_daysFrom_2 : decode cX12_daysFrom 2 = .ok (.iconst 0, 1) := by decide +kernel
theorem dX12_daysFrom_3 : decode cX12_daysFrom 3 = .ok (.istore 4, 2) := by decide +kernel
theorem dX12_daysFrom_5 : decode cX12_daysFrom 5 = .ok (.iload 4, 2) := by decide +kernel
theorem dX12_daysFrom_7 : decode cX12_daysFrom 7 = .ok (.aload_n 0, 1) := by decide +kernel
theorem dX12_daysFrom_8 : decode cX12_daysFrom 8 = .ok (.getfield 596, 3) := by decide +kernel
theorem dX12_daysFrom_11 : decode cX12_daysFrom 11 = .ok (.if_icmp .ge 50, 3) := by decide +kernel
theorem dX12_daysFrom_14 : decode cX12_daysFrom 14 = .ok (.aload_n 0, 1) := by decide +kernel
theorem dX12_daysFrom_15 : decode cX12_daysFrom 15 = .ok (.getfield 244, 3) := by decide +kernel
theorem dX12_daysFrom_18 : decode cX12_daysFrom 18 = .ok (.iload 4, 2) := by decide +kernel
theorem dX12_daysFrom_20 : decode cX12_daysFrom 20 = .ok (.iaload, 1) := by decide +kernel
theorem dX12_daysFrom_21 : decode cX12_daysFrom 21 = .ok (.iload_n 1, 1) := by decide +kernel
theorem dX12_daysFrom_22 : decode cX12_daysFrom 22 = .ok (.if_icmp .ne 33, 3) := by decide +kernel
theorem dX12_daysFrom_25 : decode cX12_daysFrom 25 = .ok (.aload_n 0, 1) := by decide +kernel
theorem dX12_daysFrom_26 : decode cX12_daysFrom 26 = .ok (.getfield 247, 3) := by decide +kernel
theorem dX12_daysFrom_29 : decode cX12_daysFrom 29 = .ok (.iload 4, 2) := by decide +kernel
theorem dX12_daysFrom_31 : decode cX12_daysFrom 31 = .ok (.iaload, 1) := by decide +kernel
theorem dX12_daysFrom_32 : decode cX12_daysFrom 32 = .ok (.iconst (-1), 1) := by decide +kernel
theorem dX12_daysFrom_33 : decode cX12_daysFrom 33 = .ok (.if_icmp .ne 22, 3) := by decide +kernel
theorem dX12_daysFrom_36 : decode cX12_daysFrom 36 = .ok (.aload_n 0, 1) := by decide +kernel
theorem dX12_daysFrom_37 : decode cX12_daysFrom 37 = .ok (.getfield 253, 3) := by decide +kernel
theorem dX12_daysFrom_40 : decode cX12_daysFrom 40 = .ok (.iload 4, 2) := by decide +kernel
theorem dX12_daysFrom_42 : decode cX12_daysFrom 42 = .ok (.iaload, 1) := by decide +kernel
theorem dX12_daysFrom_43 : decode cX12_daysFrom 43 = .ok (.iload_n 2, 1) := by decide +kernel
theorem dX12_daysFrom_44 : decode cX12_daysFrom 44 = .ok (.if_icmp .gt 11, 3) := by decide +kernel
theorem dX12_daysFrom_47 : decode cX12_daysFrom 47 = .ok (.aload_n 0, 1) := by decide +kernel
theorem dX12_daysFrom_48 : decode cX12_daysFrom 48 = .ok (.getfield 253, 3) := by decide +kernel
theorem dX12_daysFrom_51 : decode cX12_daysFrom 51 = .ok (.iload 4, 2) := by decide +kernel
theorem dX12_daysFrom_53 : decode cX12_daysFrom 53 = .ok (.iaload, 1) := by decide +kernel
theorem dX12_daysFrom_54 : decode cX12_daysFrom 54 = .ok (.istore_n 3, 1) := by decide +kernel
theorem dX12_daysFrom_55 : decode cX12_daysFrom 55 = .ok (.iinc 4 1, 3) := by decide +kernel
theorem dX12_daysFrom_58 : decode cX12_daysFrom 58 = .ok (.goto (-53), 3) := by decide +kernel
theorem dX12_daysFrom_61 : decode cX12_daysFrom 61 = .ok (.iload_n 3, 1) := by decide +kernel
theorem dX12_daysFrom_62 : decode cX12_daysFrom 62 = .ok (.iconst (-1), 1) := by decide +kernel
theorem dX12_daysFrom_63 : decode cX12_daysFrom 63 = .ok (.if_icmp .ne 9, 3) := by decide +kernel
theorem dX12_daysFrom_66 : decode cX12_daysFrom 66 = .ok (.sipush 999, 3) := by decide +kernel
theorem dX12_daysFrom_69 : decode cX12_daysFrom 69 = .ok (.goto 10, 3) := by decide +kernel
theorem dX12_daysFrom_72 : decode cX12_daysFrom 72 = .ok (.iload_n 2, 1) := by decide +kernel
theorem dX12_daysFrom_73 : decode cX12_daysFrom 73 = .ok (.iload_n 3, 1) := by decide +kernel
theorem dX12_daysFrom_74 : decode cX12_daysFrom 74 = .ok (.isub, 1) := by decide +kernel
theorem dX12_daysFrom_75 : decode cX12_daysFrom 75 = .ok (.sipush 1440, 3) := by decide +kernel
theorem dX12_daysFrom_78 : decode cX12_daysFrom 78 = .ok (.idiv, 1) := by decide +kernel
theorem dX12_daysFrom_79 : decode cX12_daysFrom 79 = .ok (.ireturn, 1) := by decide +kernel
theorem okX12_daysFrom : ab_okM MX12_daysFrom 2 := ⟨by decide, ⟨by decide, by decide⟩, ab_in 2650 (by decide +kernel) (by decide +kernel), ab_in 99 (by decide +kernel) (by decide +kernel), by decide +kernel, by decide⟩
set_option maxHeartbeats 4000000 in
set_option maxRecDepth 100000 in
theorem sX12_daysFrom_5 (v1 : Int32) (v2 : Int32) (v3 : Int32) (v4 : Int32)  (x : ab_X) (K : Int32 → Prop)  (d bc bs : Nat) (hdp : 0 ≤ d)  (h : Lp2 (lX12_daysFrom_5 v1 v2 x K ) v3 v4) : EW MX12_daysFrom 5 [(0, .ref 246), (1, .int v1), (2, .int v2), (3, .int v3), (4, .int v4)] [] (aS x) d bc bs (liP x K) := by
  refine Lp2.use (P := fun v3 v4 => EW MX12_daysFrom 5 [(0, .ref 246), (1, .int v1), (2, .int v2), (3, .int v3), (4, .int v4)] [] (aS x) d bc bs (liP x K)) (fun L5 v3 v4 hL5 h => ?_) v3 v4 h
  unfold lX12_daysFrom_5 at h
  refine EW_iload (pc2 := 7) rfl dX12_daysFrom_5 4 rfl ?_
  refine EW_aload_n (pc2 := 8) rfl dX12_daysFrom_7 0 rfl ?_
  refine AW_geti ⟨gfRX12_596, rfl⟩ (pc2 := 11) rfl dX12_daysFrom_8 q246 ?_
  refine EW_icmp_ge (tgt := 61) (pc2 := 14) rfl dX12_daysFrom_11 (by decide) (fun q => ?_) (fun q => ?_)
  · replace h := h.1 q
    refine EW_iload_n (pc2 := 62) rfl dX12_daysFrom_61 3 rfl ?_
    refine EW_iconst (pc2 := 63) (v := (-1)) rfl dX12_daysFrom_62 (by decide) ?_
    refine EW_icmp_ne (tgt := 72) (pc2 := 66) rfl dX12_daysFrom_63 (by decide) (fun q => ?_) (fun q => ?_)
    · replace h := h.1 q
      refine EW_iload_n (pc2 := 73) rfl dX12_daysFrom_72 2 rfl ?_
      refine EW_iload_n (pc2 := 74) rfl dX12_daysFrom_73 3 rfl ?_
      refine EW_isub (pc2 := 75) rfl dX12_daysFrom_74 ?_
      refine EW_sipush (pc2 := 78) (v := 1440) rfl dX12_daysFrom_75 (by decide) ?_
      refine EW_idiv (pc2 := 79) rfl dX12_daysFrom_78 (by decide) ?_
      exact AW_iret rfl dX12_daysFrom_79 ⟨_, rfl, rfl, h⟩
    · replace h := h.2 q
      refine EW_sipush (pc2 := 69) (v := 999) rfl dX12_daysFrom_66 (by decide) ?_
      refine EW_goto (tgt := 79) dX12_daysFrom_69 (by decide) ?_
      exact AW_iret rfl dX12_daysFrom_79 ⟨_, rfl, rfl, h⟩
  · replace h := h.2 q
    refine EW_aload_n (pc2 := 15) rfl dX12_daysFrom_14 0 rfl ?_
    refine AW_getr (r := 320) ⟨gfRX12_244, rfl⟩ (pc2 := 18) rfl dX12_daysFrom_15 q246 rfl ?_
    refine EW_iload (pc2 := 20) rfl dX12_daysFrom_18 4 rfl ?_
    obtain ⟨b1, h⟩ := h
    refine AW_iald (pc2 := 21) rfl dX12_daysFrom_20 q320 b1 ?_
    refine EW_iload_n (pc2 := 22) rfl dX12_daysFrom_21 1 rfl ?_
    refine EW_icmp_ne (tgt := 55) (pc2 := 25) rfl dX12_daysFrom_22 (by decide) (fun q => ?_) (fun q => ?_)
    · replace h := h.1 q
      refine EW_iinc (v4 + 1) (pc2 := 58) rfl dX12_daysFrom_55 4 rfl rfl (by decide) [1, 2, 3, 4, 0] [(0, .ref 246), (1, .int v1), (2, .int v2), (3, .int v3), (4, .int (v4 + 1))] rfl ?_
      refine EW_goto (tgt := 5) dX12_daysFrom_58 (by decide) ?_
      exact hL5 v3 (v4 + 1) h
    · replace h := h.2 q
      refine EW_aload_n (pc2 := 26) rfl dX12_daysFrom_25 0 rfl ?_
      refine AW_getr (r := 321) ⟨gfRX12_247, rfl⟩ (pc2 := 29) rfl dX12_daysFrom_26 q246 rfl ?_
      refine EW_iload (pc2 := 31) rfl dX12_daysFrom_29 4 rfl ?_
      obtain ⟨b2, h⟩ := h
      refine AW_iald (pc2 := 32) rfl dX12_daysFrom_31 q321 b2 ?_
      refine EW_iconst (pc2 := 33) (v := (-1)) rfl dX12_daysFrom_32 (by decide) ?_
      refine EW_icmp_ne (tgt := 55) (pc2 := 36) rfl dX12_daysFrom_33 (by decide) (fun q => ?_) (fun q => ?_)
      · replace h := h.1 q
        refine EW_iinc (v4 + 1) (pc2 := 58) rfl dX12_daysFrom_55 4 rfl rfl (by decide) [1, 2, 3, 4, 0] [(0, .ref 246), (1, .int v1), (2, .int v2), (3, .int v3), (4, .int (v4 + 1))] rfl ?_
        refine EW_goto (tgt := 5) dX12_daysFrom_58 (by decide) ?_
        exact hL5 v3 (v4 + 1) h
      · replace h := h.2 q
        refine EW_aload_n (pc2 := 37) rfl dX12_daysFrom_36 0 rfl ?_
        refine AW_getr (r := 323) ⟨gfRX12_253, rfl⟩ (pc2 := 40) rfl dX12_daysFrom_37 q246 rfl ?_
        refine EW_iload (pc2 := 42) rfl dX12_daysFrom_40 4 rfl ?_
        obtain ⟨b3, h⟩ := h
        refine AW_iald (pc2 := 43) rfl dX12_daysFrom_42 q323 b3 ?_
        refine EW_iload_n (pc2 := 44) rfl dX12_daysFrom_43 2 rfl ?_
        refine EW_icmp_gt (tgt := 55) (pc2 := 47) rfl dX12_daysFrom_44 (by decide) (fun q => ?_) (fun q => ?_)
        · replace h := h.1 q
          refine EW_iinc (v4 + 1) (pc2 := 58) rfl dX12_daysFrom_55 4 rfl rfl (by decide) [1, 2, 3, 4, 0] [(0, .ref 246), (1, .int v1), (2, .int v2), (3, .int v3), (4, .int (v4 + 1))] rfl ?_
          refine EW_goto (tgt := 5) dX12_daysFrom_58 (by decide) ?_
          exact hL5 v3 (v4 + 1) h
        · replace h := h.2 q
          refine EW_aload_n (pc2 := 48) rfl dX12_daysFrom_47 0 rfl ?_
          refine AW_getr (r := 323) ⟨gfRX12_253, rfl⟩ (pc2 := 51) rfl dX12_daysFrom_48 q246 rfl ?_
          refine EW_iload (pc2 := 53) rfl dX12_daysFrom_51 4 rfl ?_
          obtain ⟨b4, h⟩ := h
          refine AW_iald (pc2 := 54) rfl dX12_daysFrom_53 q323 b4 ?_
          refine EW_istore_n (pc2 := 55) rfl dX12_daysFrom_54 (by decide) [1, 2, 3, 0, 4] [(0, .ref 246), (1, .int v1), (2, .int v2), (3, .int (x.1 323 (Int32.toNatClampNeg v4))), (4, .int v4)] rfl ?_
          refine EW_iinc (v4 + 1) (pc2 := 58) rfl dX12_daysFrom_55 4 rfl rfl (by decide) [1, 2, 3, 4, 0] [(0, .ref 246), (1, .int v1), (2, .int v2), (3, .int (x.1 323 (Int32.toNatClampNeg v4))), (4, .int (v4 + 1))] rfl ?_
          refine EW_goto (tgt := 5) dX12_daysFrom_58 (by decide) ?_
          exact hL5 (x.1 323 (Int32.toNatClampNeg v4)) (v4 + 1) h
set_option maxHeartbeats 4000000 in
set_option maxRecDepth 100000 in
theorem sX12_daysFrom (v1 : Int32) (v2 : Int32)  (x : ab_X) (K : Int32 → Prop) (d bc bs : Nat) (hdp : 0 ≤ d) (h : wX12_daysFrom v1 v2 x K) : EW MX12_daysFrom 0 [(0, .ref 246), (1, .int v1), (2, .int v2)] [] (aS x) d bc bs (liP x K) := by
  unfold wX12_daysFrom at h
  refine EW_iconst (pc2 := 1) (v := (-1)) rfl dX12_daysFrom_0 (by decide) ?_
  refine EW_istore_n (pc2 := 2) rfl dX12_daysFrom_1 (by decide) [1, 2, 3, 0] [(0, .ref 246), (1, .int v1), (2, .int v2), (3, .int (-1))] rfl ?_
  refine EW_iconst (pc2 := 3) (v := 0) rfl dX12_daysFrom_2 (by decide) ?_
  refine EW_istore (pc2 := 5) rfl dX12_daysFrom_3 (by decide) [1, 2, 3, 4, 0] [(0, .ref 246), (1, .int v1), (2, .int v2), (3, .int (-1)), (4, .int 0)] rfl ?_
  exact sX12_daysFrom_5 v1 v2 (-1) 0 x K d bc bs hdp h
theorem gfRX12_53 : ab_L RX12 53 12 17 := ⟨by decide, by decide, ab_in 1866 (by decide +kernel) (by decide +kernel)⟩
abbrev MX12_useOf : ab_M := (yX12_useOf, cX12_useOf, 5, (some .int))
theorem dX12_useOf_0 : decode cX12_useOf 0 = .ok (.iconst (-1), 1) := by decide +kernel
theorem dX12_useOf_1 : decode cX12_useOf 1 = .ok (.istore_n 3, 1) := by decide +kernel
theorem dX12_useOf_2 : decode cX12_useOf 2 = .ok (.iconst 0, 1) := by decide +kernel
theorem dX12_useOf_3 : decode cX12_useOf 3 = .ok (.istore 4, 2) := by decide +kernel
theorem dX12_useOf_5 : decode cX12_useOf 5 = .ok (.iload 4, 2) := by decide +kernel
theorem dX12_useOf_7 : decode cX12_useOf 7 = .ok (.aload_n 0, 1) := by decide +kernel
theorem dX12_useOf_8 : decode cX12_useOf 8 = .ok (.getfield 596, 3) := by decide +kernel
theorem dX12_useOf_11 : decode cX12_useOf 11 = .ok (.if_icmp .ge 77, 3) := by decide +kernel
theorem dX12_useOf_14 : decode cX12_useOf 14 = .ok (.aload_n 0, 1) := by decide +kernel
theorem dX12_useOf_15 : decode cX12_useOf 15 = .ok (.getfield 244, 3) := by decide +kernel
theorem dX12_useOf_18 : decode cX12_useOf 18 = .ok (.iload 4, 2) := by decide +kernel
theorem dX12_useOf_20 : decode cX12_useOf 20 = .ok (.iaload, 1) := by decide +kernel
theorem dX12_useOf_21 : decode cX12_useOf 21 = .ok (.iload_n 1, 1) := by decide +kernel
theorem dX12_useOf_22 : decode cX12_useOf 22 = .ok (.if_icmp .ne 60, 3) := by decide +kernel
theorem dX12_useOf_25 : decode cX12_useOf 25 = .ok (.aload_n 0, 1) := by decide +kernel
theorem dX12_useOf_26 : decode cX12_useOf 26 = .ok (.getfield 247, 3) := by decide +kernel
theorem dX12_useOf_29 : decode cX12_useOf 29 = .ok (.iload 4, 2) := by decide +kernel
theorem dX12_useOf_31 : decode cX12_useOf 31 = .ok (.iaload, 1) := by decide +kernel
theorem dX12_useOf_32 : decode cX12_useOf 32 = .ok (.iconst (-1), 1) := by decide +kernel
theorem dX12_useOf_33 : decode cX12_useOf 33 = .ok (.if_icmp .eq 49, 3) := by decide +kernel
theorem dX12_useOf_36 : decode cX12_useOf 36 = .ok (.aload_n 0, 1) := by decide +kernel
theorem dX12_useOf_37 : decode cX12_useOf 37 = .ok (.getfield 253, 3) := by decide +kernel
theorem dX12_useOf_40 : decode cX12_useOf 40 = .ok (.iload 4, 2) := by decide +kernel
theorem dX12_useOf_42 : decode cX12_useOf 42 = .ok (.iaload, 1) := by decide +kernel
theorem dX12_useOf_43 : decode cX12_useOf 43 = .ok (.iload_n 2, 1) := by decide +kernel
theorem dX12_useOf_44 : decode cX12_useOf 44 = .ok (.if_icmp .gt 38, 3) := by decide +kernel
theorem dX12_useOf_47 : decode cX12_useOf 47 = .ok (.aload_n 0, 1) := by decide +kernel
theorem dX12_useOf_48 : decode cX12_useOf 48 = .ok (.getfield 250, 3) := by decide +kernel
theorem dX12_useOf_51 : decode cX12_useOf 51 = .ok (.iload 4, 2) := by decide +kernel
theorem dX12_useOf_53 : decode cX12_useOf 53 = .ok (.iaload, 1) := by decide +kernel
theorem dX12_useOf_54 : decode cX12_useOf 54 = .ok (.iload_n 2, 1) := by decide +kernel
theorem dX12_useOf_55 : decode cX12_useOf 55 = .ok (.if_icmp .gt 27, 3) := by decide +kernel
theorem dX12_useOf_58 : decode cX12_useOf 58 = .ok (.iload_n 3, 1) := by decide +kernel
theorem dX12_useOf_59 : decode cX12_useOf 59 = .ok (.iconst (-1), 1) := by decide +kernel
theorem dX12_useOf_60 : decode cX12_useOf 60 = .ok (.if_icmp .eq 19, 3) := by decide +kernel
theorem dX12_useOf_63 : decode cX12_useOf 63 = .ok (.aload_n 0, 1) := by decide +kernel
theorem dX12_useOf_64 : decode cX12_useOf 64 = .ok (.getfield 250, 3) := by decide +kernel
theorem dX12_useOf_67 : decode cX12_useOf 67 = .ok (.iload 4, 2) := by decide +kernel
theorem dX12_useOf_69 : decode cX12_useOf 69 = .ok (.iaload, 1) := by decide +kernel
theorem dX12_useOf_70 : decode cX12_useOf 70 = .ok (.aload_n 0, 1) := by decide +kernel
theorem dX12_useOf_71 : decode cX12_useOf 71 = .ok (.getfield 250, 3) := by decide +kernel
theorem dX12_useOf_74 : decode cX12_useOf 74 = .ok (.iload_n 3, 1) := by decide +kernel
theorem dX12_useOf_75 : decode cX12_useOf 75 = .ok (.iaload, 1) := by decide +kernel
theorem dX12_useOf_76 : decode cX12_useOf 76 = .ok (.if_icmp .lt 6, 3) := by decide +kernel
theorem dX12_useOf_79 : decode cX12_useOf 79 = .ok (.iload 4, 2) := by decide +kernel
theorem dX12_useOf_81 : decode cX12_useOf 81 = .ok (.istore_n 3, 1) := by decide +kernel
theorem dX12_useOf_82 : decode cX12_useOf 82 = .ok (.iinc 4 1, 3) := by decide +kernel
theorem dX12_useOf_85 : decode cX12_useOf 85 = .ok (.goto (-80), 3) := by decide +kernel
theorem dX12_useOf_88 : decode cX12_useOf 88 = .ok (.iload_n 3, 1) := by decide +kernel
theorem dX12_useOf_89 : decode cX12_useOf 89 = .ok (.iconst (-1), 1) := by decide +kernel
theorem dX12_useOf_90 : decode cX12_useOf 90 = .ok (.if_icmp .ne 12, 3) := by decide +kernel
theorem dX12_useOf_93 : decode cX12_useOf 93 = .ok (.aload_n 0, 1) := by decide +kernel
theorem dX12_useOf_94 : decode cX12_useOf 94 = .ok (.getfield 53, 3) := by decide +kernel
theorem dX12_useOf_97 : decode cX12_useOf 97 = .ok (.iload_n 1, 1) := by decide +kernel
theorem dX12_useOf_98 : decode cX12_useOf 98 = .ok (.iaload, 1) := by decide +kernel
theorem dX12_useOf_99 : decode cX12_useOf 99 = .ok (.goto 9, 3) := by decide +kernel
theorem dX12_useOf_102 : decode cX12_useOf 102 = .ok (.aload_n 0, 1) := by decide +kernel
theorem dX12_useOf_103 : decode cX12_useOf 103 = .ok (.getfield 247, 3) := by decide +kernel
theorem dX12_useOf_106 : decode cX12_useOf 106 = .ok (.iload_n 3, 1) := by decide +kernel
theorem dX12_useOf_107 : decode cX12_useOf 107 = .ok (.iaload, 1) := by decide +kernel
theorem dX12_useOf_108 : decode cX12_useOf 108 = .ok (.ireturn, 1) := by decide +kernel
theorem okX12_useOf : ab_okM MX12_useOf 2 := ⟨by decide, ⟨by decide, by decide⟩, ab_in 2638 (by decide +kernel) (by decide +kernel), ab_in 99 (by decide +kernel) (by decide +kernel), by decide +kernel, by decide⟩
set_option maxHeartbeats 4000000 in
set_option maxRecDepth 100000 in
theorem sX12_useOf_79 (v1 : Int32) (v2 : Int32) (v4 : Int32)  (x : ab_X) (K : Int32 → Prop) (L5 : Int32 → Int32 → Prop) (d bc bs : Nat) (hdp : 0 ≤ d) (hL5 : ∀ (v3 : Int32) (v4 : Int32), L5 v3 v4 → EW MX12_useOf 5 [(0, .ref 246), (1, .int v1), (2, .int v2), (3, .int v3), (4, .int v4)] [] (aS x) d bc bs (liP x K)) (h : wX12_useOf_79 v1 v2 v4 x K L5) : EW MX12_useOf 79 [(0, .ref 246), (1, .int v1), (2, .int v2), (4, .int v4)] [] (aS x) d bc bs (liP x K) := by
  unfold wX12_useOf_79 at h
  refine EW_iload (pc2 := 81) rfl dX12_useOf_79 3 rfl ?_
  refine EW_istore_n (pc2 := 82) rfl dX12_useOf_81 (by decide) [1, 2, 3, 0, 4] [(0, .ref 246), (1, .int v1), (2, .int v2), (3, .int v4), (4, .int v4)] rfl ?_
  refine EW_iinc (v4 + 1) (pc2 := 85) rfl dX12_useOf_82 4 rfl rfl (by decide) [1, 2, 3, 4, 0] [(0, .ref 246), (1, .int v1), (2, .int v2), (3, .int v4), (4, .int (v4 + 1))] rfl ?_
  refine EW_goto (tgt := 5) dX12_useOf_85 (by decide) ?_
  exact hL5 v4 (v4 + 1) h
set_option maxHeartbeats 4000000 in
set_option maxRecDepth 100000 in
theorem sX12_useOf_5 (v1 : Int32) (v2 : Int32) (v3 : Int32) (v4 : Int32)  (x : ab_X) (K : Int32 → Prop)  (d bc bs : Nat) (hdp : 0 ≤ d)  (h : Lp2 (lX12_useOf_5 v1 v2 x K ) v3 v4) : EW MX12_useOf 5 [(0, .ref 246), (1, .int v1), (2, .int v2), (3, .int v3), (4, .int v4)] [] (aS x) d bc bs (liP x K) := by
  refine Lp2.use (P := fun v3 v4 => EW MX12_useOf 5 [(0, .ref 246), (1, .int v1), (2, .int v2), (3, .int v3), (4, .int v4)] [] (aS x) d bc bs (liP x K)) (fun L5 v3 v4 hL5 h => ?_) v3 v4 h
  unfold lX12_useOf_5 at h
  refine EW_iload (pc2 := 7) rfl dX12_useOf_5 4 rfl ?_
  refine EW_aload_n (pc2 := 8) rfl dX12_useOf_7 0 rfl ?_
  refine AW_geti ⟨gfRX12_596, rfl⟩ (pc2 := 11) rfl dX12_useOf_8 q246 ?_
  refine EW_icmp_ge (tgt := 88) (pc2 := 14) rfl dX12_useOf_11 (by decide) (fun q => ?_) (fun q => ?_)
  · replace h := h.1 q
    refine EW_iload_n (pc2 := 89) rfl dX12_useOf_88 3 rfl ?_
    refine EW_iconst (pc2 := 90) (v := (-1)) rfl dX12_useOf_89 (by decide) ?_
    refine EW_icmp_ne (tgt := 102) (pc2 := 93) rfl dX12_useOf_90 (by decide) (fun q => ?_) (fun q => ?_)
    · replace h := h.1 q
      refine EW_aload_n (pc2 := 103) rfl dX12_useOf_102 0 rfl ?_
      refine AW_getr (r := 321) ⟨gfRX12_247, rfl⟩ (pc2 := 106) rfl dX12_useOf_103 q246 rfl ?_
      refine EW_iload_n (pc2 := 107) rfl dX12_useOf_106 3 rfl ?_
      obtain ⟨b1, h⟩ := h
      refine AW_iald (pc2 := 108) rfl dX12_useOf_107 q321 b1 ?_
      exact AW_iret rfl dX12_useOf_108 ⟨_, rfl, rfl, h⟩
    · replace h := h.2 q
      refine EW_aload_n (pc2 := 94) rfl dX12_useOf_93 0 rfl ?_
      refine AW_getr (r := 261) ⟨gfRX12_53, rfl⟩ (pc2 := 97) rfl dX12_useOf_94 q246 rfl ?_
      refine EW_iload_n (pc2 := 98) rfl dX12_useOf_97 1 rfl ?_
      obtain ⟨b2, h⟩ := h
      refine AW_iald (pc2 := 99) rfl dX12_useOf_98 q261 b2 ?_
      refine EW_goto (tgt := 108) dX12_useOf_99 (by decide) ?_
      exact AW_iret rfl dX12_useOf_108 ⟨_, rfl, rfl, h⟩
  · replace h := h.2 q
    refine EW_aload_n (pc2 := 15) rfl dX12_useOf_14 0 rfl ?_
    refine AW_getr (r := 320) ⟨gfRX12_244, rfl⟩ (pc2 := 18) rfl dX12_useOf_15 q246 rfl ?_
    refine EW_iload (pc2 := 20) rfl dX12_useOf_18 4 rfl ?_
    obtain ⟨b3, h⟩ := h
    refine AW_iald (pc2 := 21) rfl dX12_useOf_20 q320 b3 ?_
    refine EW_iload_n (pc2 := 22) rfl dX12_useOf_21 1 rfl ?_
    refine EW_icmp_ne (tgt := 82) (pc2 := 25) rfl dX12_useOf_22 (by decide) (fun q => ?_) (fun q => ?_)
    · replace h := h.1 q
      refine EW_iinc (v4 + 1) (pc2 := 85) rfl dX12_useOf_82 4 rfl rfl (by decide) [1, 2, 3, 4, 0] [(0, .ref 246), (1, .int v1), (2, .int v2), (3, .int v3), (4, .int (v4 + 1))] rfl ?_
      refine EW_goto (tgt := 5) dX12_useOf_85 (by decide) ?_
      exact hL5 v3 (v4 + 1) h
    · replace h := h.2 q
      refine EW_aload_n (pc2 := 26) rfl dX12_useOf_25 0 rfl ?_
      refine AW_getr (r := 321) ⟨gfRX12_247, rfl⟩ (pc2 := 29) rfl dX12_useOf_26 q246 rfl ?_
      refine EW_iload (pc2 := 31) rfl dX12_useOf_29 4 rfl ?_
      obtain ⟨b4, h⟩ := h
      refine AW_iald (pc2 := 32) rfl dX12_useOf_31 q321 b4 ?_
      refine EW_iconst (pc2 := 33) (v := (-1)) rfl dX12_useOf_32 (by decide) ?_
      refine EW_icmp_eq (tgt := 82) (pc2 := 36) rfl dX12_useOf_33 (by decide) (fun q => ?_) (fun q => ?_)
      · replace h := h.1 q
        refine EW_iinc (v4 + 1) (pc2 := 85) rfl dX12_useOf_82 4 rfl rfl (by decide) [1, 2, 3, 4, 0] [(0, .ref 246), (1, .int v1), (2, .int v2), (3, .int v3), (4, .int (v4 + 1))] rfl ?_
        refine EW_goto (tgt := 5) dX12_useOf_85 (by decide) ?_
        exact hL5 v3 (v4 + 1) h
      · replace h := h.2 q
        refine EW_aload_n (pc2 := 37) rfl dX12_useOf_36 0 rfl ?_
        refine AW_getr (r := 323) ⟨gfRX12_253, rfl⟩ (pc2 := 40) rfl dX12_useOf_37 q246 rfl ?_
        refine EW_iload (pc2 := 42) rfl dX12_useOf_40 4 rfl ?_
        obtain ⟨b5, h⟩ := h
        refine AW_iald (pc2 := 43) rfl dX12_useOf_42 q323 b5 ?_
        refine EW_iload_n (pc2 := 44) rfl dX12_useOf_43 2 rfl ?_
        refine EW_icmp_gt (tgt := 82) (pc2 := 47) rfl dX12_useOf_44 (by decide) (fun q => ?_) (fun q => ?_)
        · replace h := h.1 q
          refine EW_iinc (v4 + 1) (pc2 := 85) rfl dX12_useOf_82 4 rfl rfl (by decide) [1, 2, 3, 4, 0] [(0, .ref 246), (1, .int v1), (2, .int v2), (3, .int v3), (4, .int (v4 + 1))] rfl ?_
          refine EW_goto (tgt := 5) dX12_useOf_85 (by decide) ?_
          exact hL5 v3 (v4 + 1) h
        · replace h := h.2 q
          refine EW_aload_n (pc2 := 48) rfl dX12_useOf_47 0 rfl ?_
          refine AW_getr (r := 322) ⟨gfRX12_250, rfl⟩ (pc2 := 51) rfl dX12_useOf_48 q246 rfl ?_
          refine EW_iload (pc2 := 53) rfl dX12_useOf_51 4 rfl ?_
          obtain ⟨b6, h⟩ := h
          refine AW_iald (pc2 := 54) rfl dX12_useOf_53 q322 b6 ?_
          refine EW_iload_n (pc2 := 55) rfl dX12_useOf_54 2 rfl ?_
          refine EW_icmp_gt (tgt := 82) (pc2 := 58) rfl dX12_useOf_55 (by decide) (fun q => ?_) (fun q => ?_)
          · replace h := h.1 q
            refine EW_iinc (v4 + 1) (pc2 := 85) rfl dX12_useOf_82 4 rfl rfl (by decide) [1, 2, 3, 4, 0] [(0, .ref 246), (1, .int v1), (2, .int v2), (3, .int v3), (4, .int (v4 + 1))] rfl ?_
            refine EW_goto (tgt := 5) dX12_useOf_85 (by decide) ?_
            exact hL5 v3 (v4 + 1) h
          · replace h := h.2 q
            refine EW_iload_n (pc2 := 59) rfl dX12_useOf_58 3 rfl ?_
            refine EW_iconst (pc2 := 60) (v := (-1)) rfl dX12_useOf_59 (by decide) ?_
            refine EW_icmp_eq (tgt := 79) (pc2 := 63) rfl dX12_useOf_60 (by decide) (fun q => ?_) (fun q => ?_)
            · replace h := h.1 q
              refine EW_ls [0, 1, 2, 4] rfl ?_
              exact sX12_useOf_79 v1 v2 v4 x K L5 d bc bs hdp hL5 h
            · replace h := h.2 q
              refine EW_aload_n (pc2 := 64) rfl dX12_useOf_63 0 rfl ?_
              refine AW_getr (r := 322) ⟨gfRX12_250, rfl⟩ (pc2 := 67) rfl dX12_useOf_64 q246 rfl ?_
              refine EW_iload (pc2 := 69) rfl dX12_useOf_67 4 rfl ?_
              obtain ⟨b7, h⟩ := h
              refine AW_iald (pc2 := 70) rfl dX12_useOf_69 q322 b7 ?_
              refine EW_aload_n (pc2 := 71) rfl dX12_useOf_70 0 rfl ?_
              refine AW_getr (r := 322) ⟨gfRX12_250, rfl⟩ (pc2 := 74) rfl dX12_useOf_71 q246 rfl ?_
              refine EW_iload_n (pc2 := 75) rfl dX12_useOf_74 3 rfl ?_
              obtain ⟨b8, h⟩ := h
              refine AW_iald (pc2 := 76) rfl dX12_useOf_75 q322 b8 ?_
              refine EW_icmp_lt (tgt := 82) (pc2 := 79) rfl dX12_useOf_76 (by decide) (fun q => ?_) (fun q => ?_)
              · replace h := h.1 q
                refine EW_iinc (v4 + 1) (pc2 := 85) rfl dX12_useOf_82 4 rfl rfl (by decide) [1, 2, 3, 4, 0] [(0, .ref 246), (1, .int v1), (2, .int v2), (3, .int v3), (4, .int (v4 + 1))] rfl ?_
                refine EW_goto (tgt := 5) dX12_useOf_85 (by decide) ?_
                exact hL5 v3 (v4 + 1) h
              · replace h := h.2 q
                refine EW_ls [0, 1, 2, 4] rfl ?_
                exact sX12_useOf_79 v1 v2 v4 x K L5 d bc bs hdp hL5 h
set_option maxHeartbeats 4000000 in
set_option maxRecDepth 100000 in
theorem sX12_useOf (v1 : Int32) (v2 : Int32)  (x : ab_X) (K : Int32 → Prop) (d bc bs : Nat) (hdp : 0 ≤ d) (h : wX12_useOf v1 v2 x K) : EW MX12_useOf 0 [(0, .ref 246), (1, .int v1), (2, .int v2)] [] (aS x) d bc bs (liP x K) := by
  unfold wX12_useOf at h
  refine EW_iconst (pc2 := 1) (v := (-1)) rfl dX12_useOf_0 (by decide) ?_
  refine EW_istore_n (pc2 := 2) rfl dX12_useOf_1 (by decide) [1, 2, 3, 0] [(0, .ref 246), (1, .int v1), (2, .int v2), (3, .int (-1))] rfl ?_
  refine EW_iconst (pc2 := 3) (v := 0) rfl dX12_useOf_2 (by decide) ?_
  refine EW_istore (pc2 := 5) rfl dX12_useOf_3 (by decide) [1, 2, 3, 4, 0] [(0, .ref 246), (1, .int v1), (2, .int v2), (3, .int (-1)), (4, .int 0)] rfl ?_
  exact sX12_useOf_5 v1 v2 (-1) 0 x K d bc bs hdp h
theorem mlRX12_605 : Cond.methodLink RX12 605 yX12_daysFrom ∈ ab_G ∧ Cond.instanceMethod yX12_daysFrom ∈ ab_G ∧ Cond.selects RX12 yX12_daysFrom yX12_daysFrom ∈ ab_G := ⟨ab_in 2647 (by decide +kernel) (by decide +kernel), ab_in 2649 (by decide +kernel) (by decide +kernel), ab_in 76 (by decide +kernel) (by decide +kernel)⟩
theorem mlRX12_602 : Cond.methodLink RX12 602 yX12_useOf ∈ ab_G ∧ Cond.instanceMethod yX12_useOf ∈ ab_G ∧ Cond.selects RX12 yX12_useOf yX12_useOf ∈ ab_G := ⟨ab_in 2635 (by decide +kernel) (by decide +kernel), ab_in 2637 (by decide +kernel) (by decide +kernel), ab_in 74 (by decide +kernel) (by decide +kernel)⟩
theorem gfRX12_89 : ab_L RX12 89 12 29 := ⟨by decide, by decide, ab_in 1878 (by decide +kernel) (by decide +kernel)⟩
theorem mlRX12_593 : Cond.methodLink RX12 593 yX12_actFor ∈ ab_G ∧ Cond.instanceMethod yX12_actFor ∈ ab_G ∧ Cond.selects RX12 yX12_actFor yX12_actFor ∈ ab_G := ⟨ab_in 2611 (by decide +kernel) (by decide +kernel), ab_in 2613 (by decide +kernel) (by decide +kernel), ab_in 72 (by decide +kernel) (by decide +kernel)⟩
abbrev MX12_failsBy : ab_M := (yX12_failsBy, cX12_failsBy, 6, (some .int))
theorem dX12_failsBy_0 : decode cX12_failsBy 0 = .ok (.aload_n 0, 1) := by decide +kernel
theorem dX12_failsBy_1 : decode cX12_failsBy 1 = .ok (.iload_n 1, 1) := by decide +kernel
theorem dX12_failsBy_2 : decode cX12_failsBy 2 = .ok (.iload_n 2, 1) := by decide +kernel
theorem dX12_failsBy_3 : decode cX12_failsBy 3 = .ok (.invokevirtual 593, 3) := by decide +kernel
theorem dX12_failsBy_6 : decode cX12_failsBy 6 = .ok (.istore_n 3, 1) := by decide +kernel
theorem dX12_failsBy_7 : decode cX12_failsBy 7 = .ok (.aload_n 0, 1) := by decide +kernel
theorem dX12_failsBy_8 : decode cX12_failsBy 8 = .ok (.iconst 0, 1) := by decide +kernel
theorem dX12_failsBy_9 : decode cX12_failsBy 9 = .ok (.putfield 497, 3) := by decide +kernel
theorem dX12_failsBy_12 : decode cX12_failsBy 12 = .ok (.iload_n 3, 1) := by decide +kernel
theorem dX12_failsBy_13 : decode cX12_failsBy 13 = .ok (.iconst (-1), 1) := by decide +kernel
theorem dX12_failsBy_14 : decode cX12_failsBy 14 = .ok (.if_icmp .ne 5, 3) := by decide +kernel
theorem dX12_failsBy_17 : decode cX12_failsBy 17 = .ok (.iconst 0, 1) := by decide +kernel
theorem dX12_failsBy_18 : decode cX12_failsBy 18 = .ok (.ireturn, 1) := by decide +kernel
theorem dX12_failsBy_19 : decode cX12_failsBy 19 = .ok (.iconst 0, 1) := by decide +kernel
theorem dX12_failsBy_20 : decode cX12_failsBy 20 = .ok (.istore 4, 2) := by decide +kernel
theorem dX12_failsBy_22 : decode cX12_failsBy 22 = .ok (.iconst 0, 1) := by decide +kernel
theorem dX12_failsBy_23 : decode cX12_failsBy 23 = .ok (.istore 5, 2) := by decide +kernel
theorem dX12_failsBy_25 : decode cX12_failsBy 25 = .ok (.iload 5, 2) := by decide +kernel
theorem dX12_failsBy_27 : decode cX12_failsBy 27 = .ok (.aload_n 0, 1) := by decide +kernel
theorem dX12_failsBy_28 : decode cX12_failsBy 28 = .ok (.getfield 38, 3) := by decide +kernel
theorem dX12_failsBy_31 : decode cX12_failsBy 31 = .ok (.iload_n 1, 1) := by decide +kernel
theorem dX12_failsBy_32 : decode cX12_failsBy 32 = .ok (.iaload, 1) := by decide +kernel
theorem dX12_failsBy_33 : decode cX12_failsBy 33 = .ok (.if_icmp .ge 28, 3) := by decide +kernel
theorem dX12_failsBy_36 : decode cX12_failsBy 36 = .ok (.iload 4, 2) := by decide +kernel
theorem dX12_failsBy_38 : decode cX12_failsBy 38 = .ok (.aload_n 0, 1) := by decide +kernel
theorem dX12_failsBy_39 : decode cX12_failsBy 39 = .ok (.getfield 89, 3) := by decide +kernel
theorem dX12_failsBy_42 : decode cX12_failsBy 42 = .ok (.bipush 6, 2) := by decide +kernel
theorem dX12_failsBy_44 : decode cX12_failsBy 44 = .ok (.iload_n 1, 1) := by decide +kernel
theorem dX12_failsBy_45 : decode cX12_failsBy 45 = .ok (.imul, 1) := by decide +kernel
theorem dX12_failsBy_46 : decode cX12_failsBy 46 = .ok (.iload 5, 2) := by decide +kernel
theorem dX12_failsBy_48 : decode cX12_failsBy 48 = .ok (.iadd, 1) := by decide +kernel
theorem dX12_failsBy_49 : decode cX12_failsBy 49 = .ok (.iaload, 1) := by decide +kernel
theorem dX12_failsBy_50 : decode cX12_failsBy 50 = .ok (.invokestatic 357, 3) := by decide +kernel
theorem dX12_failsBy_53 : decode cX12_failsBy 53 = .ok (.istore 4, 2) := by decide +kernel
theorem dX12_failsBy_55 : decode cX12_failsBy 55 = .ok (.iinc 5 1, 3) := by decide +kernel
theorem dX12_failsBy_58 : decode cX12_failsBy 58 = .ok (.goto (-33), 3) := by decide +kernel
theorem dX12_failsBy_61 : decode cX12_failsBy 61 = .ok (.aload_n 0, 1) := by decide +kernel
theorem dX12_failsBy_62 : decode cX12_failsBy 62 = .ok (.getfield 192, 3) := by decide +kernel
theorem dX12_failsBy_65 : decode cX12_failsBy 65 = .ok (.bipush 115, 2) := by decide +kernel
theorem dX12_failsBy_67 : decode cX12_failsBy 67 = .ok (.aload_n 0, 1) := by decide +kernel
theorem dX12_failsBy_68 : decode cX12_failsBy 68 = .ok (.getfield 38, 3) := by decide +kernel
theorem dX12_failsBy_71 : decode cX12_failsBy 71 = .ok (.iload_n 1, 1) := by decide +kernel
theorem dX12_failsBy_72 : decode cX12_failsBy 72 = .ok (.iaload, 1) := by decide +kernel
theorem dX12_failsBy_73 : decode cX12_failsBy 73 = .ok (.iastore, 1) := by decide +kernel
theorem dX12_failsBy_74 : decode cX12_failsBy 74 = .ok (.aload_n 0, 1) := by decide +kernel
theorem dX12_failsBy_75 : decode cX12_failsBy 75 = .ok (.getfield 192, 3) := by decide +kernel
theorem dX12_failsBy_78 : decode cX12_failsBy 78 = .ok (.bipush 114, 2) := by decide +kernel
theorem dX12_failsBy_80 : decode cX12_failsBy 80 = .ok (.aload_n 0, 1) := by decide +kernel
theorem dX12_failsBy_81 : decode cX12_failsBy 81 = .ok (.getfield 41, 3) := by decide +kernel
theorem dX12_failsBy_84 : decode cX12_failsBy 84 = .ok (.iload_n 1, 1) := by decide +kernel
theorem dX12_failsBy_85 : decode cX12_failsBy 85 = .ok (.iaload, 1) := by decide +kernel
theorem dX12_failsBy_86 : decode cX12_failsBy 86 = .ok (.iastore, 1) := by decide +kernel
theorem dX12_failsBy_87 : decode cX12_failsBy 87 = .ok (.aload_n 0, 1) := by decide +kernel
theorem dX12_failsBy_88 : decode cX12_failsBy 88 = .ok (.getfield 192, 3) := by decide +kernel
theorem dX12_failsBy_91 : decode cX12_failsBy 91 = .ok (.bipush 117, 2) := by decide +kernel
theorem dX12_failsBy_93 : decode cX12_failsBy 93 = .ok (.aload_n 0, 1) := by decide +kernel
theorem dX12_failsBy_94 : decode cX12_failsBy 94 = .ok (.iload_n 1, 1) := by decide +kernel
theorem dX12_failsBy_95 : decode cX12_failsBy 95 = .ok (.iload_n 2, 1) := by decide +kernel
theorem dX12_failsBy_96 : decode cX12_failsBy 96 = .ok (.invokevirtual 602, 3) := by decide +kernel
theorem dX12_failsBy_99 : decode cX12_failsBy 99 = .ok (.iastore, 1) := by decide +kernel
theorem dX12_failsBy_100 : decode cX12_failsBy 100 = .ok (.aload_n 0, 1) := by decide +kernel
theorem dX12_failsBy_101 : decode cX12_failsBy 101 = .ok (.getfield 192, 3) := by decide +kernel
theorem dX12_failsBy_104 : decode cX12_failsBy 104 = .ok (.bipush 107, 2) := by decide +kernel
theorem dX12_failsBy_106 : decode cX12_failsBy 106 = .ok (.aload_n 0, 1) := by decide +kernel
theorem dX12_failsBy_107 : decode cX12_failsBy 107 = .ok (.getfield 35, 3) := by decide +kernel
theorem dX12_failsBy_110 : decode cX12_failsBy 110 = .ok (.iload_n 1, 1) := by decide +kernel
theorem dX12_failsBy_111 : decode cX12_failsBy 111 = .ok (.iaload, 1) := by decide +kernel
theorem dX12_failsBy_112 : decode cX12_failsBy 112 = .ok (.iastore, 1) := by decide +kernel
theorem dX12_failsBy_113 : decode cX12_failsBy 113 = .ok (.aload_n 0, 1) := by decide +kernel
theorem dX12_failsBy_114 : decode cX12_failsBy 114 = .ok (.getfield 192, 3) := by decide +kernel
theorem dX12_failsBy_117 : decode cX12_failsBy 117 = .ok (.bipush 103, 2) := by decide +kernel
theorem dX12_failsBy_119 : decode cX12_failsBy 119 = .ok (.iload 4, 2) := by decide +kernel
theorem dX12_failsBy_121 : decode cX12_failsBy 121 = .ok (.iastore, 1) := by decide +kernel
theorem dX12_failsBy_122 : decode cX12_failsBy 122 = .ok (.aload_n 0, 1) := by decide +kernel
theorem dX12_failsBy_123 : decode cX12_failsBy 123 = .ok (.getfield 192, 3) := by decide +kernel
theorem dX12_failsBy_126 : decode cX12_failsBy 126 = .ok (.bipush 120, 2) := by decide +kernel
theorem dX12_failsBy_128 : decode cX12_failsBy 128 = .ok (.aload_n 0, 1) := by decide +kernel
theorem dX12_failsBy_129 : decode cX12_failsBy 129 = .ok (.getfield 44, 3) := by decide +kernel
theorem dX12_failsBy_132 : decode cX12_failsBy 132 = .ok (.iload_n 1, 1) := by decide +kernel
theorem dX12_failsBy_133 : decode cX12_failsBy 133 = .ok (.iaload, 1) := by decide +kernel
theorem dX12_failsBy_134 : decode cX12_failsBy 134 = .ok (.iconst (-1), 1) := by decide +kernel
theorem dX12_failsBy_135 : decode cX12_failsBy 135 = .ok (.if_icmp .eq 7, 3) := by decide +kernel
theorem dX12_failsBy_138 : decode cX12_failsBy 138 = .ok (.iconst 1, 1) := by decide +kernel
theorem dX12_failsBy_139 : decode cX12_failsBy 139 = .ok (.goto 4, 3) := by decide +kernel
theorem dX12_failsBy_142 : decode cX12_failsBy 142 = .ok (.iconst 0, 1) := by decide +kernel
theorem dX12_failsBy_143 : decode cX12_failsBy 143 = .ok (.iastore, 1) := by decide +kernel
theorem dX12_failsBy_144 : decode cX12_failsBy 144 = .ok (.aload_n 0, 1) := by decide +kernel
theorem dX12_failsBy_145 : decode cX12_failsBy 145 = .ok (.getfield 192, 3) := by decide +kernel
theorem dX12_failsBy_148 : decode cX12_failsBy 148 = .ok (.bipush 119, 2) := by decide +kernel
theorem dX12_failsBy_150 : decode cX12_failsBy 150 = .ok (.aload_n 0, 1) := by decide +kernel
theorem dX12_failsBy_151 : decode cX12_failsBy 151 = .ok (.getfield 47, 3) := by decide +kernel
theorem dX12_failsBy_154 : decode cX12_failsBy 154 = .ok (.iload_n 1, 1) := by decide +kernel
theorem dX12_failsBy_155 : decode cX12_failsBy 155 = .ok (.iaload, 1) := by decide +kernel
theorem dX12_failsBy_156 : decode cX12_failsBy 156 = .ok (.iastore, 1) := by decide +kernel
theorem dX12_failsBy_157 : decode cX12_failsBy 157 = .ok (.aload_n 0, 1) := by decide +kernel
theorem dX12_failsBy_158 : decode cX12_failsBy 158 = .ok (.getfield 192, 3) := by decide +kernel
theorem dX12_failsBy_161 : decode cX12_failsBy 161 = .ok (.bipush 121, 2) := by decide +kernel
theorem dX12_failsBy_163 : decode cX12_failsBy 163 = .ok (.aload_n 0, 1) := by decide +kernel
theorem dX12_failsBy_164 : decode cX12_failsBy 164 = .ok (.getfield 50, 3) := by decide +kernel
theorem dX12_failsBy_167 : decode cX12_failsBy 167 = .ok (.iload_n 1, 1) := by decide +kernel
theorem dX12_failsBy_168 : decode cX12_failsBy 168 = .ok (.iaload, 1) := by decide +kernel
theorem dX12_failsBy_169 : decode cX12_failsBy 169 = .ok (.iastore, 1) := by decide +kernel
theorem dX12_failsBy_170 : decode cX12_failsBy 170 = .ok (.aload_n 0, 1) := by decide +kernel
theorem dX12_failsBy_171 : decode cX12_failsBy 171 = .ok (.getfield 192, 3) := by decide +kernel
theorem dX12_failsBy_174 : decode cX12_failsBy 174 = .ok (.bipush 100, 2) := by decide +kernel
theorem dX12_failsBy_176 : decode cX12_failsBy 176 = .ok (.aload_n 0, 1) := by decide +kernel
theorem dX12_failsBy_177 : decode cX12_failsBy 177 = .ok (.getfield 65, 3) := by decide +kernel
theorem dX12_failsBy_180 : decode cX12_failsBy 180 = .ok (.iload_n 1, 1) := by decide +kernel
theorem dX12_failsBy_181 : decode cX12_failsBy 181 = .ok (.baload, 1) := by decide +kernel
theorem dX12_failsBy_182 : decode cX12_failsBy 182 = .ok (.ifCond .eq 7, 3) := by decide +kernel
theorem dX12_failsBy_185 : decode cX12_failsBy 185 = .ok (.iconst 1, 1) := by decide +kernel
theorem dX12_failsBy_186 : decode cX12_failsBy 186 = .ok (.goto 4, 3) := by decide +kernel
theorem dX12_failsBy_189 : decode cX12_failsBy 189 = .ok (.iconst 0, 1) := by decide +kernel
theorem dX12_failsBy_190 : decode cX12_failsBy 190 = .ok (.iastore, 1) := by decide +kernel
theorem dX12_failsBy_191 : decode cX12_failsBy 191 = .ok (.aload_n 0, 1) := by decide +kernel
theorem dX12_failsBy_192 : decode cX12_failsBy 192 = .ok (.getfield 192, 3) := by decide +kernel
theorem dX12_failsBy_195 : decode cX12_failsBy 195 = .ok (.bipush 110, 2) := by decide +kernel
theorem dX12_failsBy_197 : decode cX12_failsBy 197 = .ok (.aload_n 0, 1) := by decide +kernel
theorem dX12_failsBy_198 : decode cX12_failsBy 198 = .ok (.iload_n 1, 1) := by decide +kernel
theorem dX12_failsBy_199 : decode cX12_failsBy 199 = .ok (.iconst (-1), 1) := by decide +kernel
theorem dX12_failsBy_200 : decode cX12_failsBy 200 = .ok (.invokevirtual 369, 3) := by decide +kernel
theorem dX12_failsBy_203 : decode cX12_failsBy 203 = .ok (.iconst (-1), 1) := by decide +kernel
theorem dX12_failsBy_204 : decode cX12_failsBy 204 = .ok (.if_icmp .eq 7, 3) := by decide +kernel
theorem dX12_failsBy_207 : decode cX12_failsBy 207 = .ok (.iconst 1, 1) := by decide +kernel
theorem dX12_failsBy_208 : decode cX12_failsBy 208 = .ok (.goto 4, 3) := by decide +kernel
theorem dX12_failsBy_211 : decode cX12_failsBy 211 = .ok (.iconst 0, 1) := by decide +kernel
theorem dX12_failsBy_212 : decode cX12_failsBy 212 = .ok (.aload_n 0, 1) := by decide +kernel
theorem dX12_failsBy_213 : decode cX12_failsBy 213 = .ok (.iload_n 1, 1) := by decide +kernel
theorem dX12_failsBy_214 : decode cX12_failsBy 214 = .ok (.iconst 1, 1) := by decide +kernel
theorem dX12_failsBy_215 : decode cX12_failsBy 215 = .ok (.invokevirtual 369, 3) := by decide +kernel
theorem dX12_failsBy_218 : decode cX12_failsBy 218 = .ok (.iconst (-1), 1) := by decide +kernel
theorem dX12_failsBy_219 : decode cX12_failsBy 219 = .ok (.if_icmp .eq 7, 3) := by decide +kernel
theorem dX12_failsBy_222 : decode cX12_failsBy 222 = .ok (.iconst 1, 1) := by decide +kernel
theorem dX12_failsBy_223 : decode cX12_failsBy 223 = .ok (.goto 4, 3) := by decide +kernel
theorem dX12_failsBy_226 : decode cX12_failsBy 226 = .ok (.iconst 0, 1) := by decide +kernel
theorem dX12_failsBy_227 : decode cX12_failsBy 227 = .ok (.iadd, 1) := by decide +kernel
theorem dX12_failsBy_228 : decode cX12_failsBy 228 = .ok (.iastore, 1) := by decide +kernel
theorem dX12_failsBy_229 : decode cX12_failsBy 229 = .ok (.aload_n 0, 1) := by decide +kernel
theorem dX12_failsBy_230 : decode cX12_failsBy 230 = .ok (.getfield 192, 3) := by decide +kernel
theorem dX12_failsBy_233 : decode cX12_failsBy 233 = .ok (.bipush 108, 2) := by decide +kernel
theorem dX12_failsBy_235 : decode cX12_failsBy 235 = .ok (.aload_n 0, 1) := by decide +kernel
theorem dX12_failsBy_236 : decode cX12_failsBy 236 = .ok (.iload_n 1, 1) := by decide +kernel
theorem dX12_failsBy_237 : decode cX12_failsBy 237 = .ok (.iload_n 2, 1) := by decide +kernel
theorem dX12_failsBy_238 : decode cX12_failsBy 238 = .ok (.invokevirtual 605, 3) := by decide +kernel
theorem dX12_failsBy_241 : decode cX12_failsBy 241 = .ok (.iastore, 1) := by decide +kernel
theorem dX12_failsBy_242 : decode cX12_failsBy 242 = .ok (.aload_n 0, 1) := by decide +kernel
theorem dX12_failsBy_243 : decode cX12_failsBy 243 = .ok (.iconst 2, 1) := by decide +kernel
theorem dX12_failsBy_244 : decode cX12_failsBy 244 = .ok (.aload_n 0, 1) := by decide +kernel
theorem dX12_failsBy_245 : decode cX12_failsBy 245 = .ok (.getfield 174, 3) := by decide +kernel
theorem dX12_failsBy_248 : decode cX12_failsBy 248 = .ok (.sipush 200, 3) := by decide +kernel
theorem dX12_failsBy_251 : decode cX12_failsBy 251 = .ok (.iload_n 3, 1) := by decide +kernel
theorem dX12_failsBy_252 : decode cX12_failsBy 252 = .ok (.imul, 1) := by decide +kernel
theorem dX12_failsBy_253 : decode cX12_failsBy 253 = .ok (.aload_n 0, 1) := by decide +kernel
theorem dX12_failsBy_254 : decode cX12_failsBy 254 = .ok (.getfield 183, 3) := by decide +kernel
theorem dX12_failsBy_257 : decode cX12_failsBy 257 = .ok (.iload_n 3, 1) := by decide +kernel
theorem dX12_failsBy_258 : decode cX12_failsBy 258 = .ok (.iaload, 1) := by decide +kernel
theorem dX12_failsBy_259 : decode cX12_failsBy 259 = .ok (.invokevirtual 513, 3) := by decide +kernel
theorem dX12_failsBy_262 : decode cX12_failsBy 262 = .ok (.istore 5, 2) := by decide +kernel
theorem dX12_failsBy_264 : decode cX12_failsBy 264 = .ok (.aload_n 0, 1) := by decide +kernel
theorem dX12_failsBy_265 : decode cX12_failsBy 265 = .ok (.getfield 497, 3) := by decide +kernel
theorem dX12_failsBy_268 : decode cX12_failsBy 268 = .ok (.ireturn, 1) := by decide +kernel
theorem okX12_failsBy : ab_okM MX12_failsBy 2 := ⟨by decide, ⟨by decide, by decide⟩, ab_in 2646 (by decide +kernel) (by decide +kernel), ab_in 99 (by decide +kernel) (by decide +kernel), by decide +kernel, by decide⟩
set_option maxHeartbeats 4000000 in
set_option maxRecDepth 100000 in
theorem sX12_failsBy_227 (v1 : Int32) (v2 : Int32) (v3 : Int32) (s1 : Int32) (s2 : Int32) (s3 : Int32)  (x : ab_X) (K : Int32 → ab_X → Prop)  (d bc bs : Nat) (hdp : 210 ≤ d)  (h : wX12_failsBy_227 v1 v2 v3 s1 s2 s3 x K ) : EW MX12_failsBy 227 [(0, .ref 246), (1, .int v1), (2, .int v2), (3, .int v3)] [.int s3, .int s2, .int s1, .ref 307] (aS x) d bc bs (liI K) := by
  unfold wX12_failsBy_227 at h
  refine EW_iadd (pc2 := 228) rfl dX12_failsBy_227 ?_
  obtain ⟨b23, h⟩ := h
  refine AW_iast (pc2 := 229) rfl dX12_failsBy_228 q307 b23 ?_
  refine EW_aload_n (pc2 := 230) rfl dX12_failsBy_229 0 rfl ?_
  refine AW_getr (r := 307) ⟨gfRX12_192, rfl⟩ (pc2 := 233) rfl dX12_failsBy_230 q246 rfl ?_
  refine EW_bipush (pc2 := 235) (v := 108) rfl dX12_failsBy_233 (by decide) ?_
  refine EW_aload_n (pc2 := 236) rfl dX12_failsBy_235 0 rfl ?_
  refine EW_iload_n (pc2 := 237) rfl dX12_failsBy_236 1 rfl ?_
  refine EW_iload_n (pc2 := 238) rfl dX12_failsBy_237 2 rfl ?_
  refine AW_invV (M' := MX12_daysFrom) [.int v1, .int v2] (rest := [.int 108, .ref 307]) mlRX12_605 okX12_daysFrom (pc2 := 241) rfl dX12_failsBy_238 rfl rfl (Nat.le_of_ble_eq_true rfl) (Nat.le_of_ble_eq_true rfl) (d' := 0) (by omega) q246 ⟨by decide, rfl⟩ (EW_mono (fun _ _ hr => ?_) (sX12_daysFrom v1 v2  (wr x 307 (Int32.toNatClampNeg s1) (s2 + s3)) _ _ 0 0 (Nat.le_refl _) h))
  obtain ⟨r24, rfl, rfl, h⟩ := hr
  obtain ⟨b25, h⟩ := h
  refine AW_iast (pc2 := 242) rfl dX12_failsBy_241 q307 b25 ?_
  refine EW_aload_n (pc2 := 243) rfl dX12_failsBy_242 0 rfl ?_
  refine EW_iconst (pc2 := 244) (v := 2) rfl dX12_failsBy_243 (by decide) ?_
  refine EW_aload_n (pc2 := 245) rfl dX12_failsBy_244 0 rfl ?_
  refine AW_getr (r := 301) ⟨gfRX12_174, rfl⟩ (pc2 := 248) rfl dX12_failsBy_245 q246 rfl ?_
  refine EW_sipush (pc2 := 251) (v := 200) rfl dX12_failsBy_248 (by decide) ?_
  refine EW_iload_n (pc2 := 252) rfl dX12_failsBy_251 3 rfl ?_
  refine EW_imul (pc2 := 253) rfl dX12_failsBy_252 ?_
  refine EW_aload_n (pc2 := 254) rfl dX12_failsBy_253 0 rfl ?_
  refine AW_getr (r := 304) ⟨gfRX12_183, rfl⟩ (pc2 := 257) rfl dX12_failsBy_254 q246 rfl ?_
  refine EW_iload_n (pc2 := 258) rfl dX12_failsBy_257 3 rfl ?_
  obtain ⟨b26, h⟩ := h
  refine AW_iald (pc2 := 259) rfl dX12_failsBy_258 q304 b26 ?_
  refine AW_invV (M' := MX12_goThrough) [.int 2, .ref 301, .int (200 * v3), .int ((wr (wr x 307 (Int32.toNatClampNeg s1) (s2 + s3)) 307 (Int32.toNatClampNeg 108) r24).1 304 (Int32.toNatClampNeg v3))] (rest := []) mlRX12_513 okX12_goThrough (pc2 := 262) rfl dX12_failsBy_259 rfl rfl (Nat.le_of_ble_eq_true rfl) (Nat.le_of_ble_eq_true rfl) (d' := 209) (by omega) q246 ⟨by decide, rfl⟩ (EW_mono (fun _ _ hr => ?_) (sX12_goThrough 2 301 (200 * v3) ((wr (wr x 307 (Int32.toNatClampNeg s1) (s2 + s3)) 307 (Int32.toNatClampNeg 108) r24).1 304 (Int32.toNatClampNeg v3))  (wr (wr x 307 (Int32.toNatClampNeg s1) (s2 + s3)) 307 (Int32.toNatClampNeg 108) r24) _ _ 0 0 (Nat.le_refl _) h))
  obtain ⟨r27, x28, rfl, rfl, h⟩ := hr
  refine EW_istore (pc2 := 264) rfl dX12_failsBy_262 (by decide) [1, 2, 3, 4, 0] [(0, .ref 246), (1, .int v1), (2, .int v2), (3, .int v3), (5, .int r27)] rfl ?_
  refine EW_aload_n (pc2 := 265) rfl dX12_failsBy_264 0 rfl ?_
  refine AW_geti ⟨gfRX12_497, rfl⟩ (pc2 := 268) rfl dX12_failsBy_265 q246 ?_
  exact AW_iret rfl dX12_failsBy_268 ⟨_, _, rfl, rfl, h⟩
set_option maxHeartbeats 4000000 in
set_option maxRecDepth 100000 in
theorem sX12_failsBy_212 (v1 : Int32) (v2 : Int32) (v3 : Int32) (s1 : Int32) (s2 : Int32)  (x : ab_X) (K : Int32 → ab_X → Prop)  (d bc bs : Nat) (hdp : 210 ≤ d)  (h : wX12_failsBy_212 v1 v2 v3 s1 s2 x K ) : EW MX12_failsBy 212 [(0, .ref 246), (1, .int v1), (2, .int v2), (3, .int v3)] [.int s2, .int s1, .ref 307] (aS x) d bc bs (liI K) := by
  unfold wX12_failsBy_212 at h
  refine EW_aload_n (pc2 := 213) rfl dX12_failsBy_212 0 rfl ?_
  refine EW_iload_n (pc2 := 214) rfl dX12_failsBy_213 1 rfl ?_
  refine EW_iconst (pc2 := 215) (v := 1) rfl dX12_failsBy_214 (by decide) ?_
  refine AW_invV (M' := MX12_beside) [.int v1, .int 1] (rest := [.int s2, .int s1, .ref 307]) mlRX12_369 okX12_beside (pc2 := 218) rfl dX12_failsBy_215 rfl rfl (Nat.le_of_ble_eq_true rfl) (Nat.le_of_ble_eq_true rfl) (d' := 0) (by omega) q246 ⟨by decide, rfl⟩ (EW_mono (fun _ _ hr => ?_) (sX12_beside v1 1  x _ _ 0 0 (Nat.le_refl _) h))
  obtain ⟨r22, rfl, rfl, h⟩ := hr
  refine EW_iconst (pc2 := 219) (v := (-1)) rfl dX12_failsBy_218 (by decide) ?_
  refine EW_icmp_eq (tgt := 226) (pc2 := 222) rfl dX12_failsBy_219 (by decide) (fun q => ?_) (fun q => ?_)
  · replace h := h.1 q
    refine EW_iconst (pc2 := 227) (v := 0) rfl dX12_failsBy_226 (by decide) ?_
    exact sX12_failsBy_227 v1 v2 v3 s1 s2 0 x K d bc bs hdp h
  · replace h := h.2 q
    refine EW_iconst (pc2 := 223) (v := 1) rfl dX12_failsBy_222 (by decide) ?_
    refine EW_goto (tgt := 227) dX12_failsBy_223 (by decide) ?_
    exact sX12_failsBy_227 v1 v2 v3 s1 s2 1 x K d bc bs hdp h
set_option maxHeartbeats 4000000 in
set_option maxRecDepth 100000 in
theorem sX12_failsBy_190 (v1 : Int32) (v2 : Int32) (v3 : Int32) (s1 : Int32) (s2 : Int32)  (x : ab_X) (K : Int32 → ab_X → Prop)  (d bc bs : Nat) (hdp : 210 ≤ d)  (h : wX12_failsBy_190 v1 v2 v3 s1 s2 x K ) : EW MX12_failsBy 190 [(0, .ref 246), (1, .int v1), (2, .int v2), (3, .int v3)] [.int s2, .int s1, .ref 307] (aS x) d bc bs (liI K) := by
  unfold wX12_failsBy_190 at h
  obtain ⟨b20, h⟩ := h
  refine AW_iast (pc2 := 191) rfl dX12_failsBy_190 q307 b20 ?_
  refine EW_aload_n (pc2 := 192) rfl dX12_failsBy_191 0 rfl ?_
  refine AW_getr (r := 307) ⟨gfRX12_192, rfl⟩ (pc2 := 195) rfl dX12_failsBy_192 q246 rfl ?_
  refine EW_bipush (pc2 := 197) (v := 110) rfl dX12_failsBy_195 (by decide) ?_
  refine EW_aload_n (pc2 := 198) rfl dX12_failsBy_197 0 rfl ?_
  refine EW_iload_n (pc2 := 199) rfl dX12_failsBy_198 1 rfl ?_
  refine EW_iconst (pc2 := 200) (v := (-1)) rfl dX12_failsBy_199 (by decide) ?_
  refine AW_invV (M' := MX12_beside) [.int v1, .int (-1)] (rest := [.int 110, .ref 307]) mlRX12_369 okX12_beside (pc2 := 203) rfl dX12_failsBy_200 rfl rfl (Nat.le_of_ble_eq_true rfl) (Nat.le_of_ble_eq_true rfl) (d' := 0) (by omega) q246 ⟨by decide, rfl⟩ (EW_mono (fun _ _ hr => ?_) (sX12_beside v1 (-1)  (wr x 307 (Int32.toNatClampNeg s1) s2) _ _ 0 0 (Nat.le_refl _) h))
  obtain ⟨r21, rfl, rfl, h⟩ := hr
  refine EW_iconst (pc2 := 204) (v := (-1)) rfl dX12_failsBy_203 (by decide) ?_
  refine EW_icmp_eq (tgt := 211) (pc2 := 207) rfl dX12_failsBy_204 (by decide) (fun q => ?_) (fun q => ?_)
  · replace h := h.1 q
    refine EW_iconst (pc2 := 212) (v := 0) rfl dX12_failsBy_211 (by decide) ?_
    exact sX12_failsBy_212 v1 v2 v3 110 0 (wr x 307 (Int32.toNatClampNeg s1) s2) K d bc bs hdp h
  · replace h := h.2 q
    refine EW_iconst (pc2 := 208) (v := 1) rfl dX12_failsBy_207 (by decide) ?_
    refine EW_goto (tgt := 212) dX12_failsBy_208 (by decide) ?_
    exact sX12_failsBy_212 v1 v2 v3 110 1 (wr x 307 (Int32.toNatClampNeg s1) s2) K d bc bs hdp h
set_option maxHeartbeats 4000000 in
set_option maxRecDepth 100000 in
theorem sX12_failsBy_143 (v1 : Int32) (v2 : Int32) (v3 : Int32) (s1 : Int32) (s2 : Int32)  (x : ab_X) (K : Int32 → ab_X → Prop)  (d bc bs : Nat) (hdp : 210 ≤ d)  (h : wX12_failsBy_143 v1 v2 v3 s1 s2 x K ) : EW MX12_failsBy 143 [(0, .ref 246), (1, .int v1), (2, .int v2), (3, .int v3)] [.int s2, .int s1, .ref 307] (aS x) d bc bs (liI K) := by
  unfold wX12_failsBy_143 at h
  obtain ⟨b14, h⟩ := h
  refine AW_iast (pc2 := 144) rfl dX12_failsBy_143 q307 b14 ?_
  refine EW_aload_n (pc2 := 145) rfl dX12_failsBy_144 0 rfl ?_
  refine AW_getr (r := 307) ⟨gfRX12_192, rfl⟩ (pc2 := 148) rfl dX12_failsBy_145 q246 rfl ?_
  refine EW_bipush (pc2 := 150) (v := 119) rfl dX12_failsBy_148 (by decide) ?_
  refine EW_aload_n (pc2 := 151) rfl dX12_failsBy_150 0 rfl ?_
  refine AW_getr (r := 259) ⟨gfRX12_47, rfl⟩ (pc2 := 154) rfl dX12_failsBy_151 q246 rfl ?_
  refine EW_iload_n (pc2 := 155) rfl dX12_failsBy_154 1 rfl ?_
  obtain ⟨b15, h⟩ := h
  refine AW_iald (pc2 := 156) rfl dX12_failsBy_155 q259 b15 ?_
  obtain ⟨b16, h⟩ := h
  refine AW_iast (pc2 := 157) rfl dX12_failsBy_156 q307 b16 ?_
  refine EW_aload_n (pc2 := 158) rfl dX12_failsBy_157 0 rfl ?_
  refine AW_getr (r := 307) ⟨gfRX12_192, rfl⟩ (pc2 := 161) rfl dX12_failsBy_158 q246 rfl ?_
  refine EW_bipush (pc2 := 163) (v := 121) rfl dX12_failsBy_161 (by decide) ?_
  refine EW_aload_n (pc2 := 164) rfl dX12_failsBy_163 0 rfl ?_
  refine AW_getr (r := 260) ⟨gfRX12_50, rfl⟩ (pc2 := 167) rfl dX12_failsBy_164 q246 rfl ?_
  refine EW_iload_n (pc2 := 168) rfl dX12_failsBy_167 1 rfl ?_
  obtain ⟨b17, h⟩ := h
  refine AW_iald (pc2 := 169) rfl dX12_failsBy_168 q260 b17 ?_
  obtain ⟨b18, h⟩ := h
  refine AW_iast (pc2 := 170) rfl dX12_failsBy_169 q307 b18 ?_
  refine EW_aload_n (pc2 := 171) rfl dX12_failsBy_170 0 rfl ?_
  refine AW_getr (r := 307) ⟨gfRX12_192, rfl⟩ (pc2 := 174) rfl dX12_failsBy_171 q246 rfl ?_
  refine EW_bipush (pc2 := 176) (v := 100) rfl dX12_failsBy_174 (by decide) ?_
  refine EW_aload_n (pc2 := 177) rfl dX12_failsBy_176 0 rfl ?_
  refine AW_getr (r := 265) ⟨gfRX12_65, rfl⟩ (pc2 := 180) rfl dX12_failsBy_177 q246 rfl ?_
  refine EW_iload_n (pc2 := 181) rfl dX12_failsBy_180 1 rfl ?_
  obtain ⟨b19, h⟩ := h
  refine AW_zald (pc2 := 182) rfl dX12_failsBy_181 q265 b19 ?_
  refine EW_if_eq (tgt := 189) (pc2 := 185) rfl dX12_failsBy_182 (by decide) (fun q => ?_) (fun q => ?_)
  · replace h := h.1 q
    refine EW_iconst (pc2 := 190) (v := 0) rfl dX12_failsBy_189 (by decide) ?_
    exact sX12_failsBy_190 v1 v2 v3 100 0 (wr (wr (wr x 307 (Int32.toNatClampNeg s1) s2) 307 (Int32.toNatClampNeg 119) ((wr x 307 (Int32.toNatClampNeg s1) s2).1 259 (Int32.toNatClampNeg v1))) 307 (Int32.toNatClampNeg 121) ((wr (wr x 307 (Int32.toNatClampNeg s1) s2) 307 (Int32.toNatClampNeg 119) ((wr x 307 (Int32.toNatClampNeg s1) s2).1 259 (Int32.toNatClampNeg v1))).1 260 (Int32.toNatClampNeg v1))) K d bc bs hdp h
  · replace h := h.2 q
    refine EW_iconst (pc2 := 186) (v := 1) rfl dX12_failsBy_185 (by decide) ?_
    refine EW_goto (tgt := 190) dX12_failsBy_186 (by decide) ?_
    exact sX12_failsBy_190 v1 v2 v3 100 1 (wr (wr (wr x 307 (Int32.toNatClampNeg s1) s2) 307 (Int32.toNatClampNeg 119) ((wr x 307 (Int32.toNatClampNeg s1) s2).1 259 (Int32.toNatClampNeg v1))) 307 (Int32.toNatClampNeg 121) ((wr (wr x 307 (Int32.toNatClampNeg s1) s2) 307 (Int32.toNatClampNeg 119) ((wr x 307 (Int32.toNatClampNeg s1) s2).1 259 (Int32.toNatClampNeg v1))).1 260 (Int32.toNatClampNeg v1))) K d bc bs hdp h
set_option maxHeartbeats 4000000 in
set_option maxRecDepth 100000 in
theorem sX12_failsBy_25 (v1 : Int32) (v2 : Int32) (v3 : Int32) (v4 : Int32) (v5 : Int32)  (x : ab_X) (K : Int32 → ab_X → Prop)  (d bc bs : Nat) (hdp : 210 ≤ d)  (h : Lp2 (lX12_failsBy_25 v1 v2 v3 x K ) v4 v5) : EW MX12_failsBy 25 [(0, .ref 246), (1, .int v1), (2, .int v2), (3, .int v3), (4, .int v4), (5, .int v5)] [] (aS x) d bc bs (liI K) := by
  refine Lp2.use (P := fun v4 v5 => EW MX12_failsBy 25 [(0, .ref 246), (1, .int v1), (2, .int v2), (3, .int v3), (4, .int v4), (5, .int v5)] [] (aS x) d bc bs (liI K)) (fun L25 v4 v5 hL25 h => ?_) v4 v5 h
  unfold lX12_failsBy_25 at h
  refine EW_iload (pc2 := 27) rfl dX12_failsBy_25 5 rfl ?_
  refine EW_aload_n (pc2 := 28) rfl dX12_failsBy_27 0 rfl ?_
  refine AW_getr (r := 256) ⟨gfRX12_38, rfl⟩ (pc2 := 31) rfl dX12_failsBy_28 q246 rfl ?_
  refine EW_iload_n (pc2 := 32) rfl dX12_failsBy_31 1 rfl ?_
  obtain ⟨b2, h⟩ := h
  refine AW_iald (pc2 := 33) rfl dX12_failsBy_32 q256 b2 ?_
  refine EW_icmp_ge (tgt := 61) (pc2 := 36) rfl dX12_failsBy_33 (by decide) (fun q => ?_) (fun q => ?_)
  · replace h := h.1 q
    refine EW_aload_n (pc2 := 62) rfl dX12_failsBy_61 0 rfl ?_
    refine AW_getr (r := 307) ⟨gfRX12_192, rfl⟩ (pc2 := 65) rfl dX12_failsBy_62 q246 rfl ?_
    refine EW_bipush (pc2 := 67) (v := 115) rfl dX12_failsBy_65 (by decide) ?_
    refine EW_aload_n (pc2 := 68) rfl dX12_failsBy_67 0 rfl ?_
    refine AW_getr (r := 256) ⟨gfRX12_38, rfl⟩ (pc2 := 71) rfl dX12_failsBy_68 q246 rfl ?_
    refine EW_iload_n (pc2 := 72) rfl dX12_failsBy_71 1 rfl ?_
    obtain ⟨b3, h⟩ := h
    refine AW_iald (pc2 := 73) rfl dX12_failsBy_72 q256 b3 ?_
    obtain ⟨b4, h⟩ := h
    refine AW_iast (pc2 := 74) rfl dX12_failsBy_73 q307 b4 ?_
    refine EW_aload_n (pc2 := 75) rfl dX12_failsBy_74 0 rfl ?_
    refine AW_getr (r := 307) ⟨gfRX12_192, rfl⟩ (pc2 := 78) rfl dX12_failsBy_75 q246 rfl ?_
    refine EW_bipush (pc2 := 80) (v := 114) rfl dX12_failsBy_78 (by decide) ?_
    refine EW_aload_n (pc2 := 81) rfl dX12_failsBy_80 0 rfl ?_
    refine AW_getr (r := 257) ⟨gfRX12_41, rfl⟩ (pc2 := 84) rfl dX12_failsBy_81 q246 rfl ?_
    refine EW_iload_n (pc2 := 85) rfl dX12_failsBy_84 1 rfl ?_
    obtain ⟨b5, h⟩ := h
    refine AW_iald (pc2 := 86) rfl dX12_failsBy_85 q257 b5 ?_
    obtain ⟨b6, h⟩ := h
    refine AW_iast (pc2 := 87) rfl dX12_failsBy_86 q307 b6 ?_
    refine EW_aload_n (pc2 := 88) rfl dX12_failsBy_87 0 rfl ?_
    refine AW_getr (r := 307) ⟨gfRX12_192, rfl⟩ (pc2 := 91) rfl dX12_failsBy_88 q246 rfl ?_
    refine EW_bipush (pc2 := 93) (v := 117) rfl dX12_failsBy_91 (by decide) ?_
    refine EW_aload_n (pc2 := 94) rfl dX12_failsBy_93 0 rfl ?_
    refine EW_iload_n (pc2 := 95) rfl dX12_failsBy_94 1 rfl ?_
    refine EW_iload_n (pc2 := 96) rfl dX12_failsBy_95 2 rfl ?_
    refine AW_invV (M' := MX12_useOf) [.int v1, .int v2] (rest := [.int 117, .ref 307]) mlRX12_602 okX12_useOf (pc2 := 99) rfl dX12_failsBy_96 rfl rfl (Nat.le_of_ble_eq_true rfl) (Nat.le_of_ble_eq_true rfl) (d' := 0) (by omega) q246 ⟨by decide, rfl⟩ (EW_mono (fun _ _ hr => ?_) (sX12_useOf v1 v2  (wr (wr x 307 (Int32.toNatClampNeg 115) (x.1 256 (Int32.toNatClampNeg v1))) 307 (Int32.toNatClampNeg 114) ((wr x 307 (Int32.toNatClampNeg 115) (x.1 256 (Int32.toNatClampNeg v1))).1 257 (Int32.toNatClampNeg v1))) _ _ 0 0 (Nat.le_refl _) h))
    obtain ⟨r7, rfl, rfl, h⟩ := hr
    obtain ⟨b8, h⟩ := h
    refine AW_iast (pc2 := 100) rfl dX12_failsBy_99 q307 b8 ?_
    refine EW_aload_n (pc2 := 101) rfl dX12_failsBy_100 0 rfl ?_
    refine AW_getr (r := 307) ⟨gfRX12_192, rfl⟩ (pc2 := 104) rfl dX12_failsBy_101 q246 rfl ?_
    refine EW_bipush (pc2 := 106) (v := 107) rfl dX12_failsBy_104 (by decide) ?_
    refine EW_aload_n (pc2 := 107) rfl dX12_failsBy_106 0 rfl ?_
    refine AW_getr (r := 255) ⟨gfRX12_35, rfl⟩ (pc2 := 110) rfl dX12_failsBy_107 q246 rfl ?_
    refine EW_iload_n (pc2 := 111) rfl dX12_failsBy_110 1 rfl ?_
    obtain ⟨b9, h⟩ := h
    refine AW_iald (pc2 := 112) rfl dX12_failsBy_111 q255 b9 ?_
    obtain ⟨b10, h⟩ := h
    refine AW_iast (pc2 := 113) rfl dX12_failsBy_112 q307 b10 ?_
    refine EW_aload_n (pc2 := 114) rfl dX12_failsBy_113 0 rfl ?_
    refine AW_getr (r := 307) ⟨gfRX12_192, rfl⟩ (pc2 := 117) rfl dX12_failsBy_114 q246 rfl ?_
    refine EW_bipush (pc2 := 119) (v := 103) rfl dX12_failsBy_117 (by decide) ?_
    refine EW_iload (pc2 := 121) rfl dX12_failsBy_119 4 rfl ?_
    obtain ⟨b11, h⟩ := h
    refine AW_iast (pc2 := 122) rfl dX12_failsBy_121 q307 b11 ?_
    refine EW_aload_n (pc2 := 123) rfl dX12_failsBy_122 0 rfl ?_
    refine AW_getr (r := 307) ⟨gfRX12_192, rfl⟩ (pc2 := 126) rfl dX12_failsBy_123 q246 rfl ?_
    refine EW_bipush (pc2 := 128) (v := 120) rfl dX12_failsBy_126 (by decide) ?_
    refine EW_aload_n (pc2 := 129) rfl dX12_failsBy_128 0 rfl ?_
    refine AW_getr (r := 258) ⟨gfRX12_44, rfl⟩ (pc2 := 132) rfl dX12_failsBy_129 q246 rfl ?_
    refine EW_iload_n (pc2 := 133) rfl dX12_failsBy_132 1 rfl ?_
    obtain ⟨b12, h⟩ := h
    refine AW_iald (pc2 := 134) rfl dX12_failsBy_133 q258 b12 ?_
    refine EW_iconst (pc2 := 135) (v := (-1)) rfl dX12_failsBy_134 (by decide) ?_
    refine EW_icmp_eq (tgt := 142) (pc2 := 138) rfl dX12_failsBy_135 (by decide) (fun q => ?_) (fun q => ?_)
    · replace h := h.1 q
      refine EW_iconst (pc2 := 143) (v := 0) rfl dX12_failsBy_142 (by decide) ?_
      refine EW_ls [0, 1, 2, 3] rfl ?_
      exact sX12_failsBy_143 v1 v2 v3 120 0 (wr (wr (wr (wr (wr x 307 (Int32.toNatClampNeg 115) (x.1 256 (Int32.toNatClampNeg v1))) 307 (Int32.toNatClampNeg 114) ((wr x 307 (Int32.toNatClampNeg 115) (x.1 256 (Int32.toNatClampNeg v1))).1 257 (Int32.toNatClampNeg v1))) 307 (Int32.toNatClampNeg 117) r7) 307 (Int32.toNatClampNeg 107) ((wr (wr (wr x 307 (Int32.toNatClampNeg 115) (x.1 256 (Int32.toNatClampNeg v1))) 307 (Int32.toNatClampNeg 114) ((wr x 307 (Int32.toNatClampNeg 115) (x.1 256 (Int32.toNatClampNeg v1))).1 257 (Int32.toNatClampNeg v1))) 307 (Int32.toNatClampNeg 117) r7).1 255 (Int32.toNatClampNeg v1))) 307 (Int32.toNatClampNeg 103) v4) K d bc bs hdp h
    · replace h := h.2 q
      refine EW_iconst (pc2 := 139) (v := 1) rfl dX12_failsBy_138 (by decide) ?_
      refine EW_goto (tgt := 143) dX12_failsBy_139 (by decide) ?_
      refine EW_ls [0, 1, 2, 3] rfl ?_
      exact sX12_failsBy_143 v1 v2 v3 120 1 (wr (wr (wr (wr (wr x 307 (Int32.toNatClampNeg 115) (x.1 256 (Int32.toNatClampNeg v1))) 307 (Int32.toNatClampNeg 114) ((wr x 307 (Int32.toNatClampNeg 115) (x.1 256 (Int32.toNatClampNeg v1))).1 257 (Int32.toNatClampNeg v1))) 307 (Int32.toNatClampNeg 117) r7) 307 (Int32.toNatClampNeg 107) ((wr (wr (wr x 307 (Int32.toNatClampNeg 115) (x.1 256 (Int32.toNatClampNeg v1))) 307 (Int32.toNatClampNeg 114) ((wr x 307 (Int32.toNatClampNeg 115) (x.1 256 (Int32.toNatClampNeg v1))).1 257 (Int32.toNatClampNeg v1))) 307 (Int32.toNatClampNeg 117) r7).1 255 (Int32.toNatClampNeg v1))) 307 (Int32.toNatClampNeg 103) v4) K d bc bs hdp h
  · replace h := h.2 q
    refine EW_iload (pc2 := 38) rfl dX12_failsBy_36 4 rfl ?_
    refine EW_aload_n (pc2 := 39) rfl dX12_failsBy_38 0 rfl ?_
    refine AW_getr (r := 273) ⟨gfRX12_89, rfl⟩ (pc2 := 42) rfl dX12_failsBy_39 q246 rfl ?_
    refine EW_bipush (pc2 := 44) (v := 6) rfl dX12_failsBy_42 (by decide) ?_
    refine EW_iload_n (pc2 := 45) rfl dX12_failsBy_44 1 rfl ?_
    refine EW_imul (pc2 := 46) rfl dX12_failsBy_45 ?_
    refine EW_iload (pc2 := 48) rfl dX12_failsBy_46 5 rfl ?_
    refine EW_iadd (pc2 := 49) rfl dX12_failsBy_48 ?_
    obtain ⟨b13, h⟩ := h
    refine AW_iald (pc2 := 50) rfl dX12_failsBy_49 q273 b13 ?_
    refine AW_mmax mmRX12_357 (pc2 := 53) rfl dX12_failsBy_50 (Nat.le_of_ble_eq_true rfl) (by omega) ?_
    refine EW_istore (pc2 := 55) rfl dX12_failsBy_53 (by decide) [1, 2, 3, 4, 0, 5] [(0, .ref 246), (1, .int v1), (2, .int v2), (3, .int v3), (4, .int (imax v4 (x.1 273 (Int32.toNatClampNeg ((6 * v1) + v5))))), (5, .int v5)] rfl ?_
    refine EW_iinc (v5 + 1) (pc2 := 58) rfl dX12_failsBy_55 5 rfl rfl (by decide) [1, 2, 3, 4, 5, 0] [(0, .ref 246), (1, .int v1), (2, .int v2), (3, .int v3), (4, .int (imax v4 (x.1 273 (Int32.toNatClampNeg ((6 * v1) + v5))))), (5, .int (v5 + 1))] rfl ?_
    refine EW_goto (tgt := 25) dX12_failsBy_58 (by decide) ?_
    exact hL25 (imax v4 (x.1 273 (Int32.toNatClampNeg ((6 * v1) + v5)))) (v5 + 1) h
set_option maxHeartbeats 4000000 in
set_option maxRecDepth 100000 in
theorem sX12_failsBy (v1 : Int32) (v2 : Int32)  (x : ab_X) (K : Int32 → ab_X → Prop) (d bc bs : Nat) (hdp : 210 ≤ d) (h : wX12_failsBy v1 v2 x K) : EW MX12_failsBy 0 [(0, .ref 246), (1, .int v1), (2, .int v2)] [] (aS x) d bc bs (liI K) := by
  unfold wX12_failsBy at h
  refine EW_aload_n (pc2 := 1) rfl dX12_failsBy_0 0 rfl ?_
  refine EW_iload_n (pc2 := 2) rfl dX12_failsBy_1 1 rfl ?_
  refine EW_iload_n (pc2 := 3) rfl dX12_failsBy_2 2 rfl ?_
  refine AW_invV (M' := MX12_actFor) [.int v1, .int v2] (rest := []) mlRX12_593 okX12_actFor (pc2 := 6) rfl dX12_failsBy_3 rfl rfl (Nat.le_of_ble_eq_true rfl) (Nat.le_of_ble_eq_true rfl) (d' := 0) (by omega) q246 ⟨by decide, rfl⟩ (EW_mono (fun _ _ hr => ?_) (sX12_actFor v1 v2  x _ _ 0 0 (Nat.le_refl _) h))
  obtain ⟨r1, rfl, rfl, h⟩ := hr
  refine EW_istore_n (pc2 := 7) rfl dX12_failsBy_6 (by decide) [1, 2, 3, 0] [(0, .ref 246), (1, .int v1), (2, .int v2), (3, .int r1)] rfl ?_
  refine EW_aload_n (pc2 := 8) rfl dX12_failsBy_7 0 rfl ?_
  refine EW_iconst (pc2 := 9) (v := 0) rfl dX12_failsBy_8 (by decide) ?_
  refine AW_puti ⟨gfRX12_497, rfl, rfl⟩ (pc2 := 12) rfl dX12_failsBy_9 q246 ?_
  refine EW_iload_n (pc2 := 13) rfl dX12_failsBy_12 3 rfl ?_
  refine EW_iconst (pc2 := 14) (v := (-1)) rfl dX12_failsBy_13 (by decide) ?_
  refine EW_icmp_ne (tgt := 19) (pc2 := 17) rfl dX12_failsBy_14 (by decide) (fun q => ?_) (fun q => ?_)
  · replace h := h.1 q
    refine EW_iconst (pc2 := 20) (v := 0) rfl dX12_failsBy_19 (by decide) ?_
    refine EW_istore (pc2 := 22) rfl dX12_failsBy_20 (by decide) [1, 2, 3, 4, 0] [(0, .ref 246), (1, .int v1), (2, .int v2), (3, .int r1), (4, .int 0)] rfl ?_
    refine EW_iconst (pc2 := 23) (v := 0) rfl dX12_failsBy_22 (by decide) ?_
    refine EW_istore (pc2 := 25) rfl dX12_failsBy_23 (by decide) [1, 2, 3, 4, 5, 0] [(0, .ref 246), (1, .int v1), (2, .int v2), (3, .int r1), (4, .int 0), (5, .int 0)] rfl ?_
    exact sX12_failsBy_25 v1 v2 r1 0 0 (wr x 246 74 0) K d bc bs hdp h
  · replace h := h.2 q
    refine EW_iconst (pc2 := 18) (v := 0) rfl dX12_failsBy_17 (by decide) ?_
    exact AW_iret rfl dX12_failsBy_18 ⟨_, _, rfl, rfl, h⟩
