theorem gfRX11_327 : ab_L RX11 327 0 5 := ⟨by decide, by decide, ab_in 554 (by decide +kernel) (by decide +kernel)⟩
theorem mlRX11_86 : Cond.methodLink RX11 86 yX11_below ∈ ab_G ∧ Cond.static yX11_below ∈ ab_G := ⟨ab_in 793 (by decide +kernel) (by decide +kernel), ab_in 794 (by decide +kernel) (by decide +kernel)⟩
theorem gfRX11_330 : ab_L RX11 330 0 4 := ⟨by decide, by decide, ab_in 551 (by decide +kernel) (by decide +kernel)⟩
theorem gfRX11_334 : ab_L RX11 334 1 0 := ⟨by decide, by decide, ab_in 507 (by decide +kernel) (by decide +kernel)⟩
theorem gfRX11_337 : ab_L RX11 337 1 1 := ⟨by decide, by decide, ab_in 509 (by decide +kernel) (by decide +kernel)⟩
theorem gfRX11_340 : ab_L RX11 340 1 2 := ⟨by decide, by decide, ab_in 512 (by decide +kernel) (by decide +kernel)⟩
theorem gfRX11_341 : ab_L RX11 341 1 3 := ⟨by decide, by decide, ab_in 514 (by decide +kernel) (by decide +kernel)⟩
theorem gfRX11_344 : ab_L RX11 344 1 4 := ⟨by decide, by decide, ab_in 516 (by decide +kernel) (by decide +kernel)⟩
theorem gfRX11_347 : ab_L RX11 347 1 5 := ⟨by decide, by decide, ab_in 518 (by decide +kernel) (by decide +kernel)⟩
theorem gfRX11_350 : ab_L RX11 350 1 6 := ⟨by decide, by decide, ab_in 520 (by decide +kernel) (by decide +kernel)⟩
theorem gfRX11_353 : ab_L RX11 353 1 7 := ⟨by decide, by decide, ab_in 522 (by decide +kernel) (by decide +kernel)⟩
abbrev MX11_called : ab_M := (yX11_called, cX11_called, 4, (some .int))
theorem dX11_called_0 : decode cX11_called 0 = .ok (.iload_n 1, 1) := by decide +kernel
theorem dX11_called_1 : decode cX11_called 1 = .ok (.aload_n 0, 1) := by decide +kernel
theorem dX11_called_2 : decode cX11_called 2 = .ok (.getfield 30, 3) := by decide +kernel
theorem dX11_called_5 : decode cX11_called 5 = .ok (.getfield 327, 3) := by decide +kernel
theorem dX11_called_8 : decode cX11_called 8 = .ok (.invokestatic 86, 3) := by decide +kernel
theorem dX11_called_11 : decode cX11_called 11 = .ok (.ifCond .ne 5, 3) := by decide +kernel
theorem dX11_called_14 : decode cX11_called 14 = .ok (.iconst (-1), 1) := by decide +kernel
theorem dX11_called_15 : decode cX11_called 15 = .ok (.ireturn, 1) := by decide +kernel
theorem dX11_called_16 : decode cX11_called 16 = .ok (.aload_n 0, 1) := by decide +kernel
theorem dX11_called_17 : decode cX11_called 17 = .ok (.getfield 30, 3) := by decide +kernel
theorem dX11_called_20 : decode cX11_called 20 = .ok (.getfield 330, 3) := by decide +kernel
theorem dX11_called_23 : decode cX11_called 23 = .ok (.iload_n 1, 1) := by decide +kernel
theorem dX11_called_24 : decode cX11_called 24 = .ok (.aaload, 1) := by decide +kernel
theorem dX11_called_25 : decode cX11_called 25 = .ok (.astore_n 3, 1) := by decide +kernel
theorem dX11_called_26 : decode cX11_called 26 = .ok (.iload_n 2, 1) := by decide +kernel
theorem dX11_called_27 : decode cX11_called 27 = .ok (.tableswitch 85 0 7 #[45, 50, 55, 60, 65, 70, 75, 80], 45) := by decide +kernel
theorem dX11_called_72 : decode cX11_called 72 = .ok (.aload_n 3, 1) := by decide +kernel
theorem dX11_called_73 : decode cX11_called 73 = .ok (.getfield 334, 3) := by decide +kernel
theorem dX11_called_76 : decode cX11_called 76 = .ok (.ireturn, 1) := by decide +kernel
theorem dX11_called_77 : decode cX11_called 77 = .ok (.aload_n 3, 1) := by decide +kernel
theorem dX11_called_78 : decode cX11_called 78 = .ok (.getfield 337, 3) := by decide +kernel
theorem dX11_called_81 : decode cX11_called 81 = .ok (.ireturn, 1) := by decide +kernel
theorem dX11_called_82 : decode cX11_called 82 = .ok (.aload_n 3, 1) := by decide +kernel
theorem dX11_called_83 : decode cX11_called 83 = .ok (.getfield 340, 3) := by decide +kernel
theorem dX11_called_86 : decode cX11_called 86 = .ok (.ireturn, 1) := by decide +kernel
theorem dX11_called_87 : decode cX11_called 87 = .ok (.aload_n 3, 1) := by decide +kernel
theorem dX11_called_88 : decode cX11_called 88 = .ok (.getfield 341, 3) := by decide +kernel
theorem dX11_called_91 : decode cX11_called 91 = .ok (.ireturn, 1) := by decide +kernel
theorem dX11_called_92 : decode cX11_called 92 = .ok (.aload_n 3, 1) := by decide +kernel
theorem dX11_called_93 : decode cX11_called 93 = .ok (.getfield 344, 3) := by decide +kernel
theorem dX11_called_96 : decode cX11_called 96 = .ok (.ireturn, 1) := by decide +kernel
theorem dX11_called_97 : decode cX11_called 97 = .ok (.aload_n 3, 1) := by decide +kernel
theorem dX11_called_98 : decode cX11_called 98 = .ok (.getfield 347, 3) := by decide +kernel
theorem dX11_called_101 : decode cX11_called 101 = .ok (.ireturn, 1) := by decide +kernel
theorem dX11_called_102 : decode cX11_called 102 = .ok (.aload_n 3, 1) := by decide +kernel
theorem dX11_called_103 : decode cX11_called 103 = .ok (.getfield 350, 3) := by decide +kernel
theorem dX11_called_106 : decode cX11_called 106 = .ok (.ireturn, 1) := by decide +kernel
theorem dX11_called_107 : decode cX11_called 107 = .ok (.aload_n 3, 1) := by decide +kernel
theorem dX11_called_108 : decode cX11_called 108 = .ok (.getfield 353, 3) := by decide +kernel
theorem dX11_called_111 : decode cX11_called 111 = .ok (.ireturn, 1) := by decide +kernel
theorem dX11_called_112 : decode cX11_called 112 = .ok (.iconst (-1), 1) := by decide +kernel
theorem dX11_called_113 : decode cX11_called 113 = .ok (.ireturn, 1) := by decide +kernel
theorem okX11_called : ab_okM MX11_called 2 := ⟨by decide, ⟨by decide, by decide⟩, ab_in 1146 (by decide +kernel) (by decide +kernel), ab_in 86 (by decide +kernel) (by decide +kernel), by decide +kernel, by decide⟩
set_option maxHeartbeats 4000000 in
set_option maxRecDepth 100000 in
theorem sX11_called (v1 : Int32) (v2 : Int32)  (x : ab_X) (K : Int32 → Prop) (d bc bs : Nat) (hdp : 1 ≤ d) (h : wX11_called v1 v2 x K) : EW MX11_called 0 [(0, .ref 0), (1, .int v1), (2, .int v2)] [] (aS x) d bc bs (liP x K) := by
  unfold wX11_called at h
  refine EW_iload_n (pc2 := 1) rfl dX11_called_0 1 rfl ?_
  refine EW_aload_n (pc2 := 2) rfl dX11_called_1 0 rfl ?_
  refine AW_getr (r := 66) ⟨gfRX11_30, rfl⟩ (pc2 := 5) rfl dX11_called_2 q0 rfl ?_
  refine AW_geti ⟨gfRX11_327, rfl⟩ (pc2 := 8) rfl dX11_called_5 q66 ?_
  refine AW_invS (M' := MX11_below) [.int v1, .int (x.1 66 5)] (rest := []) mlRX11_86 okX11_below (pc2 := 11) rfl dX11_called_8 rfl rfl (Nat.le_of_ble_eq_true rfl) (Nat.le_of_ble_eq_true rfl) (d' := 0) (by omega) (EW_mono (fun _ _ hr => ?_) (sX11_below v1 (x.1 66 5)  x _ _ 0 0 (Nat.le_refl _) h))
  obtain ⟨r1, rfl, rfl, h⟩ := hr
  refine EW_if_ne (tgt := 16) (pc2 := 14) rfl dX11_called_11 (by decide) (fun q => ?_) (fun q => ?_)
  · replace h := h.1 q
    refine EW_aload_n (pc2 := 17) rfl dX11_called_16 0 rfl ?_
    refine AW_getr (r := 66) ⟨gfRX11_30, rfl⟩ (pc2 := 20) rfl dX11_called_17 q0 rfl ?_
    refine AW_getr (r := 68) ⟨gfRX11_330, rfl⟩ (pc2 := 23) rfl dX11_called_20 q66 rfl ?_
    refine EW_iload_n (pc2 := 24) rfl dX11_called_23 1 rfl ?_
    obtain ⟨b2, h⟩ := h
    refine AW_aald7 (pc2 := 25) rfl dX11_called_24 b2 ?_
    refine EW_astore_n (pc2 := 26) rfl dX11_called_25 (by decide) [1, 2, 3, 0] [(0, .ref 0), (1, .int v1), (2, .int v2), (3, .ref (98 + Int32.toNatClampNeg v1))] rfl ?_
    refine EW_iload_n (pc2 := 27) rfl dX11_called_26 2 rfl ?_
    by_cases qo : Int32.toInt v2 < 0 ∨ 7 < Int32.toInt v2
    · replace h := h.1 qo
      refine EW_tabOut (tgt := 112) dX11_called_27 qo (by decide) ?_
      refine EW_iconst (pc2 := 113) (v := (-1)) rfl dX11_called_112 (by decide) ?_
      exact AW_iret rfl dX11_called_113 ⟨_, rfl, rfl, h⟩
    · obtain ⟨kk, hkk, qk⟩ := sw_in 0 7 (by decide) qo
      match kk, hkk, qk with
      | 0, _, qk =>
        replace h := h.2.1 qk
        refine EW_tabIn (off := 45) (tgt := 72) dX11_called_27 (by rw [qk]; decide) (by rw [qk]; decide) (by rw [qk]; decide) (by decide) ?_
        refine EW_aload_n (pc2 := 73) rfl dX11_called_72 3 rfl ?_
        refine AW_geti ⟨gfRX11_334, rfl⟩ (pc2 := 76) rfl dX11_called_73 (isK.o (isK_of b2)) ?_
        exact AW_iret rfl dX11_called_76 ⟨_, rfl, rfl, h⟩
      | 1, _, qk =>
        replace h := h.2.2.1 qk
        refine EW_tabIn (off := 50) (tgt := 77) dX11_called_27 (by rw [qk]; decide) (by rw [qk]; decide) (by rw [qk]; decide) (by decide) ?_
        refine EW_aload_n (pc2 := 78) rfl dX11_called_77 3 rfl ?_
        refine AW_geti ⟨gfRX11_337, rfl⟩ (pc2 := 81) rfl dX11_called_78 (isK.o (isK_of b2)) ?_
        exact AW_iret rfl dX11_called_81 ⟨_, rfl, rfl, h⟩
      | 2, _, qk =>
        replace h := h.2.2.2.1 qk
        refine EW_tabIn (off := 55) (tgt := 82) dX11_called_27 (by rw [qk]; decide) (by rw [qk]; decide) (by rw [qk]; decide) (by decide) ?_
        refine EW_aload_n (pc2 := 83) rfl dX11_called_82 3 rfl ?_
        refine AW_geti ⟨gfRX11_340, rfl⟩ (pc2 := 86) rfl dX11_called_83 (isK.o (isK_of b2)) ?_
        exact AW_iret rfl dX11_called_86 ⟨_, rfl, rfl, h⟩
      | 3, _, qk =>
        replace h := h.2.2.2.2.1 qk
        refine EW_tabIn (off := 60) (tgt := 87) dX11_called_27 (by rw [qk]; decide) (by rw [qk]; decide) (by rw [qk]; decide) (by decide) ?_
        refine EW_aload_n (pc2 := 88) rfl dX11_called_87 3 rfl ?_
        refine AW_geti ⟨gfRX11_341, rfl⟩ (pc2 := 91) rfl dX11_called_88 (isK.o (isK_of b2)) ?_
        exact AW_iret rfl dX11_called_91 ⟨_, rfl, rfl, h⟩
      | 4, _, qk =>
        replace h := h.2.2.2.2.2.1 qk
        refine EW_tabIn (off := 65) (tgt := 92) dX11_called_27 (by rw [qk]; decide) (by rw [qk]; decide) (by rw [qk]; decide) (by decide) ?_
        refine EW_aload_n (pc2 := 93) rfl dX11_called_92 3 rfl ?_
        refine AW_geti ⟨gfRX11_344, rfl⟩ (pc2 := 96) rfl dX11_called_93 (isK.o (isK_of b2)) ?_
        exact AW_iret rfl dX11_called_96 ⟨_, rfl, rfl, h⟩
      | 5, _, qk =>
        replace h := h.2.2.2.2.2.2.1 qk
        refine EW_tabIn (off := 70) (tgt := 97) dX11_called_27 (by rw [qk]; decide) (by rw [qk]; decide) (by rw [qk]; decide) (by decide) ?_
        refine EW_aload_n (pc2 := 98) rfl dX11_called_97 3 rfl ?_
        refine AW_geti ⟨gfRX11_347, rfl⟩ (pc2 := 101) rfl dX11_called_98 (isK.o (isK_of b2)) ?_
        exact AW_iret rfl dX11_called_101 ⟨_, rfl, rfl, h⟩
      | 6, _, qk =>
        replace h := h.2.2.2.2.2.2.2.1 qk
        refine EW_tabIn (off := 75) (tgt := 102) dX11_called_27 (by rw [qk]; decide) (by rw [qk]; decide) (by rw [qk]; decide) (by decide) ?_
        refine EW_aload_n (pc2 := 103) rfl dX11_called_102 3 rfl ?_
        refine AW_geti ⟨gfRX11_350, rfl⟩ (pc2 := 106) rfl dX11_called_103 (isK.o (isK_of b2)) ?_
        exact AW_iret rfl dX11_called_106 ⟨_, rfl, rfl, h⟩
      | 7, _, qk =>
        replace h := h.2.2.2.2.2.2.2.2 qk
        refine EW_tabIn (off := 80) (tgt := 107) dX11_called_27 (by rw [qk]; decide) (by rw [qk]; decide) (by rw [qk]; decide) (by decide) ?_
        refine EW_aload_n (pc2 := 108) rfl dX11_called_107 3 rfl ?_
        refine AW_geti ⟨gfRX11_353, rfl⟩ (pc2 := 111) rfl dX11_called_108 (isK.o (isK_of b2)) ?_
        exact AW_iret rfl dX11_called_111 ⟨_, rfl, rfl, h⟩
      | n9 + 8, hkk, _ => exact absurd hkk (by omega)
  · replace h := h.2 q
    refine EW_iconst (pc2 := 15) (v := (-1)) rfl dX11_called_14 (by decide) ?_
    exact AW_iret rfl dX11_called_15 ⟨_, rfl, rfl, h⟩
theorem gfRX11_464 : ab_L RX11 464 11 9 := ⟨by decide, by decide, ab_in 741 (by decide +kernel) (by decide +kernel)⟩
theorem gfRX11_63 : ab_L RX11 63 11 7 := ⟨by decide, by decide, ab_in 739 (by decide +kernel) (by decide +kernel)⟩
abbrev MX11_hasRow : ab_M := (yX11_hasRow, cX11_hasRow, 2, (some .boolean))
theorem dX11_hasRow_0 : decode cX11_hasRow 0 = .ok (.iload_n 1, 1) := by decide +kernel
theorem dX11_hasRow_1 : decode cX11_hasRow 1 = .ok (.aload_n 0, 1) := by decide +kernel
theorem dX11_hasRow_2 : decode cX11_hasRow 2 = .ok (.getfield 464, 3) := by decide +kernel
theorem dX11_hasRow_5 : decode cX11_hasRow 5 = .ok (.invokestatic 86, 3) := by decide +kernel
theorem dX11_hasRow_8 : decode cX11_hasRow 8 = .ok (.ifCond .eq 16, 3) := by decide +kernel
theorem dX11_hasRow_11 : decode cX11_hasRow 11 = .ok (.aload_n 0, 1) := by decide +kernel
theorem dX11_hasRow_12 : decode cX11_hasRow 12 = .ok (.getfield 63, 3) := by decide +kernel
theorem dX11_hasRow_15 : decode cX11_hasRow 15 = .ok (.iload_n 1, 1) := by decide +kernel
theorem dX11_hasRow_16 : decode cX11_hasRow 16 = .ok (.baload, 1) := by decide +kernel
theorem dX11_hasRow_17 : decode cX11_hasRow 17 = .ok (.ifCond .ne 7, 3) := by decide +kernel
theorem dX11_hasRow_20 : decode cX11_hasRow 20 = .ok (.iconst 1, 1) := by decide +kernel
theorem dX11_hasRow_21 : decode cX11_hasRow 21 = .ok (.goto 4, 3) := by decide +kernel
theorem dX11_hasRow_24 : decode cX11_hasRow 24 = .ok (.iconst 0, 1) := by decide +kernel
theorem dX11_hasRow_25 : decode cX11_hasRow 25 = .ok (.ireturn, 1) := by decide +kernel
theorem okX11_hasRow : ab_okM MX11_hasRow 1 := ⟨by decide, ⟨by decide, by decide⟩, ab_in 1695 (by decide +kernel) (by decide +kernel), ab_in 86 (by decide +kernel) (by decide +kernel), by decide +kernel, by decide⟩
set_option maxHeartbeats 4000000 in
set_option maxRecDepth 100000 in
theorem sX11_hasRow (v1 : Int32)  (x : ab_X) (K : Int32 → Prop) (d bc bs : Nat) (hdp : 1 ≤ d) (h : wX11_hasRow v1 x K) : EW MX11_hasRow 0 [(0, .ref 0), (1, .int v1)] [] (aS x) d bc bs (liP x K) := by
  unfold wX11_hasRow at h
  refine EW_iload_n (pc2 := 1) rfl dX11_hasRow_0 1 rfl ?_
  refine EW_aload_n (pc2 := 2) rfl dX11_hasRow_1 0 rfl ?_
  refine AW_geti ⟨gfRX11_464, rfl⟩ (pc2 := 5) rfl dX11_hasRow_2 q0 ?_
  refine AW_invS (M' := MX11_below) [.int v1, .int (x.1 0 9)] (rest := []) mlRX11_86 okX11_below (pc2 := 8) rfl dX11_hasRow_5 rfl rfl (Nat.le_of_ble_eq_true rfl) (Nat.le_of_ble_eq_true rfl) (d' := 0) (by omega) (EW_mono (fun _ _ hr => ?_) (sX11_below v1 (x.1 0 9)  x _ _ 0 0 (Nat.le_refl _) h))
  obtain ⟨r1, rfl, rfl, h⟩ := hr
  refine EW_if_eq (tgt := 24) (pc2 := 11) rfl dX11_hasRow_8 (by decide) (fun q => ?_) (fun q => ?_)
  · replace h := h.1 q
    refine EW_iconst (pc2 := 25) (v := 0) rfl dX11_hasRow_24 (by decide) ?_
    exact AW_zret rfl isB0 dX11_hasRow_25 ⟨_, rfl, rfl, h⟩
  · replace h := h.2 q
    refine EW_aload_n (pc2 := 12) rfl dX11_hasRow_11 0 rfl ?_
    refine AW_getr (r := 244) ⟨gfRX11_63, rfl⟩ (pc2 := 15) rfl dX11_hasRow_12 q0 rfl ?_
    refine EW_iload_n (pc2 := 16) rfl dX11_hasRow_15 1 rfl ?_
    obtain ⟨b2, h⟩ := h
    refine AW_zald (pc2 := 17) rfl dX11_hasRow_16 q244 b2 ?_
    refine EW_if_ne (tgt := 24) (pc2 := 20) rfl dX11_hasRow_17 (by decide) (fun q => ?_) (fun q => ?_)
    · replace h := h.1 q
      refine EW_iconst (pc2 := 25) (v := 0) rfl dX11_hasRow_24 (by decide) ?_
      exact AW_zret rfl isB0 dX11_hasRow_25 ⟨_, rfl, rfl, h⟩
    · replace h := h.2 q
      refine EW_iconst (pc2 := 21) (v := 1) rfl dX11_hasRow_20 (by decide) ?_
      refine EW_goto (tgt := 25) dX11_hasRow_21 (by decide) ?_
      exact AW_zret rfl isB1 dX11_hasRow_25 ⟨_, rfl, rfl, h⟩
theorem mlRX11_467 : Cond.methodLink RX11 467 yX11_hasRow ∈ ab_G ∧ Cond.instanceMethod yX11_hasRow ∈ ab_G ∧ Cond.selects RX11 yX11_hasRow yX11_hasRow ∈ ab_G := ⟨ab_in 1692 (by decide +kernel) (by decide +kernel), ab_in 1694 (by decide +kernel) (by decide +kernel), ab_in 9 (by decide +kernel) (by decide +kernel)⟩
theorem cnRX11_513 : Cond.constant RX11 513 1048576 ∈ ab_G := ab_in 1717 (by decide +kernel) (by decide +kernel)
abbrev MX11_canJudge : ab_M := (yX11_canJudge, cX11_canJudge, 4, (some .boolean))
theorem dX11_canJudge_0 : decode cX11_canJudge 0 = .ok (.aload_n 0, 1) := by decide +kernel
theorem dX11_canJudge_1 : decode cX11_canJudge 1 = .ok (.iload_n 1, 1) := by decide +kernel
theorem dX11_canJudge_2 : decode cX11_canJudge 2 = .ok (.invokevirtual 467, 3) := by decide +kernel
theorem dX11_canJudge_5 : decode cX11_canJudge 5 = .ok (.ifCond .eq 27, 3) := by decide +kernel
theorem dX11_canJudge_8 : decode cX11_canJudge 8 = .ok (.iload_n 2, 1) := by decide +kernel
theorem dX11_canJudge_9 : decode cX11_canJudge 9 = .ok (.ldc_w 513, 3) := by decide +kernel
theorem dX11_canJudge_12 : decode cX11_canJudge 12 = .ok (.invokestatic 86, 3) := by decide +kernel
theorem dX11_canJudge_15 : decode cX11_canJudge 15 = .ok (.ifCond .eq 17, 3) := by decide +kernel
theorem dX11_canJudge_18 : decode cX11_canJudge 18 = .ok (.iload_n 3, 1) := by decide +kernel
theorem dX11_canJudge_19 : decode cX11_canJudge 19 = .ok (.iconst 0, 1) := by decide +kernel
theorem dX11_canJudge_20 : decode cX11_canJudge 20 = .ok (.bipush 100, 2) := by decide +kernel
theorem dX11_canJudge_22 : decode cX11_canJudge 22 = .ok (.invokestatic 74, 3) := by decide +kernel
theorem dX11_canJudge_25 : decode cX11_canJudge 25 = .ok (.ifCond .eq 7, 3) := by decide +kernel
theorem dX11_canJudge_28 : decode cX11_canJudge 28 = .ok (.iconst 1, 1) := by decide +kernel
theorem dX11_canJudge_29 : decode cX11_canJudge 29 = .ok (.goto 4, 3) := by decide +kernel
theorem dX11_canJudge_32 : decode cX11_canJudge 32 = .ok (.iconst 0, 1) := by decide +kernel
theorem dX11_canJudge_33 : decode cX11_canJudge 33 = .ok (.ireturn, 1) := by decide +kernel
theorem okX11_canJudge : ab_okM MX11_canJudge 3 := ⟨by decide, ⟨by decide, by decide⟩, ab_in 1716 (by decide +kernel) (by decide +kernel), ab_in 86 (by decide +kernel) (by decide +kernel), by decide +kernel, by decide⟩
set_option maxHeartbeats 4000000 in
set_option maxRecDepth 100000 in
theorem sX11_canJudge (v1 : Int32) (v2 : Int32) (v3 : Int32)  (x : ab_X) (K : Int32 → Prop) (d bc bs : Nat) (hdp : 2 ≤ d) (h : wX11_canJudge v1 v2 v3 x K) : EW MX11_canJudge 0 [(0, .ref 0), (1, .int v1), (2, .int v2), (3, .int v3)] [] (aS x) d bc bs (liP x K) := by
  unfold wX11_canJudge at h
  refine EW_aload_n (pc2 := 1) rfl dX11_canJudge_0 0 rfl ?_
  refine EW_iload_n (pc2 := 2) rfl dX11_canJudge_1 1 rfl ?_
  refine AW_invV (M' := MX11_hasRow) [.int v1] (rest := []) mlRX11_467 okX11_hasRow (pc2 := 5) rfl dX11_canJudge_2 rfl rfl (Nat.le_of_ble_eq_true rfl) (Nat.le_of_ble_eq_true rfl) (d' := 1) (by omega) q0 ⟨by decide, rfl⟩ (EW_mono (fun _ _ hr => ?_) (sX11_hasRow v1  x _ _ 0 0 (Nat.le_refl _) h))
  obtain ⟨r1, rfl, rfl, h⟩ := hr
  refine EW_if_eq (tgt := 32) (pc2 := 8) rfl dX11_canJudge_5 (by decide) (fun q => ?_) (fun q => ?_)
  · replace h := h.1 q
    refine EW_iconst (pc2 := 33) (v := 0) rfl dX11_canJudge_32 (by decide) ?_
    exact AW_zret rfl isB0 dX11_canJudge_33 ⟨_, rfl, rfl, h⟩
  · replace h := h.2 q
    refine EW_iload_n (pc2 := 9) rfl dX11_canJudge_8 2 rfl ?_
    refine EW_ldcw cnRX11_513 (pc2 := 12) rfl dX11_canJudge_9 ?_
    refine AW_invS (M' := MX11_below) [.int v2, .int 1048576] (rest := []) mlRX11_86 okX11_below (pc2 := 15) rfl dX11_canJudge_12 rfl rfl (Nat.le_of_ble_eq_true rfl) (Nat.le_of_ble_eq_true rfl) (d' := 0) (by omega) (EW_mono (fun _ _ hr => ?_) (sX11_below v2 1048576  x _ _ 0 0 (Nat.le_refl _) h))
    obtain ⟨r2, rfl, rfl, h⟩ := hr
    refine EW_if_eq (tgt := 32) (pc2 := 18) rfl dX11_canJudge_15 (by decide) (fun q => ?_) (fun q => ?_)
    · replace h := h.1 q
      refine EW_iconst (pc2 := 33) (v := 0) rfl dX11_canJudge_32 (by decide) ?_
      exact AW_zret rfl isB0 dX11_canJudge_33 ⟨_, rfl, rfl, h⟩
    · replace h := h.2 q
      refine EW_iload_n (pc2 := 19) rfl dX11_canJudge_18 3 rfl ?_
      refine EW_iconst (pc2 := 20) (v := 0) rfl dX11_canJudge_19 (by decide) ?_
      refine EW_bipush (pc2 := 22) (v := 100) rfl dX11_canJudge_20 (by decide) ?_
      refine AW_invS (M' := MX11_within) [.int v3, .int 0, .int 100] (rest := []) mlRX11_74 okX11_within (pc2 := 25) rfl dX11_canJudge_22 rfl rfl (Nat.le_of_ble_eq_true rfl) (Nat.le_of_ble_eq_true rfl) (d' := 0) (by omega) (EW_mono (fun _ _ hr => ?_) (sX11_within v3 0 100  x _ _ 0 0 (Nat.le_refl _) h))
      obtain ⟨r3, rfl, rfl, h⟩ := hr
      refine EW_if_eq (tgt := 32) (pc2 := 28) rfl dX11_canJudge_25 (by decide) (fun q => ?_) (fun q => ?_)
      · replace h := h.1 q
        refine EW_iconst (pc2 := 33) (v := 0) rfl dX11_canJudge_32 (by decide) ?_
        exact AW_zret rfl isB0 dX11_canJudge_33 ⟨_, rfl, rfl, h⟩
      · replace h := h.2 q
        refine EW_iconst (pc2 := 29) (v := 1) rfl dX11_canJudge_28 (by decide) ?_
        refine EW_goto (tgt := 33) dX11_canJudge_29 (by decide) ?_
        exact AW_zret rfl isB1 dX11_canJudge_33 ⟨_, rfl, rfl, h⟩
abbrev MX11_isKnown : ab_M := (yX11_isKnown, cX11_isKnown, 3, (some .boolean))
theorem dX11_isKnown_0 : decode cX11_isKnown 0 = .ok (.aload_n 0, 1) := by decide +kernel
theorem dX11_isKnown_1 : decode cX11_isKnown 1 = .ok (.getfield 21, 3) := by decide +kernel
theorem dX11_isKnown_4 : decode cX11_isKnown 4 = .ok (.iload_n 1, 1) := by decide +kernel
theorem dX11_isKnown_5 : decode cX11_isKnown 5 = .ok (.invokevirtual 124, 3) := by decide +kernel
theorem dX11_isKnown_8 : decode cX11_isKnown 8 = .ok (.ifCond .eq 22, 3) := by decide +kernel
theorem dX11_isKnown_11 : decode cX11_isKnown 11 = .ok (.iload_n 2, 1) := by decide +kernel
theorem dX11_isKnown_12 : decode cX11_isKnown 12 = .ok (.iconst 0, 1) := by decide +kernel
theorem dX11_isKnown_13 : decode cX11_isKnown 13 = .ok (.aload_n 0, 1) := by decide +kernel
theorem dX11_isKnown_14 : decode cX11_isKnown 14 = .ok (.getfield 30, 3) := by decide +kernel
theorem dX11_isKnown_17 : decode cX11_isKnown 17 = .ok (.getfield 400, 3) := by decide +kernel
theorem dX11_isKnown_20 : decode cX11_isKnown 20 = .ok (.invokestatic 74, 3) := by decide +kernel
theorem dX11_isKnown_23 : decode cX11_isKnown 23 = .ok (.ifCond .eq 7, 3) := by decide +kernel
theorem dX11_isKnown_26 : decode cX11_isKnown 26 = .ok (.iconst 1, 1) := by decide +kernel
theorem dX11_isKnown_27 : decode cX11_isKnown 27 = .ok (.goto 4, 3) := by decide +kernel
theorem dX11_isKnown_30 : decode cX11_isKnown 30 = .ok (.iconst 0, 1) := by decide +kernel
theorem dX11_isKnown_31 : decode cX11_isKnown 31 = .ok (.ireturn, 1) := by decide +kernel
theorem okX11_isKnown : ab_okM MX11_isKnown 2 := ⟨by decide, ⟨by decide, by decide⟩, ab_in 1526 (by decide +kernel) (by decide +kernel), ab_in 86 (by decide +kernel) (by decide +kernel), by decide +kernel, by decide⟩
set_option maxHeartbeats 4000000 in
set_option maxRecDepth 100000 in
theorem sX11_isKnown (v1 : Int32) (v2 : Int32)  (x : ab_X) (K : Int32 → Prop) (d bc bs : Nat) (hdp : 2 ≤ d) (h : wX11_isKnown v1 v2 x K) : EW MX11_isKnown 0 [(0, .ref 0), (1, .int v1), (2, .int v2)] [] (aS x) d bc bs (liP x K) := by
  unfold wX11_isKnown at h
  refine EW_aload_n (pc2 := 1) rfl dX11_isKnown_0 0 rfl ?_
  refine AW_getr (r := 9) ⟨gfRX11_21, rfl⟩ (pc2 := 4) rfl dX11_isKnown_1 q0 rfl ?_
  refine EW_iload_n (pc2 := 5) rfl dX11_isKnown_4 1 rfl ?_
  refine AW_invV (M' := MX10_has) [.int v1] (rest := []) mlRX11_124 okX10_has (pc2 := 8) rfl dX11_isKnown_5 rfl rfl (Nat.le_of_ble_eq_true rfl) (Nat.le_of_ble_eq_true rfl) (d' := 1) (by omega) q9 ⟨by decide, rfl⟩ (EW_mono (fun _ _ hr => ?_) (sX10_has v1  x _ _ 0 0 (Nat.le_refl _) h))
  obtain ⟨r1, rfl, rfl, h⟩ := hr
  refine EW_if_eq (tgt := 30) (pc2 := 11) rfl dX11_isKnown_8 (by decide) (fun q => ?_) (fun q => ?_)
  · replace h := h.1 q
    refine EW_iconst (pc2 := 31) (v := 0) rfl dX11_isKnown_30 (by decide) ?_
    exact AW_zret rfl isB0 dX11_isKnown_31 ⟨_, rfl, rfl, h⟩
  · replace h := h.2 q
    refine EW_iload_n (pc2 := 12) rfl dX11_isKnown_11 2 rfl ?_
    refine EW_iconst (pc2 := 13) (v := 0) rfl dX11_isKnown_12 (by decide) ?_
    refine EW_aload_n (pc2 := 14) rfl dX11_isKnown_13 0 rfl ?_
    refine AW_getr (r := 66) ⟨gfRX11_30, rfl⟩ (pc2 := 17) rfl dX11_isKnown_14 q0 rfl ?_
    refine AW_geti ⟨gfRX11_400, rfl⟩ (pc2 := 20) rfl dX11_isKnown_17 q66 ?_
    refine AW_invS (M' := MX11_within) [.int v2, .int 0, .int (x.1 66 12)] (rest := []) mlRX11_74 okX11_within (pc2 := 23) rfl dX11_isKnown_20 rfl rfl (Nat.le_of_ble_eq_true rfl) (Nat.le_of_ble_eq_true rfl) (d' := 0) (by omega) (EW_mono (fun _ _ hr => ?_) (sX11_within v2 0 (x.1 66 12)  x _ _ 0 0 (Nat.le_refl _) h))
    obtain ⟨r2, rfl, rfl, h⟩ := hr
    refine EW_if_eq (tgt := 30) (pc2 := 26) rfl dX11_isKnown_23 (by decide) (fun q => ?_) (fun q => ?_)
    · replace h := h.1 q
      refine EW_iconst (pc2 := 31) (v := 0) rfl dX11_isKnown_30 (by decide) ?_
      exact AW_zret rfl isB0 dX11_isKnown_31 ⟨_, rfl, rfl, h⟩
    · replace h := h.2 q
      refine EW_iconst (pc2 := 27) (v := 1) rfl dX11_isKnown_26 (by decide) ?_
      refine EW_goto (tgt := 31) dX11_isKnown_27 (by decide) ?_
      exact AW_zret rfl isB1 dX11_isKnown_31 ⟨_, rfl, rfl, h⟩
theorem gfRX5_50 : ab_L RX5 50 5 9 := ⟨by decide, by decide, ab_in 640 (by decide +kernel) (by decide +kernel)⟩
theorem gfRX5_24 : ab_L RX5 24 5 5 := ⟨by decide, by decide, ab_in 636 (by decide +kernel) (by decide +kernel)⟩
theorem gfRX5_27 : ab_L RX5 27 5 6 := ⟨by decide, by decide, ab_in 637 (by decide +kernel) (by decide +kernel)⟩
theorem gfRX5_30 : ab_L RX5 30 5 7 := ⟨by decide, by decide, ab_in 638 (by decide +kernel) (by decide +kernel)⟩
theorem gfRX5_33 : ab_L RX5 33 5 8 := ⟨by decide, by decide, ab_in 639 (by decide +kernel) (by decide +kernel)⟩
abbrev MX5_tell : ab_M := (yX5_tell, cX5_tell, 5, (some .boolean))
theorem dX5_tell_0 : decode cX5_tell 0 = .ok (.aload_n 0, 1) := by decide +kernel
theorem dX5_tell_1 : decode cX5_tell 1 = .ok (.getfield 50, 3) := by decide +kernel
theorem dX5_tell_4 : decode cX5_tell 4 = .ok (.bipush 100, 2) := by decide +kernel
theorem dX5_tell_6 : decode cX5_tell 6 = .ok (.if_icmp .lt 5, 3) := by decide +kernel
theorem dX5_tell_9 : decode cX5_tell 9 = .ok (.iconst 0, 1) := by decide +kernel
theorem dX5_tell_10 : decode cX5_tell 10 = .ok (.ireturn, 1) := by decide +kernel
theorem dX5_tell_11 : decode cX5_tell 11 = .ok (.aload_n 0, 1) := by decide +kernel
theorem dX5_tell_12 : decode cX5_tell 12 = .ok (.getfield 24, 3) := by decide +kernel
theorem dX5_tell_15 : decode cX5_tell 15 = .ok (.aload_n 0, 1) := by decide +kernel
theorem dX5_tell_16 : decode cX5_tell 16 = .ok (.getfield 50, 3) := by decide +kernel
theorem dX5_tell_19 : decode cX5_tell 19 = .ok (.iload_n 1, 1) := by decide +kernel
theorem dX5_tell_20 : decode cX5_tell 20 = .ok (.iastore, 1) := by decide +kernel
theorem dX5_tell_21 : decode cX5_tell 21 = .ok (.aload_n 0, 1) := by decide +kernel
theorem dX5_tell_22 : decode cX5_tell 22 = .ok (.getfield 27, 3) := by decide +kernel
theorem dX5_tell_25 : decode cX5_tell 25 = .ok (.aload_n 0, 1) := by decide +kernel
theorem dX5_tell_26 : decode cX5_tell 26 = .ok (.getfield 50, 3) := by decide +kernel
theorem dX5_tell_29 : decode cX5_tell 29 = .ok (.iload_n 2, 1) := by decide +kernel
theorem dX5_tell_30 : decode cX5_tell 30 = .ok (.iastore, 1) := by decide +kernel
theorem dX5_tell_31 : decode cX5_tell 31 = .ok (.aload_n 0, 1) := by decide +kernel
theorem dX5_tell_32 : decode cX5_tell 32 = .ok (.getfield 30, 3) := by decide +kernel
theorem dX5_tell_35 : decode cX5_tell 35 = .ok (.aload_n 0, 1) := by decide +kernel
theorem dX5_tell_36 : decode cX5_tell 36 = .ok (.getfield 50, 3) := by decide +kernel
theorem dX5_tell_39 : decode cX5_tell 39 = .ok (.iload_n 3, 1) := by decide +kernel
theorem dX5_tell_40 : decode cX5_tell 40 = .ok (.iastore, 1) := by decide +kernel
theorem dX5_tell_41 : decode cX5_tell 41 = .ok (.aload_n 0, 1) := by decide +kernel
theorem dX5_tell_42 : decode cX5_tell 42 = .ok (.getfield 33, 3) := by decide +kernel
theorem dX5_tell_45 : decode cX5_tell 45 = .ok (.aload_n 0, 1) := by decide +kernel
theorem dX5_tell_46 : decode cX5_tell 46 = .ok (.getfield 50, 3) := by decide +kernel
theorem dX5_tell_49 : decode cX5_tell 49 = .ok (.iload 4, 2) := by decide +kernel
theorem dX5_tell_51 : decode cX5_tell 51 = .ok (.iastore, 1) := by decide +kernel
theorem dX5_tell_52 : decode cX5_tell 52 = .ok (.aload_n 0, 1) := by decide +kernel
theorem dX5_tell_53 : decode cX5_tell 53 = .ok (.dup, 1) := by decide +kernel
theorem dX5_tell_54 : decode cX5_tell 54 = .ok (.getfield 50, 3) := by decide +kernel
theorem dX5_tell_57 : decode cX5_tell 57 = .ok (.iconst 1, 1) := by decide +kernel
theorem dX5_tell_58 : decode cX5_tell 58 = .ok (.iadd, 1) := by decide +kernel
theorem dX5_tell_59 : decode cX5_tell 59 = .ok (.putfield 50, 3) := by decide +kernel
theorem dX5_tell_62 : decode cX5_tell 62 = .ok (.iconst 1, 1) := by decide +kernel
theorem dX5_tell_63 : decode cX5_tell 63 = .ok (.ireturn, 1) := by decide +kernel
theorem okX5_tell : ab_okM MX5_tell 4 := ⟨by decide, ⟨by decide, by decide⟩, ab_in 1538 (by decide +kernel) (by decide +kernel), ab_in 97 (by decide +kernel) (by decide +kernel), by decide +kernel, by decide⟩
set_option maxHeartbeats 4000000 in
set_option maxRecDepth 100000 in
theorem sX5_tell (v1 : Int32) (v2 : Int32) (v3 : Int32) (v4 : Int32)  (x : ab_X) (K : Int32 → ab_X → Prop) (d bc bs : Nat) (hdp : 0 ≤ d) (h : wX5_tell v1 v2 v3 v4 x K) : EW MX5_tell 0 [(0, .ref 165), (1, .int v1), (2, .int v2), (3, .int v3), (4, .int v4)] [] (aS x) d bc bs (liI K) := by
  unfold wX5_tell at h
  refine EW_aload_n (pc2 := 1) rfl dX5_tell_0 0 rfl ?_
  refine AW_geti ⟨gfRX5_50, rfl⟩ (pc2 := 4) rfl dX5_tell_1 q165 ?_
  refine EW_bipush (pc2 := 6) (v := 100) rfl dX5_tell_4 (by decide) ?_
  refine EW_icmp_lt (tgt := 11) (pc2 := 9) rfl dX5_tell_6 (by decide) (fun q => ?_) (fun q => ?_)
  · replace h := h.1 q
    refine EW_aload_n (pc2 := 12) rfl dX5_tell_11 0 rfl ?_
    refine AW_getr (r := 169) ⟨gfRX5_24, rfl⟩ (pc2 := 15) rfl dX5_tell_12 q165 rfl ?_
    refine EW_aload_n (pc2 := 16) rfl dX5_tell_15 0 rfl ?_
    refine AW_geti ⟨gfRX5_50, rfl⟩ (pc2 := 19) rfl dX5_tell_16 q165 ?_
    refine EW_iload_n (pc2 := 20) rfl dX5_tell_19 1 rfl ?_
    obtain ⟨b1, h⟩ := h
    refine AW_iast (pc2 := 21) rfl dX5_tell_20 q169 b1 ?_
    refine EW_aload_n (pc2 := 22) rfl dX5_tell_21 0 rfl ?_
    refine AW_getr (r := 170) ⟨gfRX5_27, rfl⟩ (pc2 := 25) rfl dX5_tell_22 q165 rfl ?_
    refine EW_aload_n (pc2 := 26) rfl dX5_tell_25 0 rfl ?_
    refine AW_geti ⟨gfRX5_50, rfl⟩ (pc2 := 29) rfl dX5_tell_26 q165 ?_
    refine EW_iload_n (pc2 := 30) rfl dX5_tell_29 2 rfl ?_
    obtain ⟨b2, h⟩ := h
    refine AW_iast (pc2 := 31) rfl dX5_tell_30 q170 b2 ?_
    refine EW_aload_n (pc2 := 32) rfl dX5_tell_31 0 rfl ?_
    refine AW_getr (r := 171) ⟨gfRX5_30, rfl⟩ (pc2 := 35) rfl dX5_tell_32 q165 rfl ?_
    refine EW_aload_n (pc2 := 36) rfl dX5_tell_35 0 rfl ?_
    refine AW_geti ⟨gfRX5_50, rfl⟩ (pc2 := 39) rfl dX5_tell_36 q165 ?_
    refine EW_iload_n (pc2 := 40) rfl dX5_tell_39 3 rfl ?_
    obtain ⟨b3, h⟩ := h
    refine AW_iast (pc2 := 41) rfl dX5_tell_40 q171 b3 ?_
    refine EW_aload_n (pc2 := 42) rfl dX5_tell_41 0 rfl ?_
    refine AW_getr (r := 172) ⟨gfRX5_33, rfl⟩ (pc2 := 45) rfl dX5_tell_42 q165 rfl ?_
    refine EW_aload_n (pc2 := 46) rfl dX5_tell_45 0 rfl ?_
    refine AW_geti ⟨gfRX5_50, rfl⟩ (pc2 := 49) rfl dX5_tell_46 q165 ?_
    refine EW_iload (pc2 := 51) rfl dX5_tell_49 4 rfl ?_
    obtain ⟨b4, h⟩ := h
    refine AW_iast (pc2 := 52) rfl dX5_tell_51 q172 b4 ?_
    refine EW_aload_n (pc2 := 53) rfl dX5_tell_52 0 rfl ?_
    refine EW_dup (pc2 := 54) rfl dX5_tell_53 rfl ?_
    refine AW_geti ⟨gfRX5_50, rfl⟩ (pc2 := 57) rfl dX5_tell_54 q165 ?_
    refine EW_iconst (pc2 := 58) (v := 1) rfl dX5_tell_57 (by decide) ?_
    refine EW_iadd (pc2 := 59) rfl dX5_tell_58 ?_
    refine AW_puti ⟨gfRX5_50, rfl, rfl⟩ (pc2 := 62) rfl dX5_tell_59 q165 ?_
    refine EW_iconst (pc2 := 63) (v := 1) rfl dX5_tell_62 (by decide) ?_
    exact AW_zret rfl isB1 dX5_tell_63 ⟨_, _, rfl, rfl, h⟩
  · replace h := h.2 q
    refine EW_iconst (pc2 := 10) (v := 0) rfl dX5_tell_9 (by decide) ?_
    exact AW_zret rfl isB0 dX5_tell_10 ⟨_, _, rfl, rfl, h⟩
theorem mlRX11_416 : Cond.methodLink RX11 416 yX11_isKnown ∈ ab_G ∧ Cond.instanceMethod yX11_isKnown ∈ ab_G ∧ Cond.selects RX11 yX11_isKnown yX11_isKnown ∈ ab_G := ⟨ab_in 1523 (by decide +kernel) (by decide +kernel), ab_in 1525 (by decide +kernel) (by decide +kernel), ab_in 7 (by decide +kernel) (by decide +kernel)⟩
theorem mlRX11_422 : Cond.methodLink RX11 422 yX5_tell ∈ ab_G ∧ Cond.instanceMethod yX5_tell ∈ ab_G ∧ Cond.selects RX5 yX5_tell yX5_tell ∈ ab_G := ⟨ab_in 1535 (by decide +kernel) (by decide +kernel), ab_in 1536 (by decide +kernel) (by decide +kernel), ab_in 1537 (by decide +kernel) (by decide +kernel)⟩
abbrev MX11_change : ab_M := (yX11_change, cX11_change, 4, (some .boolean))
theorem dX11_change_0 : decode cX11_change 0 = .ok (.aload_n 0, 1) := by decide +kernel
theorem dX11_change_1 : decode cX11_change 1 = .ok (.iload_n 1, 1) := by decide +kernel
theorem dX11_change_2 : decode cX11_change 2 = .ok (.iload_n 3, 1) := by decide +kernel
theorem dX11_change_3 : decode cX11_change 3 = .ok (.invokevirtual 416, 3) := by decide +kernel
theorem dX11_change_6 : decode cX11_change 6 = .ok (.ifCond .eq 13, 3) := by decide +kernel
theorem dX11_change_9 : decode cX11_change 9 = .ok (.iload_n 2, 1) := by decide +kernel
theorem dX11_change_10 : decode cX11_change 10 = .ok (.iconst 0, 1) := by decide +kernel
theorem dX11_change_11 : decode cX11_change 11 = .ok (.bipush 9, 2) := by decide +kernel
theorem dX11_change_13 : decode cX11_change 13 = .ok (.invokestatic 74, 3) := by decide +kernel
theorem dX11_change_16 : decode cX11_change 16 = .ok (.ifCond .ne 5, 3) := by decide +kernel
theorem dX11_change_19 : decode cX11_change 19 = .ok (.iconst 0, 1) := by decide +kernel
theorem dX11_change_20 : decode cX11_change 20 = .ok (.ireturn, 1) := by decide +kernel
theorem dX11_change_21 : decode cX11_change 21 = .ok (.aload_n 0, 1) := by decide +kernel
theorem dX11_change_22 : decode cX11_change 22 = .ok (.getfield 46, 3) := by decide +kernel
theorem dX11_change_25 : decode cX11_change 25 = .ok (.iload_n 1, 1) := by decide +kernel
theorem dX11_change_26 : decode cX11_change 26 = .ok (.aload_n 0, 1) := by decide +kernel
theorem dX11_change_27 : decode cX11_change 27 = .ok (.getfield 30, 3) := by decide +kernel
theorem dX11_change_30 : decode cX11_change 30 = .ok (.getfield 400, 3) := by decide +kernel
theorem dX11_change_33 : decode cX11_change 33 = .ok (.iload_n 2, 1) := by decide +kernel
theorem dX11_change_34 : decode cX11_change 34 = .ok (.iload_n 3, 1) := by decide +kernel
theorem dX11_change_35 : decode cX11_change 35 = .ok (.invokevirtual 422, 3) := by decide +kernel
theorem dX11_change_38 : decode cX11_change 38 = .ok (.ireturn, 1) := by decide +kernel
theorem okX11_change : ab_okM MX11_change 3 := ⟨by decide, ⟨by decide, by decide⟩, ab_in 1534 (by decide +kernel) (by decide +kernel), ab_in 86 (by decide +kernel) (by decide +kernel), by decide +kernel, by decide⟩
set_option maxHeartbeats 4000000 in
set_option maxRecDepth 100000 in
theorem sX11_change (v1 : Int32) (v2 : Int32) (v3 : Int32)  (x : ab_X) (K : Int32 → ab_X → Prop) (d bc bs : Nat) (hdp : 3 ≤ d) (h : wX11_change v1 v2 v3 x K) : EW MX11_change 0 [(0, .ref 0), (1, .int v1), (2, .int v2), (3, .int v3)] [] (aS x) d bc bs (liI K) := by
  unfold wX11_change at h
  refine EW_aload_n (pc2 := 1) rfl dX11_change_0 0 rfl ?_
  refine EW_iload_n (pc2 := 2) rfl dX11_change_1 1 rfl ?_
  refine EW_iload_n (pc2 := 3) rfl dX11_change_2 3 rfl ?_
  refine AW_invV (M' := MX11_isKnown) [.int v1, .int v3] (rest := []) mlRX11_416 okX11_isKnown (pc2 := 6) rfl dX11_change_3 rfl rfl (Nat.le_of_ble_eq_true rfl) (Nat.le_of_ble_eq_true rfl) (d' := 2) (by omega) q0 ⟨by decide, rfl⟩ (EW_mono (fun _ _ hr => ?_) (sX11_isKnown v1 v3  x _ _ 0 0 (Nat.le_refl _) h))
  obtain ⟨r1, rfl, rfl, h⟩ := hr
  refine EW_if_eq (tgt := 19) (pc2 := 9) rfl dX11_change_6 (by decide) (fun q => ?_) (fun q => ?_)
  · replace h := h.1 q
    refine EW_iconst (pc2 := 20) (v := 0) rfl dX11_change_19 (by decide) ?_
    exact AW_zret rfl isB0 dX11_change_20 ⟨_, _, rfl, rfl, h⟩
  · replace h := h.2 q
    refine EW_iload_n (pc2 := 10) rfl dX11_change_9 2 rfl ?_
    refine EW_iconst (pc2 := 11) (v := 0) rfl dX11_change_10 (by decide) ?_
    refine EW_bipush (pc2 := 13) (v := 9) rfl dX11_change_11 (by decide) ?_
    refine AW_invS (M' := MX11_within) [.int v2, .int 0, .int 9] (rest := []) mlRX11_74 okX11_within (pc2 := 16) rfl dX11_change_13 rfl rfl (Nat.le_of_ble_eq_true rfl) (Nat.le_of_ble_eq_true rfl) (d' := 0) (by omega) (EW_mono (fun _ _ hr => ?_) (sX11_within v2 0 9  x _ _ 0 0 (Nat.le_refl _) h))
    obtain ⟨r2, rfl, rfl, h⟩ := hr
    refine EW_if_ne (tgt := 21) (pc2 := 19) rfl dX11_change_16 (by decide) (fun q => ?_) (fun q => ?_)
    · replace h := h.1 q
      refine EW_aload_n (pc2 := 22) rfl dX11_change_21 0 rfl ?_
      refine AW_getr (r := 165) ⟨gfRX11_46, rfl⟩ (pc2 := 25) rfl dX11_change_22 q0 rfl ?_
      refine EW_iload_n (pc2 := 26) rfl dX11_change_25 1 rfl ?_
      refine EW_aload_n (pc2 := 27) rfl dX11_change_26 0 rfl ?_
      refine AW_getr (r := 66) ⟨gfRX11_30, rfl⟩ (pc2 := 30) rfl dX11_change_27 q0 rfl ?_
      refine AW_geti ⟨gfRX11_400, rfl⟩ (pc2 := 33) rfl dX11_change_30 q66 ?_
      refine EW_iload_n (pc2 := 34) rfl dX11_change_33 2 rfl ?_
      refine EW_iload_n (pc2 := 35) rfl dX11_change_34 3 rfl ?_
      refine AW_invV (M' := MX5_tell) [.int v1, .int (x.1 66 12), .int v2, .int v3] (rest := []) mlRX11_422 okX5_tell (pc2 := 38) rfl dX11_change_35 rfl rfl (Nat.le_of_ble_eq_true rfl) (Nat.le_of_ble_eq_true rfl) (d' := 0) (by omega) q165 ⟨by decide, rfl⟩ (EW_mono (fun _ _ hr => ?_) (sX5_tell v1 (x.1 66 12) v2 v3  x _ _ 0 0 (Nat.le_refl _) h))
      obtain ⟨r3, x4, rfl, rfl, h⟩ := hr
      obtain ⟨z5, h⟩ := h
      exact AW_zret rfl z5 dX11_change_38 ⟨_, _, rfl, rfl, h⟩
    · replace h := h.2 q
      refine EW_iconst (pc2 := 20) (v := 0) rfl dX11_change_19 (by decide) ?_
      exact AW_zret rfl isB0 dX11_change_20 ⟨_, _, rfl, rfl, h⟩
theorem gfRX11_12 : ab_L RX11 12 11 0 := ⟨by decide, by decide, ab_in 732 (by decide +kernel) (by decide +kernel)⟩
theorem gfRX11_82 : ab_L RX11 82 6 7 := ⟨by decide, by decide, ab_in 141 (by decide +kernel) (by decide +kernel)⟩
theorem gfRX11_93 : ab_L RX11 93 6 3 := ⟨by decide, by decide, ab_in 135 (by decide +kernel) (by decide +kernel)⟩
abbrev MX11_closed : ab_M := (yX11_closed, cX11_closed, 3, (some .boolean))
theorem dX11_closed_0 : decode cX11_closed 0 = .ok (.iload_n 1, 1) := by decide +kernel
theorem dX11_closed_1 : decode cX11_closed 1 = .ok (.aload_n 0, 1) := by decide +kernel
theorem dX11_closed_2 : decode cX11_closed 2 = .ok (.getfield 12, 3) := by decide +kernel
theorem dX11_closed_5 : decode cX11_closed 5 = .ok (.getfield 82, 3) := by decide +kernel
theorem dX11_closed_8 : decode cX11_closed 8 = .ok (.invokestatic 86, 3) := by decide +kernel
theorem dX11_closed_11 : decode cX11_closed 11 = .ok (.ifCond .eq 16, 3) := by decide +kernel
theorem dX11_closed_14 : decode cX11_closed 14 = .ok (.aload_n 0, 1) := by decide +kernel
theorem dX11_closed_15 : decode cX11_closed 15 = .ok (.getfield 12, 3) := by decide +kernel
theorem dX11_closed_18 : decode cX11_closed 18 = .ok (.getfield 93, 3) := by decide +kernel
theorem dX11_closed_21 : decode cX11_closed 21 = .ok (.iload_n 1, 1) := by decide +kernel
theorem dX11_closed_22 : decode cX11_closed 22 = .ok (.baload, 1) := by decide +kernel
theorem dX11_closed_23 : decode cX11_closed 23 = .ok (.iload_n 2, 1) := by decide +kernel
theorem dX11_closed_24 : decode cX11_closed 24 = .ok (.if_icmp .ne 5, 3) := by decide +kernel
theorem dX11_closed_27 : decode cX11_closed 27 = .ok (.iconst 0, 1) := by decide +kernel
theorem dX11_closed_28 : decode cX11_closed 28 = .ok (.ireturn, 1) := by decide +kernel
theorem dX11_closed_29 : decode cX11_closed 29 = .ok (.aload_n 0, 1) := by decide +kernel
theorem dX11_closed_30 : decode cX11_closed 30 = .ok (.getfield 12, 3) := by decide +kernel
theorem dX11_closed_33 : decode cX11_closed 33 = .ok (.getfield 93, 3) := by decide +kernel
theorem dX11_closed_36 : decode cX11_closed 36 = .ok (.iload_n 1, 1) := by decide +kernel
theorem dX11_closed_37 : decode cX11_closed 37 = .ok (.iload_n 2, 1) := by decide +kernel
theorem dX11_closed_38 : decode cX11_closed 38 = .ok (.bastore, 1) := by decide +kernel
theorem dX11_closed_39 : decode cX11_closed 39 = .ok (.iconst 1, 1) := by decide +kernel
theorem dX11_closed_40 : decode cX11_closed 40 = .ok (.ireturn, 1) := by decide +kernel
theorem okX11_closed : ab_okM MX11_closed 2 := ⟨by decide, ⟨by decide, by decide⟩, ab_in 799 (by decide +kernel) (by decide +kernel), ab_in 86 (by decide +kernel) (by decide +kernel), by decide +kernel, by decide⟩
set_option maxHeartbeats 4000000 in
set_option maxRecDepth 100000 in
theorem sX11_closed (v1 : Int32) (v2 : Int32)  (x : ab_X) (K : Int32 → ab_X → Prop) (d bc bs : Nat) (hdp : 1 ≤ d) (h : wX11_closed v1 v2 x K) : EW MX11_closed 0 [(0, .ref 0), (1, .int v1), (2, .int v2)] [] (aS x) d bc bs (liI K) := by
  unfold wX11_closed at h
  refine EW_iload_n (pc2 := 1) rfl dX11_closed_0 1 rfl ?_
  refine EW_aload_n (pc2 := 2) rfl dX11_closed_1 0 rfl ?_
  refine AW_getr (r := 1) ⟨gfRX11_12, rfl⟩ (pc2 := 5) rfl dX11_closed_2 q0 rfl ?_
  refine AW_geti ⟨gfRX11_82, rfl⟩ (pc2 := 8) rfl dX11_closed_5 q1 ?_
  refine AW_invS (M' := MX11_below) [.int v1, .int (x.1 1 7)] (rest := []) mlRX11_86 okX11_below (pc2 := 11) rfl dX11_closed_8 rfl rfl (Nat.le_of_ble_eq_true rfl) (Nat.le_of_ble_eq_true rfl) (d' := 0) (by omega) (EW_mono (fun _ _ hr => ?_) (sX11_below v1 (x.1 1 7)  x _ _ 0 0 (Nat.le_refl _) h))
  obtain ⟨r1, rfl, rfl, h⟩ := hr
  refine EW_if_eq (tgt := 27) (pc2 := 14) rfl dX11_closed_11 (by decide) (fun q => ?_) (fun q => ?_)
  · replace h := h.1 q
    refine EW_iconst (pc2 := 28) (v := 0) rfl dX11_closed_27 (by decide) ?_
    exact AW_zret rfl isB0 dX11_closed_28 ⟨_, _, rfl, rfl, h⟩
  · replace h := h.2 q
    refine EW_aload_n (pc2 := 15) rfl dX11_closed_14 0 rfl ?_
    refine AW_getr (r := 1) ⟨gfRX11_12, rfl⟩ (pc2 := 18) rfl dX11_closed_15 q0 rfl ?_
    refine AW_getr (r := 5) ⟨gfRX11_93, rfl⟩ (pc2 := 21) rfl dX11_closed_18 q1 rfl ?_
    refine EW_iload_n (pc2 := 22) rfl dX11_closed_21 1 rfl ?_
    obtain ⟨b2, h⟩ := h
    refine AW_zald (pc2 := 23) rfl dX11_closed_22 q5 b2 ?_
    refine EW_iload_n (pc2 := 24) rfl dX11_closed_23 2 rfl ?_
    refine EW_icmp_ne (tgt := 29) (pc2 := 27) rfl dX11_closed_24 (by decide) (fun q => ?_) (fun q => ?_)
    · replace h := h.1 q
      refine EW_aload_n (pc2 := 30) rfl dX11_closed_29 0 rfl ?_
      refine AW_getr (r := 1) ⟨gfRX11_12, rfl⟩ (pc2 := 33) rfl dX11_closed_30 q0 rfl ?_
      refine AW_getr (r := 5) ⟨gfRX11_93, rfl⟩ (pc2 := 36) rfl dX11_closed_33 q1 rfl ?_
      refine EW_iload_n (pc2 := 37) rfl dX11_closed_36 1 rfl ?_
      refine EW_iload_n (pc2 := 38) rfl dX11_closed_37 2 rfl ?_
      obtain ⟨b3, h⟩ := h
      obtain ⟨z4, h⟩ := h
      refine AW_zast (pc2 := 39) rfl dX11_closed_38 q5 b3 z4 ?_
      refine EW_iconst (pc2 := 40) (v := 1) rfl dX11_closed_39 (by decide) ?_
      exact AW_zret rfl isB1 dX11_closed_40 ⟨_, _, rfl, rfl, h⟩
    · replace h := h.2 q
      refine EW_iconst (pc2 := 28) (v := 0) rfl dX11_closed_27 (by decide) ?_
      exact AW_zret rfl isB0 dX11_closed_28 ⟨_, _, rfl, rfl, h⟩
theorem gfRX5_41 : ab_L RX5 41 5 0 := ⟨by decide, by decide, ab_in 629 (by decide +kernel) (by decide +kernel)⟩
theorem gfRX5_53 : ab_L RX5 53 10 1 := ⟨by decide, by decide, ab_in 310 (by decide +kernel) (by decide +kernel)⟩
theorem gfRX5_59 : ab_L RX5 59 4 8 := ⟨by decide, by decide, ab_in 247 (by decide +kernel) (by decide +kernel)⟩
abbrev MX5_actFor : ab_M := (yX5_actFor, cX5_actFor, 6, (some .int))
theorem dX5_actFor_0 : decode cX5_actFor 0 = .ok (.iconst (-1), 1) := by decide +kernel
theorem dX5_actFor_1 : decode cX5_actFor 1 = .ok (.istore_n 3, 1) := by decide +kernel
theorem dX5_actFor_2 : decode cX5_actFor 2 = .ok (.iconst 0, 1) := by decide +kernel
theorem dX5_actFor_3 : decode cX5_actFor 3 = .ok (.istore 4, 2) := by decide +kernel
theorem dX5_actFor_5 : decode cX5_actFor 5 = .ok (.iload 4, 2) := by decide +kernel
theorem dX5_actFor_7 : decode cX5_actFor 7 = .ok (.aload_n 0, 1) := by decide +kernel
theorem dX5_actFor_8 : decode cX5_actFor 8 = .ok (.getfield 46, 3) := by decide +kernel
theorem dX5_actFor_11 : decode cX5_actFor 11 = .ok (.if_icmp .ge 78, 3) := by decide +kernel
theorem dX5_actFor_14 : decode cX5_actFor 14 = .ok (.aload_n 0, 1) := by decide +kernel
theorem dX5_actFor_15 : decode cX5_actFor 15 = .ok (.getfield 21, 3) := by decide +kernel
theorem dX5_actFor_18 : decode cX5_actFor 18 = .ok (.iload 4, 2) := by decide +kernel
theorem dX5_actFor_20 : decode cX5_actFor 20 = .ok (.iaload, 1) := by decide +kernel
theorem dX5_actFor_21 : decode cX5_actFor 21 = .ok (.iload_n 2, 1) := by decide +kernel
theorem dX5_actFor_22 : decode cX5_actFor 22 = .ok (.if_icmp .gt 29, 3) := by decide +kernel
theorem dX5_actFor_25 : decode cX5_actFor 25 = .ok (.aload_n 0, 1) := by decide +kernel
theorem dX5_actFor_26 : decode cX5_actFor 26 = .ok (.getfield 17, 3) := by decide +kernel
theorem dX5_actFor_29 : decode cX5_actFor 29 = .ok (.iload 4, 2) := by decide +kernel
theorem dX5_actFor_31 : decode cX5_actFor 31 = .ok (.iaload, 1) := by decide +kernel
theorem dX5_actFor_32 : decode cX5_actFor 32 = .ok (.aload_n 0, 1) := by decide +kernel
theorem dX5_actFor_33 : decode cX5_actFor 33 = .ok (.getfield 41, 3) := by decide +kernel
theorem dX5_actFor_36 : decode cX5_actFor 36 = .ok (.getfield 53, 3) := by decide +kernel
theorem dX5_actFor_39 : decode cX5_actFor 39 = .ok (.iload_n 1, 1) := by decide +kernel
theorem dX5_actFor_40 : decode cX5_actFor 40 = .ok (.aaload, 1) := by decide +kernel
theorem dX5_actFor_41 : decode cX5_actFor 41 = .ok (.getfield 59, 3) := by decide +kernel
theorem dX5_actFor_44 : decode cX5_actFor 44 = .ok (.if_icmp .gt 7, 3) := by decide +kernel
theorem dX5_actFor_47 : decode cX5_actFor 47 = .ok (.iconst 1, 1) := by decide +kernel
theorem dX5_actFor_48 : decode cX5_actFor 48 = .ok (.goto 4, 3) := by decide +kernel
theorem dX5_actFor_51 : decode cX5_actFor 51 = .ok (.iconst 0, 1) := by decide +kernel
theorem dX5_actFor_52 : decode cX5_actFor 52 = .ok (.istore 5, 2) := by decide +kernel
theorem dX5_actFor_54 : decode cX5_actFor 54 = .ok (.iload 5, 2) := by decide +kernel
theorem dX5_actFor_56 : decode cX5_actFor 56 = .ok (.ifCond .eq 27, 3) := by decide +kernel
theorem dX5_actFor_59 : decode cX5_actFor 59 = .ok (.iload_n 3, 1) := by decide +kernel
theorem dX5_actFor_60 : decode cX5_actFor 60 = .ok (.iconst (-1), 1) := by decide +kernel
theorem dX5_actFor_61 : decode cX5_actFor 61 = .ok (.if_icmp .eq 19, 3) := by decide +kernel
theorem dX5_actFor_64 : decode cX5_actFor 64 = .ok (.aload_n 0, 1) := by decide +kernel
theorem dX5_actFor_65 : decode cX5_actFor 65 = .ok (.getfield 17, 3) := by decide +kernel
theorem dX5_actFor_68 : decode cX5_actFor 68 = .ok (.iload 4, 2) := by decide +kernel
theorem dX5_actFor_70 : decode cX5_actFor 70 = .ok (.iaload, 1) := by decide +kernel
theorem dX5_actFor_71 : decode cX5_actFor 71 = .ok (.aload_n 0, 1) := by decide +kernel
theorem dX5_actFor_72 : decode cX5_actFor 72 = .ok (.getfield 17, 3) := by decide +kernel
theorem dX5_actFor_75 : decode cX5_actFor 75 = .ok (.iload_n 3, 1) := by decide +kernel
theorem dX5_actFor_76 : decode cX5_actFor 76 = .ok (.iaload, 1) := by decide +kernel
theorem dX5_actFor_77 : decode cX5_actFor 77 = .ok (.if_icmp .lt 6, 3) := by decide +kernel
theorem dX5_actFor_80 : decode cX5_actFor 80 = .ok (.iload 4, 2) := by decide +kernel
theorem dX5_actFor_82 : decode cX5_actFor 82 = .ok (.istore_n 3, 1) := by decide +kernel
theorem dX5_actFor_83 : decode cX5_actFor 83 = .ok (.iinc 4 1, 3) := by decide +kernel
theorem dX5_actFor_86 : decode cX5_actFor 86 = .ok (.goto (-81), 3) := by decide +kernel
theorem dX5_actFor_89 : decode cX5_actFor 89 = .ok (.iload_n 3, 1) := by decide +kernel
theorem dX5_actFor_90 : decode cX5_actFor 90 = .ok (.ireturn, 1) := by decide +kernel
theorem okX5_actFor : ab_okM MX5_actFor 2 := ⟨by decide, ⟨by decide, by decide⟩, ab_in 1530 (by decide +kernel) (by decide +kernel), ab_in 97 (by decide +kernel) (by decide +kernel), by decide +kernel, by decide⟩
set_option maxHeartbeats 4000000 in
set_option maxRecDepth 100000 in
theorem sX5_actFor_80 (v1 : Int32) (v2 : Int32) (v4 : Int32)  (x : ab_X) (K : Int32 → Prop) (L5 : Int32 → Int32 → Prop) (d bc bs : Nat) (hdp : 0 ≤ d) (hL5 : ∀ (v3 : Int32) (v4 : Int32), L5 v3 v4 → EW MX5_actFor 5 [(0, .ref 165), (1, .int v1), (2, .int v2), (3, .int v3), (4, .int v4)] [] (aS x) d bc bs (liP x K)) (h : wX5_actFor_80 v1 v2 v4 x K L5) : EW MX5_actFor 80 [(0, .ref 165), (1, .int v1), (2, .int v2), (4, .int v4)] [] (aS x) d bc bs (liP x K) := by
  unfold wX5_actFor_80 at h
  refine EW_iload (pc2 := 82) rfl dX5_actFor_80 3 rfl ?_
  refine EW_istore_n (pc2 := 83) rfl dX5_actFor_82 (by decide) [1, 2, 3, 0, 4] [(0, .ref 165), (1, .int v1), (2, .int v2), (3, .int v4), (4, .int v4)] rfl ?_
  refine EW_iinc (v4 + 1) (pc2 := 86) rfl dX5_actFor_83 4 rfl rfl (by decide) [1, 2, 3, 4, 0] [(0, .ref 165), (1, .int v1), (2, .int v2), (3, .int v4), (4, .int (v4 + 1))] rfl ?_
  refine EW_goto (tgt := 5) dX5_actFor_86 (by decide) ?_
  exact hL5 v4 (v4 + 1) h
set_option maxHeartbeats 4000000 in
set_option maxRecDepth 100000 in
theorem sX5_actFor_52 (v1 : Int32) (v2 : Int32) (v3 : Int32) (v4 : Int32) (s0 : Int32)  (x : ab_X) (K : Int32 → Prop) (L5 : Int32 → Int32 → Prop) (d bc bs : Nat) (hdp : 0 ≤ d) (hL5 : ∀ (v3 : Int32) (v4 : Int32), L5 v3 v4 → EW MX5_actFor 5 [(0, .ref 165), (1, .int v1), (2, .int v2), (3, .int v3), (4, .int v4)] [] (aS x) d bc bs (liP x K)) (h : wX5_actFor_52 v1 v2 v3 v4 s0 x K L5) : EW MX5_actFor 52 [(0, .ref 165), (1, .int v1), (2, .int v2), (3, .int v3), (4, .int v4)] [.int s0] (aS x) d bc bs (liP x K) := by
  unfold wX5_actFor_52 at h
  refine EW_istore (pc2 := 54) rfl dX5_actFor_52 (by decide) [1, 2, 3, 4, 5, 0] [(0, .ref 165), (1, .int v1), (2, .int v2), (3, .int v3), (4, .int v4), (5, .int s0)] rfl ?_
  refine EW_iload (pc2 := 56) rfl dX5_actFor_54 5 rfl ?_
  refine EW_if_eq (tgt := 83) (pc2 := 59) rfl dX5_actFor_56 (by decide) (fun q => ?_) (fun q => ?_)
  · replace h := h.1 q
    refine EW_iinc (v4 + 1) (pc2 := 86) rfl dX5_actFor_83 4 rfl rfl (by decide) [1, 2, 3, 4, 0, 5] [(0, .ref 165), (1, .int v1), (2, .int v2), (3, .int v3), (4, .int (v4 + 1)), (5, .int s0)] rfl ?_
    refine EW_goto (tgt := 5) dX5_actFor_86 (by decide) ?_
    refine EW_ls [0, 1, 2, 3, 4] rfl ?_
    exact hL5 v3 (v4 + 1) h
  · replace h := h.2 q
    refine EW_iload_n (pc2 := 60) rfl dX5_actFor_59 3 rfl ?_
    refine EW_iconst (pc2 := 61) (v := (-1)) rfl dX5_actFor_60 (by decide) ?_
    refine EW_icmp_eq (tgt := 80) (pc2 := 64) rfl dX5_actFor_61 (by decide) (fun q => ?_) (fun q => ?_)
    · replace h := h.1 q
      refine EW_ls [0, 1, 2, 4] rfl ?_
      exact sX5_actFor_80 v1 v2 v4 x K L5 d bc bs hdp hL5 h
    · replace h := h.2 q
      refine EW_aload_n (pc2 := 65) rfl dX5_actFor_64 0 rfl ?_
      refine AW_getr (r := 167) ⟨gfRX5_17, rfl⟩ (pc2 := 68) rfl dX5_actFor_65 q165 rfl ?_
      refine EW_iload (pc2 := 70) rfl dX5_actFor_68 4 rfl ?_
      obtain ⟨b4, h⟩ := h
      refine AW_iald (pc2 := 71) rfl dX5_actFor_70 q167 b4 ?_
      refine EW_aload_n (pc2 := 72) rfl dX5_actFor_71 0 rfl ?_
      refine AW_getr (r := 167) ⟨gfRX5_17, rfl⟩ (pc2 := 75) rfl dX5_actFor_72 q165 rfl ?_
      refine EW_iload_n (pc2 := 76) rfl dX5_actFor_75 3 rfl ?_
      obtain ⟨b5, h⟩ := h
      refine AW_iald (pc2 := 77) rfl dX5_actFor_76 q167 b5 ?_
      refine EW_icmp_lt (tgt := 83) (pc2 := 80) rfl dX5_actFor_77 (by decide) (fun q => ?_) (fun q => ?_)
      · replace h := h.1 q
        refine EW_iinc (v4 + 1) (pc2 := 86) rfl dX5_actFor_83 4 rfl rfl (by decide) [1, 2, 3, 4, 0, 5] [(0, .ref 165), (1, .int v1), (2, .int v2), (3, .int v3), (4, .int (v4 + 1)), (5, .int s0)] rfl ?_
        refine EW_goto (tgt := 5) dX5_actFor_86 (by decide) ?_
        refine EW_ls [0, 1, 2, 3, 4] rfl ?_
        exact hL5 v3 (v4 + 1) h
      · replace h := h.2 q
        refine EW_ls [0, 1, 2, 4] rfl ?_
        exact sX5_actFor_80 v1 v2 v4 x K L5 d bc bs hdp hL5 h
set_option maxHeartbeats 4000000 in
set_option maxRecDepth 100000 in
theorem sX5_actFor_51 (v1 : Int32) (v2 : Int32) (v3 : Int32) (v4 : Int32)  (x : ab_X) (K : Int32 → Prop) (L5 : Int32 → Int32 → Prop) (d bc bs : Nat) (hdp : 0 ≤ d) (hL5 : ∀ (v3 : Int32) (v4 : Int32), L5 v3 v4 → EW MX5_actFor 5 [(0, .ref 165), (1, .int v1), (2, .int v2), (3, .int v3), (4, .int v4)] [] (aS x) d bc bs (liP x K)) (h : wX5_actFor_51 v1 v2 v3 v4 x K L5) : EW MX5_actFor 51 [(0, .ref 165), (1, .int v1), (2, .int v2), (3, .int v3), (4, .int v4)] [] (aS x) d bc bs (liP x K) := by
  unfold wX5_actFor_51 at h
  refine EW_iconst (pc2 := 52) (v := 0) rfl dX5_actFor_51 (by decide) ?_
  exact sX5_actFor_52 v1 v2 v3 v4 0 x K L5 d bc bs hdp hL5 h
set_option maxHeartbeats 4000000 in
set_option maxRecDepth 100000 in
theorem sX5_actFor_5 (v1 : Int32) (v2 : Int32) (v3 : Int32) (v4 : Int32)  (x : ab_X) (K : Int32 → Prop)  (d bc bs : Nat) (hdp : 0 ≤ d)  (h : Lp2 (lX5_actFor_5 v1 v2 x K ) v3 v4) : EW MX5_actFor 5 [(0, .ref 165), (1, .int v1), (2, .int v2), (3, .int v3), (4, .int v4)] [] (aS x) d bc bs (liP x K) := by
  refine Lp2.use (P := fun v3 v4 => EW MX5_actFor 5 [(0, .ref 165), (1, .int v1), (2, .int v2), (3, .int v3), (4, .int v4)] [] (aS x) d bc bs (liP x K)) (fun L5 v3 v4 hL5 h => ?_) v3 v4 h
  unfold lX5_actFor_5 at h
  refine EW_iload (pc2 := 7) rfl dX5_actFor_5 4 rfl ?_
  refine EW_aload_n (pc2 := 8) rfl dX5_actFor_7 0 rfl ?_
  refine AW_geti ⟨gfRX5_46, rfl⟩ (pc2 := 11) rfl dX5_actFor_8 q165 ?_
  refine EW_icmp_ge (tgt := 89) (pc2 := 14) rfl dX5_actFor_11 (by decide) (fun q => ?_) (fun q => ?_)
  · replace h := h.1 q
    refine EW_iload_n (pc2 := 90) rfl dX5_actFor_89 3 rfl ?_
    exact AW_iret rfl dX5_actFor_90 ⟨_, rfl, rfl, h⟩
  · replace h := h.2 q
    refine EW_aload_n (pc2 := 15) rfl dX5_actFor_14 0 rfl ?_
    refine AW_getr (r := 168) ⟨gfRX5_21, rfl⟩ (pc2 := 18) rfl dX5_actFor_15 q165 rfl ?_
    refine EW_iload (pc2 := 20) rfl dX5_actFor_18 4 rfl ?_
    obtain ⟨b1, h⟩ := h
    refine AW_iald (pc2 := 21) rfl dX5_actFor_20 q168 b1 ?_
    refine EW_iload_n (pc2 := 22) rfl dX5_actFor_21 2 rfl ?_
    refine EW_icmp_gt (tgt := 51) (pc2 := 25) rfl dX5_actFor_22 (by decide) (fun q => ?_) (fun q => ?_)
    · replace h := h.1 q
      exact sX5_actFor_51 v1 v2 v3 v4 x K L5 d bc bs hdp hL5 h
    · replace h := h.2 q
      refine EW_aload_n (pc2 := 26) rfl dX5_actFor_25 0 rfl ?_
      refine AW_getr (r := 167) ⟨gfRX5_17, rfl⟩ (pc2 := 29) rfl dX5_actFor_26 q165 rfl ?_
      refine EW_iload (pc2 := 31) rfl dX5_actFor_29 4 rfl ?_
      obtain ⟨b2, h⟩ := h
      refine AW_iald (pc2 := 32) rfl dX5_actFor_31 q167 b2 ?_
      refine EW_aload_n (pc2 := 33) rfl dX5_actFor_32 0 rfl ?_
      refine AW_getr (r := 9) ⟨gfRX5_41, rfl⟩ (pc2 := 36) rfl dX5_actFor_33 q165 rfl ?_
      refine AW_getr (r := 10) ⟨gfRX5_53, rfl⟩ (pc2 := 39) rfl dX5_actFor_36 q9 rfl ?_
      refine EW_iload_n (pc2 := 40) rfl dX5_actFor_39 1 rfl ?_
      obtain ⟨b3, h⟩ := h
      refine AW_aald5 (pc2 := 41) rfl dX5_actFor_40 b3 ?_
      refine AW_geti ⟨gfRX5_59, rfl⟩ (pc2 := 44) rfl dX5_actFor_41 (isH.o (isH_of b3)) ?_
      refine EW_icmp_gt (tgt := 51) (pc2 := 47) rfl dX5_actFor_44 (by decide) (fun q => ?_) (fun q => ?_)
      · replace h := h.1 q
        exact sX5_actFor_51 v1 v2 v3 v4 x K L5 d bc bs hdp hL5 h
      · replace h := h.2 q
        refine EW_iconst (pc2 := 48) (v := 1) rfl dX5_actFor_47 (by decide) ?_
        refine EW_goto (tgt := 52) dX5_actFor_48 (by decide) ?_
        exact sX5_actFor_52 v1 v2 v3 v4 1 x K L5 d bc bs hdp hL5 h
set_option maxHeartbeats 4000000 in
set_option maxRecDepth 100000 in
theorem sX5_actFor (v1 : Int32) (v2 : Int32)  (x : ab_X) (K : Int32 → Prop) (d bc bs : Nat) (hdp : 0 ≤ d) (h : wX5_actFor v1 v2 x K) : EW MX5_actFor 0 [(0, .ref 165), (1, .int v1), (2, .int v2)] [] (aS x) d bc bs (liP x K) := by
  unfold wX5_actFor at h
  refine EW_iconst (pc2 := 1) (v := (-1)) rfl dX5_actFor_0 (by decide) ?_
  refine EW_istore_n (pc2 := 2) rfl dX5_actFor_1 (by decide) [1, 2, 3, 0] [(0, .ref 165), (1, .int v1), (2, .int v2), (3, .int (-1))] rfl ?_
  refine EW_iconst (pc2 := 3) (v := 0) rfl dX5_actFor_2 (by decide) ?_
  refine EW_istore (pc2 := 5) rfl dX5_actFor_3 (by decide) [1, 2, 3, 4, 0] [(0, .ref 165), (1, .int v1), (2, .int v2), (3, .int (-1)), (4, .int 0)] rfl ?_
  exact sX5_actFor_5 v1 v2 (-1) 0 x K d bc bs hdp h
theorem gfRX4_27 : ab_L RX4 27 4 11 := ⟨by decide, by decide, ab_in 254 (by decide +kernel) (by decide +kernel)⟩
theorem gfRX4_24 : ab_L RX4 24 4 10 := ⟨by decide, by decide, ab_in 251 (by decide +kernel) (by decide +kernel)⟩
abbrev MX4_beside : ab_M := (yX4_beside, cX4_beside, 1, (some .int))
theorem dX4_beside_0 : decode cX4_beside 0 = .ok (.aload_n 0, 1) := by decide +kernel
theorem dX4_beside_1 : decode cX4_beside 1 = .ok (.getfield 24, 3) := by decide +kernel
theorem dX4_beside_4 : decode cX4_beside 4 = .ok (.iconst (-1), 1) := by decide +kernel
theorem dX4_beside_5 : decode cX4_beside 5 = .ok (.if_icmp .ne 7, 3) := by decide +kernel
theorem dX4_beside_8 : decode cX4_beside 8 = .ok (.iconst 0, 1) := by decide +kernel
theorem dX4_beside_9 : decode cX4_beside 9 = .ok (.goto 4, 3) := by decide +kernel
theorem dX4_beside_12 : decode cX4_beside 12 = .ok (.iconst 1, 1) := by decide +kernel
theorem dX4_beside_13 : decode cX4_beside 13 = .ok (.aload_n 0, 1) := by decide +kernel
theorem dX4_beside_14 : decode cX4_beside 14 = .ok (.getfield 27, 3) := by decide +kernel
theorem dX4_beside_17 : decode cX4_beside 17 = .ok (.iconst (-1), 1) := by decide +kernel
theorem dX4_beside_18 : decode cX4_beside 18 = .ok (.if_icmp .ne 7, 3) := by decide +kernel
theorem dX4_beside_21 : decode cX4_beside 21 = .ok (.iconst 0, 1) := by decide +kernel
theorem dX4_beside_22 : decode cX4_beside 22 = .ok (.goto 4, 3) := by decide +kernel
theorem dX4_beside_25 : decode cX4_beside 25 = .ok (.iconst 1, 1) := by decide +kernel
theorem dX4_beside_26 : decode cX4_beside 26 = .ok (.iadd, 1) := by decide +kernel
theorem dX4_beside_27 : decode cX4_beside 27 = .ok (.ireturn, 1) := by decide +kernel
theorem okX4_beside : ab_okM MX4_beside 0 := ⟨by decide, ⟨by decide, by decide⟩, ab_in 1570 (by decide +kernel) (by decide +kernel), ab_in 91 (by decide +kernel) (by decide +kernel), by decide +kernel, by decide⟩
set_option maxHeartbeats 4000000 in
set_option maxRecDepth 100000 in
theorem sX4_beside_13 (v0 : Nat) (s0 : Int32) (hv0 : isH v0) (x : ab_X) (K : Int32 → Prop)  (d bc bs : Nat) (hdp : 0 ≤ d)  (h : wX4_beside_13 v0 s0 x K ) : EW MX4_beside 13 [(0, .ref v0)] [.int s0] (aS x) d bc bs (liP x K) := by
  unfold wX4_beside_13 at h
  refine EW_aload_n (pc2 := 14) rfl dX4_beside_13 0 rfl ?_
  refine AW_geti ⟨gfRX4_27, rfl⟩ (pc2 := 17) rfl dX4_beside_14 (isH.o hv0) ?_
  refine EW_iconst (pc2 := 18) (v := (-1)) rfl dX4_beside_17 (by decide) ?_
  refine EW_icmp_ne (tgt := 25) (pc2 := 21) rfl dX4_beside_18 (by decide) (fun q => ?_) (fun q => ?_)
  · replace h := h.1 q
    refine EW_iconst (pc2 := 26) (v := 1) rfl dX4_beside_25 (by decide) ?_
    refine EW_iadd (pc2 := 27) rfl dX4_beside_26 ?_
    exact AW_iret rfl dX4_beside_27 ⟨_, rfl, rfl, h⟩
  · replace h := h.2 q
    refine EW_iconst (pc2 := 22) (v := 0) rfl dX4_beside_21 (by decide) ?_
    refine EW_goto (tgt := 26) dX4_beside_22 (by decide) ?_
    refine EW_iadd (pc2 := 27) rfl dX4_beside_26 ?_
    exact AW_iret rfl dX4_beside_27 ⟨_, rfl, rfl, h⟩
set_option maxHeartbeats 4000000 in
set_option maxRecDepth 100000 in
theorem sX4_beside (v0 : Nat) (hv0 : isH v0) (x : ab_X) (K : Int32 → Prop) (d bc bs : Nat) (hdp : 0 ≤ d) (h : wX4_beside v0 x K) : EW MX4_beside 0 [(0, .ref v0)] [] (aS x) d bc bs (liP x K) := by
  unfold wX4_beside at h
  refine EW_aload_n (pc2 := 1) rfl dX4_beside_0 0 rfl ?_
  refine AW_geti ⟨gfRX4_24, rfl⟩ (pc2 := 4) rfl dX4_beside_1 (isH.o hv0) ?_
  refine EW_iconst (pc2 := 5) (v := (-1)) rfl dX4_beside_4 (by decide) ?_
  refine EW_icmp_ne (tgt := 12) (pc2 := 8) rfl dX4_beside_5 (by decide) (fun q => ?_) (fun q => ?_)
  · replace h := h.1 q
    refine EW_iconst (pc2 := 13) (v := 1) rfl dX4_beside_12 (by decide) ?_
    exact sX4_beside_13 v0 1 hv0 x K d bc bs hdp h
  · replace h := h.2 q
    refine EW_iconst (pc2 := 9) (v := 0) rfl dX4_beside_8 (by decide) ?_
    refine EW_goto (tgt := 13) dX4_beside_9 (by decide) ?_
    exact sX4_beside_13 v0 0 hv0 x K d bc bs hdp h
abbrev MX5_daysSinceLook : ab_M := (yX5_daysSinceLook, cX5_daysSinceLook, 5, (some .int))
theorem dX5_daysSinceLook_0 : decode cX5_daysSinceLook 0 = .ok (.sipush 999, 3) := by decide +kernel
theorem dX5_daysSinceLook_3 : decode cX5_daysSinceLook 3 = .ok (.istore_n 3, 1) := by decide +kernel
theorem dX5_daysSinceLook_4 : decode cX5_daysSinceLook 4 = .ok (.iconst 0, 1) := by decide +kernel
theorem dX5_daysSinceLook_5 : decode cX5_daysSinceLook 5 = .ok (.istore 4, 2) := by decide +kernel
theorem dX5_daysSinceLook_7 : decode cX5_daysSinceLook 7 = .ok (.iload 4, 2) := by decide +kernel
theorem dX5_daysSinceLook_9 : decode cX5_daysSinceLook 9 = .ok (.aload_n 0, 1) := by decide +kernel
theorem dX5_daysSinceLook_10 : decode cX5_daysSinceLook 10 = .ok (.getfield 50, 3) := by decide +kernel
theorem dX5_daysSinceLook_13 : decode cX5_daysSinceLook 13 = .ok (.if_icmp .ge 56, 3) := by decide +kernel
theorem dX5_daysSinceLook_16 : decode cX5_daysSinceLook 16 = .ok (.aload_n 0, 1) := by decide +kernel
theorem dX5_daysSinceLook_17 : decode cX5_daysSinceLook 17 = .ok (.getfield 24, 3) := by decide +kernel
theorem dX5_daysSinceLook_20 : decode cX5_daysSinceLook 20 = .ok (.iload 4, 2) := by decide +kernel
theorem dX5_daysSinceLook_22 : decode cX5_daysSinceLook 22 = .ok (.iaload, 1) := by decide +kernel
theorem dX5_daysSinceLook_23 : decode cX5_daysSinceLook 23 = .ok (.iload_n 1, 1) := by decide +kernel
theorem dX5_daysSinceLook_24 : decode cX5_daysSinceLook 24 = .ok (.if_icmp .ne 39, 3) := by decide +kernel
theorem dX5_daysSinceLook_27 : decode cX5_daysSinceLook 27 = .ok (.aload_n 0, 1) := by decide +kernel
theorem dX5_daysSinceLook_28 : decode cX5_daysSinceLook 28 = .ok (.getfield 30, 3) := by decide +kernel
theorem dX5_daysSinceLook_31 : decode cX5_daysSinceLook 31 = .ok (.iload 4, 2) := by decide +kernel
theorem dX5_daysSinceLook_33 : decode cX5_daysSinceLook 33 = .ok (.iaload, 1) := by decide +kernel
theorem dX5_daysSinceLook_34 : decode cX5_daysSinceLook 34 = .ok (.iconst (-1), 1) := by decide +kernel
theorem dX5_daysSinceLook_35 : decode cX5_daysSinceLook 35 = .ok (.if_icmp .ne 28, 3) := by decide +kernel
theorem dX5_daysSinceLook_38 : decode cX5_daysSinceLook 38 = .ok (.aload_n 0, 1) := by decide +kernel
theorem dX5_daysSinceLook_39 : decode cX5_daysSinceLook 39 = .ok (.getfield 27, 3) := by decide +kernel
theorem dX5_daysSinceLook_42 : decode cX5_daysSinceLook 42 = .ok (.iload 4, 2) := by decide +kernel
theorem dX5_daysSinceLook_44 : decode cX5_daysSinceLook 44 = .ok (.iaload, 1) := by decide +kernel
theorem dX5_daysSinceLook_45 : decode cX5_daysSinceLook 45 = .ok (.iload_n 2, 1) := by decide +kernel
theorem dX5_daysSinceLook_46 : decode cX5_daysSinceLook 46 = .ok (.if_icmp .gt 17, 3) := by decide +kernel
theorem dX5_daysSinceLook_49 : decode cX5_daysSinceLook 49 = .ok (.iload_n 2, 1) := by decide +kernel
theorem dX5_daysSinceLook_50 : decode cX5_daysSinceLook 50 = .ok (.aload_n 0, 1) := by decide +kernel
theorem dX5_daysSinceLook_51 : decode cX5_daysSinceLook 51 = .ok (.getfield 27, 3) := by decide +kernel
theorem dX5_daysSinceLook_54 : decode cX5_daysSinceLook 54 = .ok (.iload 4, 2) := by decide +kernel
theorem dX5_daysSinceLook_56 : decode cX5_daysSinceLook 56 = .ok (.iaload, 1) := by decide +kernel
theorem dX5_daysSinceLook_57 : decode cX5_daysSinceLook 57 = .ok (.isub, 1) := by decide +kernel
theorem dX5_daysSinceLook_58 : decode cX5_daysSinceLook 58 = .ok (.sipush 1440, 3) := by decide +kernel
theorem dX5_daysSinceLook_61 : decode cX5_daysSinceLook 61 = .ok (.idiv, 1) := by decide +kernel
theorem dX5_daysSinceLook_62 : decode cX5_daysSinceLook 62 = .ok (.istore_n 3, 1) := by decide +kernel
theorem dX5_daysSinceLook_63 : decode cX5_daysSinceLook 63 = .ok (.iinc 4 1, 3) := by decide +kernel
theorem dX5_daysSinceLook_66 : decode cX5_daysSinceLook 66 = .ok (.goto (-59), 3) := by decide +kernel
theorem dX5_daysSinceLook_69 : decode cX5_daysSinceLook 69 = .ok (.iload_n 3, 1) := by decide +kernel
theorem dX5_daysSinceLook_70 : decode cX5_daysSinceLook 70 = .ok (.ireturn, 1) := by decide +kernel
theorem okX5_daysSinceLook : ab_okM MX5_daysSinceLook 2 := ⟨by decide, ⟨by decide, by decide⟩, ab_in 1574 (by decide +kernel) (by decide +kernel), ab_in 97 (by decide +kernel) (by decide +kernel), by decide +kernel, by decide⟩
set_option maxHeartbeats 4000000 in
set_option maxRecDepth 100000 in
theorem sX5_daysSinceLook_7 (v1 : Int32) (v2 : Int32) (v3 : Int32) (v4 : Int32)  (x : ab_X) (K : Int32 → Prop)  (d bc bs : Nat) (hdp : 0 ≤ d)  (h : Lp2 (lX5_daysSinceLook_7 v1 v2 x K ) v3 v4) : EW MX5_daysSinceLook 7 [(0, .ref 165), (1, .int v1), (2, .int v2), (3, .int v3), (4, .int v4)] [] (aS x) d bc bs (liP x K) := by
  refine Lp2.use (P := fun v3 v4 => EW MX5_daysSinceLook 7 [(0, .ref 165), (1, .int v1), (2, .int v2), (3, .int v3), (4, .int v4)] [] (aS x) d bc bs (liP x K)) (fun L7 v3 v4 hL7 h => ?_) v3 v4 h
  unfold lX5_daysSinceLook_7 at h
  refine EW_iload (pc2 := 9) rfl dX5_daysSinceLook_7 4 rfl ?_
  refine EW_aload_n (pc2 := 10) rfl dX5_daysSinceLook_9 0 rfl ?_
  refine AW_geti ⟨gfRX5_50, rfl⟩ (pc2 := 13) rfl dX5_daysSinceLook_10 q165 ?_
  refine EW_icmp_ge (tgt := 69) (pc2 := 16) rfl dX5_daysSinceLook_13 (by decide) (fun q => ?_) (fun q => ?_)
  · replace h := h.1 q
    refine EW_iload_n (pc2 := 70) rfl dX5_daysSinceLook_69 3 rfl ?_
    exact AW_iret rfl dX5_daysSinceLook_70 ⟨_, rfl, rfl, h⟩
  · replace h := h.2 q
    refine EW_aload_n (pc2 := 17) rfl dX5_daysSinceLook_16 0 rfl ?_
    refine AW_getr (r := 169) ⟨gfRX5_24, rfl⟩ (pc2 := 20) rfl dX5_daysSinceLook_17 q165 rfl ?_
    refine EW_iload (pc2 := 22) rfl dX5_daysSinceLook_20 4 rfl ?_
    obtain ⟨b1, h⟩ := h
    refine AW_iald (pc2 := 23) rfl dX5_daysSinceLook_22 q169 b1 ?_
    refine EW_iload_n (pc2 := 24) rfl dX5_daysSinceLook_23 1 rfl ?_
    refine EW_icmp_ne (tgt := 63) (pc2 := 27) rfl dX5_daysSinceLook_24 (by decide) (fun q => ?_) (fun q => ?_)
    · replace h := h.1 q
      refine EW_iinc (v4 + 1) (pc2 := 66) rfl dX5_daysSinceLook_63 4 rfl rfl (by decide) [1, 2, 3, 4, 0] [(0, .ref 165), (1, .int v1), (2, .int v2), (3, .int v3), (4, .int (v4 + 1))] rfl ?_
      refine EW_goto (tgt := 7) dX5_daysSinceLook_66 (by decide) ?_
      exact hL7 v3 (v4 + 1) h
    · replace h := h.2 q
      refine EW_aload_n (pc2 := 28) rfl dX5_daysSinceLook_27 0 rfl ?_
      refine AW_getr (r := 171) ⟨gfRX5_30, rfl⟩ (pc2 := 31) rfl dX5_daysSinceLook_28 q165 rfl ?_
      refine EW_iload (pc2 := 33) rfl dX5_daysSinceLook_31 4 rfl ?_
      obtain ⟨b2, h⟩ := h
      refine AW_iald (pc2 := 34) rfl dX5_daysSinceLook_33 q171 b2 ?_
      refine EW_iconst (pc2 := 35) (v := (-1)) rfl dX5_daysSinceLook_34 (by decide) ?_
      refine EW_icmp_ne (tgt := 63) (pc2 := 38) rfl dX5_daysSinceLook_35 (by decide) (fun q => ?_) (fun q => ?_)
      · replace h := h.1 q
        refine EW_iinc (v4 + 1) (pc2 := 66) rfl dX5_daysSinceLook_63 4 rfl rfl (by decide) [1, 2, 3, 4, 0] [(0, .ref 165), (1, .int v1), (2, .int v2), (3, .int v3), (4, .int (v4 + 1))] rfl ?_
        refine EW_goto (tgt := 7) dX5_daysSinceLook_66 (by decide) ?_
        exact hL7 v3 (v4 + 1) h
      · replace h := h.2 q
        refine EW_aload_n (pc2 := 39) rfl dX5_daysSinceLook_38 0 rfl ?_
        refine AW_getr (r := 170) ⟨gfRX5_27, rfl⟩ (pc2 := 42) rfl dX5_daysSinceLook_39 q165 rfl ?_
        refine EW_iload (pc2 := 44) rfl dX5_daysSinceLook_42 4 rfl ?_
        obtain ⟨b3, h⟩ := h
        refine AW_iald (pc2 := 45) rfl dX5_daysSinceLook_44 q170 b3 ?_
        refine EW_iload_n (pc2 := 46) rfl dX5_daysSinceLook_45 2 rfl ?_
        refine EW_icmp_gt (tgt := 63) (pc2 := 49) rfl dX5_daysSinceLook_46 (by decide) (fun q => ?_) (fun q => ?_)
        · replace h := h.1 q
          refine EW_iinc (v4 + 1) (pc2 := 66) rfl dX5_daysSinceLook_63 4 rfl rfl (by decide) [1, 2, 3, 4, 0] [(0, .ref 165), (1, .int v1), (2, .int v2), (3, .int v3), (4, .int (v4 + 1))] rfl ?_
          refine EW_goto (tgt := 7) dX5_daysSinceLook_66 (by decide) ?_
          exact hL7 v3 (v4 + 1) h
        · replace h := h.2 q
          refine EW_iload_n (pc2 := 50) rfl dX5_daysSinceLook_49 2 rfl ?_
          refine EW_aload_n (pc2 := 51) rfl dX5_daysSinceLook_50 0 rfl ?_
          refine AW_getr (r := 170) ⟨gfRX5_27, rfl⟩ (pc2 := 54) rfl dX5_daysSinceLook_51 q165 rfl ?_
          refine EW_iload (pc2 := 56) rfl dX5_daysSinceLook_54 4 rfl ?_
          obtain ⟨b4, h⟩ := h
          refine AW_iald (pc2 := 57) rfl dX5_daysSinceLook_56 q170 b4 ?_
          refine EW_isub (pc2 := 58) rfl dX5_daysSinceLook_57 ?_
          refine EW_sipush (pc2 := 61) (v := 1440) rfl dX5_daysSinceLook_58 (by decide) ?_
          refine EW_idiv (pc2 := 62) rfl dX5_daysSinceLook_61 (by decide) ?_
          refine EW_istore_n (pc2 := 63) rfl dX5_daysSinceLook_62 (by decide) [1, 2, 3, 0, 4] [(0, .ref 165), (1, .int v1), (2, .int v2), (3, .int ((v2 - (x.1 170 (Int32.toNatClampNeg v4))) / 1440)), (4, .int v4)] rfl ?_
          refine EW_iinc (v4 + 1) (pc2 := 66) rfl dX5_daysSinceLook_63 4 rfl rfl (by decide) [1, 2, 3, 4, 0] [(0, .ref 165), (1, .int v1), (2, .int v2), (3, .int ((v2 - (x.1 170 (Int32.toNatClampNeg v4))) / 1440)), (4, .int (v4 + 1))] rfl ?_
          refine EW_goto (tgt := 7) dX5_daysSinceLook_66 (by decide) ?_
          exact hL7 ((v2 - (x.1 170 (Int32.toNatClampNeg v4))) / 1440) (v4 + 1) h
set_option maxHeartbeats 4000000 in
set_option maxRecDepth 100000 in
theorem sX5_daysSinceLook (v1 : Int32) (v2 : Int32)  (x : ab_X) (K : Int32 → Prop) (d bc bs : Nat) (hdp : 0 ≤ d) (h : wX5_daysSinceLook v1 v2 x K) : EW MX5_daysSinceLook 0 [(0, .ref 165), (1, .int v1), (2, .int v2)] [] (aS x) d bc bs (liP x K) := by
  unfold wX5_daysSinceLook at h
  refine EW_sipush (pc2 := 3) (v := 999) rfl dX5_daysSinceLook_0 (by decide) ?_
  refine EW_istore_n (pc2 := 4) rfl dX5_daysSinceLook_3 (by decide) [1, 2, 3, 0] [(0, .ref 165), (1, .int v1), (2, .int v2), (3, .int 999)] rfl ?_
  refine EW_iconst (pc2 := 5) (v := 0) rfl dX5_daysSinceLook_4 (by decide) ?_
  refine EW_istore (pc2 := 7) rfl dX5_daysSinceLook_5 (by decide) [1, 2, 3, 4, 0] [(0, .ref 165), (1, .int v1), (2, .int v2), (3, .int 999), (4, .int 0)] rfl ?_
  exact sX5_daysSinceLook_7 v1 v2 999 0 x K d bc bs hdp h
theorem gfRX5_64 : ab_L RX5 64 4 9 := ⟨by decide, by decide, ab_in 249 (by decide +kernel) (by decide +kernel)⟩
abbrev MX5_useAt : ab_M := (yX5_useAt, cX5_useAt, 6, (some .int))
theorem dX5_useAt_0 : decode cX5_useAt 0 = .ok (.iconst (-1), 1) := by decide +kernel
theorem dX5_useAt_1 : decode cX5_useAt 1 = .ok (.istore_n 3, 1) := by decide +kernel
theorem dX5_useAt_2 : decode cX5_useAt 2 = .ok (.iconst 0, 1) := by decide +kernel
theorem dX5_useAt_3 : decode cX5_useAt 3 = .ok (.istore 4, 2) := by decide +kernel
theorem dX5_useAt_5 : decode cX5_useAt 5 = .ok (.iload 4, 2) := by decide +kernel
theorem dX5_useAt_7 : decode cX5_useAt 7 = .ok (.aload_n 0, 1) := by decide +kernel
theorem dX5_useAt_8 : decode cX5_useAt 8 = .ok (.getfield 50, 3) := by decide +kernel
theorem dX5_useAt_11 : decode cX5_useAt 11 = .ok (.if_icmp .ge 78, 3) := by decide +kernel
theorem dX5_useAt_14 : decode cX5_useAt 14 = .ok (.aload_n 0, 1) := by decide +kernel
theorem dX5_useAt_15 : decode cX5_useAt 15 = .ok (.getfield 24, 3) := by decide +kernel
theorem dX5_useAt_18 : decode cX5_useAt 18 = .ok (.iload 4, 2) := by decide +kernel
theorem dX5_useAt_20 : decode cX5_useAt 20 = .ok (.iaload, 1) := by decide +kernel
theorem dX5_useAt_21 : decode cX5_useAt 21 = .ok (.iload_n 1, 1) := by decide +kernel
theorem dX5_useAt_22 : decode cX5_useAt 22 = .ok (.if_icmp .ne 29, 3) := by decide +kernel
theorem dX5_useAt_25 : decode cX5_useAt 25 = .ok (.aload_n 0, 1) := by decide +kernel
theorem dX5_useAt_26 : decode cX5_useAt 26 = .ok (.getfield 30, 3) := by decide +kernel
theorem dX5_useAt_29 : decode cX5_useAt 29 = .ok (.iload 4, 2) := by decide +kernel
theorem dX5_useAt_31 : decode cX5_useAt 31 = .ok (.iaload, 1) := by decide +kernel
theorem dX5_useAt_32 : decode cX5_useAt 32 = .ok (.iconst (-1), 1) := by decide +kernel
theorem dX5_useAt_33 : decode cX5_useAt 33 = .ok (.if_icmp .eq 18, 3) := by decide +kernel
theorem dX5_useAt_36 : decode cX5_useAt 36 = .ok (.aload_n 0, 1) := by decide +kernel
theorem dX5_useAt_37 : decode cX5_useAt 37 = .ok (.getfield 27, 3) := by decide +kernel
theorem dX5_useAt_40 : decode cX5_useAt 40 = .ok (.iload 4, 2) := by decide +kernel
theorem dX5_useAt_42 : decode cX5_useAt 42 = .ok (.iaload, 1) := by decide +kernel
theorem dX5_useAt_43 : decode cX5_useAt 43 = .ok (.iload_n 2, 1) := by decide +kernel
theorem dX5_useAt_44 : decode cX5_useAt 44 = .ok (.if_icmp .gt 7, 3) := by decide +kernel
theorem dX5_useAt_47 : decode cX5_useAt 47 = .ok (.iconst 1, 1) := by decide +kernel
theorem dX5_useAt_48 : decode cX5_useAt 48 = .ok (.goto 4, 3) := by decide +kernel
theorem dX5_useAt_51 : decode cX5_useAt 51 = .ok (.iconst 0, 1) := by decide +kernel
theorem dX5_useAt_52 : decode cX5_useAt 52 = .ok (.istore 5, 2) := by decide +kernel
theorem dX5_useAt_54 : decode cX5_useAt 54 = .ok (.iload 5, 2) := by decide +kernel
theorem dX5_useAt_56 : decode cX5_useAt 56 = .ok (.ifCond .eq 27, 3) := by decide +kernel
theorem dX5_useAt_59 : decode cX5_useAt 59 = .ok (.iload_n 3, 1) := by decide +kernel
theorem dX5_useAt_60 : decode cX5_useAt 60 = .ok (.iconst (-1), 1) := by decide +kernel
theorem dX5_useAt_61 : decode cX5_useAt 61 = .ok (.if_icmp .eq 19, 3) := by decide +kernel
theorem dX5_useAt_64 : decode cX5_useAt 64 = .ok (.aload_n 0, 1) := by decide +kernel
theorem dX5_useAt_65 : decode cX5_useAt 65 = .ok (.getfield 33, 3) := by decide +kernel
theorem dX5_useAt_68 : decode cX5_useAt 68 = .ok (.iload 4, 2) := by decide +kernel
theorem dX5_useAt_70 : decode cX5_useAt 70 = .ok (.iaload, 1) := by decide +kernel
theorem dX5_useAt_71 : decode cX5_useAt 71 = .ok (.aload_n 0, 1) := by decide +kernel
theorem dX5_useAt_72 : decode cX5_useAt 72 = .ok (.getfield 33, 3) := by decide +kernel
theorem dX5_useAt_75 : decode cX5_useAt 75 = .ok (.iload_n 3, 1) := by decide +kernel
theorem dX5_useAt_76 : decode cX5_useAt 76 = .ok (.iaload, 1) := by decide +kernel
theorem dX5_useAt_77 : decode cX5_useAt 77 = .ok (.if_icmp .lt 6, 3) := by decide +kernel
theorem dX5_useAt_80 : decode cX5_useAt 80 = .ok (.iload 4, 2) := by decide +kernel
theorem dX5_useAt_82 : decode cX5_useAt 82 = .ok (.istore_n 3, 1) := by decide +kernel
theorem dX5_useAt_83 : decode cX5_useAt 83 = .ok (.iinc 4 1, 3) := by decide +kernel
theorem dX5_useAt_86 : decode cX5_useAt 86 = .ok (.goto (-81), 3) := by decide +kernel
theorem dX5_useAt_89 : decode cX5_useAt 89 = .ok (.iload_n 3, 1) := by decide +kernel
theorem dX5_useAt_90 : decode cX5_useAt 90 = .ok (.iconst (-1), 1) := by decide +kernel
theorem dX5_useAt_91 : decode cX5_useAt 91 = .ok (.if_icmp .ne 18, 3) := by decide +kernel
theorem dX5_useAt_94 : decode cX5_useAt 94 = .ok (.aload_n 0, 1) := by decide +kernel
theorem dX5_useAt_95 : decode cX5_useAt 95 = .ok (.getfield 41, 3) := by decide +kernel
theorem dX5_useAt_98 : decode cX5_useAt 98 = .ok (.getfield 53, 3) := by decide +kernel
theorem dX5_useAt_101 : decode cX5_useAt 101 = .ok (.iload_n 1, 1) := by decide +kernel
theorem dX5_useAt_102 : decode cX5_useAt 102 = .ok (.aaload, 1) := by decide +kernel
theorem dX5_useAt_103 : decode cX5_useAt 103 = .ok (.getfield 64, 3) := by decide +kernel
theorem dX5_useAt_106 : decode cX5_useAt 106 = .ok (.goto 9, 3) := by decide +kernel
theorem dX5_useAt_109 : decode cX5_useAt 109 = .ok (.aload_n 0, 1) := by decide +kernel
theorem dX5_useAt_110 : decode cX5_useAt 110 = .ok (.getfield 30, 3) := by decide +kernel
theorem dX5_useAt_113 : decode cX5_useAt 113 = .ok (.iload_n 3, 1) := by decide +kernel
theorem dX5_useAt_114 : decode cX5_useAt 114 = .ok (.iaload, 1) := by decide +kernel
theorem dX5_useAt_115 : decode cX5_useAt 115 = .ok (.ireturn, 1) := by decide +kernel
theorem okX5_useAt : ab_okM MX5_useAt 2 := ⟨by decide, ⟨by decide, by decide⟩, ab_in 1546 (by decide +kernel) (by decide +kernel), ab_in 97 (by decide +kernel) (by decide +kernel), by decide +kernel, by decide⟩
set_option maxHeartbeats 4000000 in
set_option maxRecDepth 100000 in
theorem sX5_useAt_80 (v1 : Int32) (v2 : Int32) (v4 : Int32)  (x : ab_X) (K : Int32 → Prop) (L5 : Int32 → Int32 → Prop) (d bc bs : Nat) (hdp : 0 ≤ d) (hL5 : ∀ (v3 : Int32) (v4 : Int32), L5 v3 v4 → EW MX5_useAt 5 [(0, .ref 165), (1, .int v1), (2, .int v2), (3, .int v3), (4, .int v4)] [] (aS x) d bc bs (liP x K)) (h : wX5_useAt_80 v1 v2 v4 x K L5) : EW MX5_useAt 80 [(0, .ref 165), (1, .int v1), (2, .int v2), (4, .int v4)] [] (aS x) d bc bs (liP x K) := by
  unfold wX5_useAt_80 at h
  refine EW_iload (pc2 := 82) rfl dX5_useAt_80 3 rfl ?_
  refine EW_istore_n (pc2 := 83) rfl dX5_useAt_82 (by decide) [1, 2, 3, 0, 4] [(0, .ref 165), (1, .int v1), (2, .int v2), (3, .int v4), (4, .int v4)] rfl ?_
  refine EW_iinc (v4 + 1) (pc2 := 86) rfl dX5_useAt_83 4 rfl rfl (by decide) [1, 2, 3, 4, 0] [(0, .ref 165), (1, .int v1), (2, .int v2), (3, .int v4), (4, .int (v4 + 1))] rfl ?_
  refine EW_goto (tgt := 5) dX5_useAt_86 (by decide) ?_
  exact hL5 v4 (v4 + 1) h
set_option maxHeartbeats 4000000 in
set_option maxRecDepth 100000 in
theorem sX5_useAt_52 (v1 : Int32) (v2 : Int32) (v3 : Int32) (v4 : Int32) (s0 : Int32)  (x : ab_X) (K : Int32 → Prop) (L5 : Int32 → Int32 → Prop) (d bc bs : Nat) (hdp : 0 ≤ d) (hL5 : ∀ (v3 : Int32) (v4 : Int32), L5 v3 v4 → EW MX5_useAt 5 [(0, .ref 165), (1, .int v1), (2, .int v2), (3, .int v3), (4, .int v4)] [] (aS x) d bc bs (liP x K)) (h : wX5_useAt_52 v1 v2 v3 v4 s0 x K L5) : EW MX5_useAt 52 [(0, .ref 165), (1, .int v1), (2, .int v2), (3, .int v3), (4, .int v4)] [.int s0] (aS x) d bc bs (liP x K) := by
  unfold wX5_useAt_52 at h
  refine EW_istore (pc2 := 54) rfl dX5_useAt_52 (by decide) [1, 2, 3, 4, 5, 0] [(0, .ref 165), (1, .int v1), (2, .int v2), (3, .int v3), (4, .int v4), (5, .int s0)] rfl ?_
  refine EW_iload (pc2 := 56) rfl dX5_useAt_54 5 rfl ?_
  refine EW_if_eq (tgt := 83) (pc2 := 59) rfl dX5_useAt_56 (by decide) (fun q => ?_) (fun q => ?_)
  · replace h := h.1 q
    refine EW_iinc (v4 + 1) (pc2 := 86) rfl dX5_useAt_83 4 rfl rfl (by decide) [1, 2, 3, 4, 0, 5] [(0, .ref 165), (1, .int v1), (2, .int v2), (3, .int v3), (4, .int (v4 + 1)), (5, .int s0)] rfl ?_
    refine EW_goto (tgt := 5) dX5_useAt_86 (by decide) ?_
    refine EW_ls [0, 1, 2, 3, 4] rfl ?_
    exact hL5 v3 (v4 + 1) h
  · replace h := h.2 q
    refine EW_iload_n (pc2 := 60) rfl dX5_useAt_59 3 rfl ?_
    refine EW_iconst (pc2 := 61) (v := (-1)) rfl dX5_useAt_60 (by decide) ?_
    refine EW_icmp_eq (tgt := 80) (pc2 := 64) rfl dX5_useAt_61 (by decide) (fun q => ?_) (fun q => ?_)
    · replace h := h.1 q
      refine EW_ls [0, 1, 2, 4] rfl ?_
      exact sX5_useAt_80 v1 v2 v4 x K L5 d bc bs hdp hL5 h
    · replace h := h.2 q
      refine EW_aload_n (pc2 := 65) rfl dX5_useAt_64 0 rfl ?_
      refine AW_getr (r := 172) ⟨gfRX5_33, rfl⟩ (pc2 := 68) rfl dX5_useAt_65 q165 rfl ?_
      refine EW_iload (pc2 := 70) rfl dX5_useAt_68 4 rfl ?_
      obtain ⟨b6, h⟩ := h
      refine AW_iald (pc2 := 71) rfl dX5_useAt_70 q172 b6 ?_
      refine EW_aload_n (pc2 := 72) rfl dX5_useAt_71 0 rfl ?_
      refine AW_getr (r := 172) ⟨gfRX5_33, rfl⟩ (pc2 := 75) rfl dX5_useAt_72 q165 rfl ?_
      refine EW_iload_n (pc2 := 76) rfl dX5_useAt_75 3 rfl ?_
      obtain ⟨b7, h⟩ := h
      refine AW_iald (pc2 := 77) rfl dX5_useAt_76 q172 b7 ?_
      refine EW_icmp_lt (tgt := 83) (pc2 := 80) rfl dX5_useAt_77 (by decide) (fun q => ?_) (fun q => ?_)
      · replace h := h.1 q
        refine EW_iinc (v4 + 1) (pc2 := 86) rfl dX5_useAt_83 4 rfl rfl (by decide) [1, 2, 3, 4, 0, 5] [(0, .ref 165), (1, .int v1), (2, .int v2), (3, .int v3), (4, .int (v4 + 1)), (5, .int s0)] rfl ?_
        refine EW_goto (tgt := 5) dX5_useAt_86 (by decide) ?_
        refine EW_ls [0, 1, 2, 3, 4] rfl ?_
        exact hL5 v3 (v4 + 1) h
      · replace h := h.2 q
        refine EW_ls [0, 1, 2, 4] rfl ?_
        exact sX5_useAt_80 v1 v2 v4 x K L5 d bc bs hdp hL5 h
set_option maxHeartbeats 4000000 in
set_option maxRecDepth 100000 in
theorem sX5_useAt_51 (v1 : Int32) (v2 : Int32) (v3 : Int32) (v4 : Int32)  (x : ab_X) (K : Int32 → Prop) (L5 : Int32 → Int32 → Prop) (d bc bs : Nat) (hdp : 0 ≤ d) (hL5 : ∀ (v3 : Int32) (v4 : Int32), L5 v3 v4 → EW MX5_useAt 5 [(0, .ref 165), (1, .int v1), (2, .int v2), (3, .int v3), (4, .int v4)] [] (aS x) d bc bs (liP x K)) (h : wX5_useAt_51 v1 v2 v3 v4 x K L5) : EW MX5_useAt 51 [(0, .ref 165), (1, .int v1), (2, .int v2), (3, .int v3), (4, .int v4)] [] (aS x) d bc bs (liP x K) := by
  unfold wX5_useAt_51 at h
  refine EW_iconst (pc2 := 52) (v := 0) rfl dX5_useAt_51 (by decide) ?_
  exact sX5_useAt_52 v1 v2 v3 v4 0 x K L5 d bc bs hdp hL5 h
set_option maxHeartbeats 4000000 in
set_option maxRecDepth 100000 in
theorem sX5_useAt_5 (v1 : Int32) (v2 : Int32) (v3 : Int32) (v4 : Int32)  (x : ab_X) (K : Int32 → Prop)  (d bc bs : Nat) (hdp : 0 ≤ d)  (h : Lp2 (lX5_useAt_5 v1 v2 x K ) v3 v4) : EW MX5_useAt 5 [(0, .ref 165), (1, .int v1), (2, .int v2), (3, .int v3), (4, .int v4)] [] (aS x) d bc bs (liP x K) := by
  refine Lp2.use (P := fun v3 v4 => EW MX5_useAt 5 [(0, .ref 165), (1, .int v1), (2, .int v2), (3, .int v3), (4, .int v4)] [] (aS x) d bc bs (liP x K)) (fun L5 v3 v4 hL5 h => ?_) v3 v4 h
  unfold lX5_useAt_5 at h
  refine EW_iload (pc2 := 7) rfl dX5_useAt_5 4 rfl ?_
  refine EW_aload_n (pc2 := 8) rfl dX5_useAt_7 0 rfl ?_
  refine AW_geti ⟨gfRX5_50, rfl⟩ (pc2 := 11) rfl dX5_useAt_8 q165 ?_
  refine EW_icmp_ge (tgt := 89) (pc2 := 14) rfl dX5_useAt_11 (by decide) (fun q => ?_) (fun q => ?_)
  · replace h := h.1 q
    refine EW_iload_n (pc2 := 90) rfl dX5_useAt_89 3 rfl ?_
    refine EW_iconst (pc2 := 91) (v := (-1)) rfl dX5_useAt_90 (by decide) ?_
    refine EW_icmp_ne (tgt := 109) (pc2 := 94) rfl dX5_useAt_91 (by decide) (fun q => ?_) (fun q => ?_)
    · replace h := h.1 q
      refine EW_aload_n (pc2 := 110) rfl dX5_useAt_109 0 rfl ?_
      refine AW_getr (r := 171) ⟨gfRX5_30, rfl⟩ (pc2 := 113) rfl dX5_useAt_110 q165 rfl ?_
      refine EW_iload_n (pc2 := 114) rfl dX5_useAt_113 3 rfl ?_
      obtain ⟨b1, h⟩ := h
      refine AW_iald (pc2 := 115) rfl dX5_useAt_114 q171 b1 ?_
      exact AW_iret rfl dX5_useAt_115 ⟨_, rfl, rfl, h⟩
    · replace h := h.2 q
      refine EW_aload_n (pc2 := 95) rfl dX5_useAt_94 0 rfl ?_
      refine AW_getr (r := 9) ⟨gfRX5_41, rfl⟩ (pc2 := 98) rfl dX5_useAt_95 q165 rfl ?_
      refine AW_getr (r := 10) ⟨gfRX5_53, rfl⟩ (pc2 := 101) rfl dX5_useAt_98 q9 rfl ?_
      refine EW_iload_n (pc2 := 102) rfl dX5_useAt_101 1 rfl ?_
      obtain ⟨b2, h⟩ := h
      refine AW_aald5 (pc2 := 103) rfl dX5_useAt_102 b2 ?_
      refine AW_geti ⟨gfRX5_64, rfl⟩ (pc2 := 106) rfl dX5_useAt_103 (isH.o (isH_of b2)) ?_
      refine EW_goto (tgt := 115) dX5_useAt_106 (by decide) ?_
      exact AW_iret rfl dX5_useAt_115 ⟨_, rfl, rfl, h⟩
  · replace h := h.2 q
    refine EW_aload_n (pc2 := 15) rfl dX5_useAt_14 0 rfl ?_
    refine AW_getr (r := 169) ⟨gfRX5_24, rfl⟩ (pc2 := 18) rfl dX5_useAt_15 q165 rfl ?_
    refine EW_iload (pc2 := 20) rfl dX5_useAt_18 4 rfl ?_
    obtain ⟨b3, h⟩ := h
    refine AW_iald (pc2 := 21) rfl dX5_useAt_20 q169 b3 ?_
    refine EW_iload_n (pc2 := 22) rfl dX5_useAt_21 1 rfl ?_
    refine EW_icmp_ne (tgt := 51) (pc2 := 25) rfl dX5_useAt_22 (by decide) (fun q => ?_) (fun q => ?_)
    · replace h := h.1 q
      exact sX5_useAt_51 v1 v2 v3 v4 x K L5 d bc bs hdp hL5 h
    · replace h := h.2 q
      refine EW_aload_n (pc2 := 26) rfl dX5_useAt_25 0 rfl ?_
      refine AW_getr (r := 171) ⟨gfRX5_30, rfl⟩ (pc2 := 29) rfl dX5_useAt_26 q165 rfl ?_
      refine EW_iload (pc2 := 31) rfl dX5_useAt_29 4 rfl ?_
      obtain ⟨b4, h⟩ := h
      refine AW_iald (pc2 := 32) rfl dX5_useAt_31 q171 b4 ?_
      refine EW_iconst (pc2 := 33) (v := (-1)) rfl dX5_useAt_32 (by decide) ?_
      refine EW_icmp_eq (tgt := 51) (pc2 := 36) rfl dX5_useAt_33 (by decide) (fun q => ?_) (fun q => ?_)
      · replace h := h.1 q
        exact sX5_useAt_51 v1 v2 v3 v4 x K L5 d bc bs hdp hL5 h
      · replace h := h.2 q
        refine EW_aload_n (pc2 := 37) rfl dX5_useAt_36 0 rfl ?_
        refine AW_getr (r := 170) ⟨gfRX5_27, rfl⟩ (pc2 := 40) rfl dX5_useAt_37 q165 rfl ?_
        refine EW_iload (pc2 := 42) rfl dX5_useAt_40 4 rfl ?_
        obtain ⟨b5, h⟩ := h
        refine AW_iald (pc2 := 43) rfl dX5_useAt_42 q170 b5 ?_
        refine EW_iload_n (pc2 := 44) rfl dX5_useAt_43 2 rfl ?_
        refine EW_icmp_gt (tgt := 51) (pc2 := 47) rfl dX5_useAt_44 (by decide) (fun q => ?_) (fun q => ?_)
        · replace h := h.1 q
          exact sX5_useAt_51 v1 v2 v3 v4 x K L5 d bc bs hdp hL5 h
        · replace h := h.2 q
          refine EW_iconst (pc2 := 48) (v := 1) rfl dX5_useAt_47 (by decide) ?_
          refine EW_goto (tgt := 52) dX5_useAt_48 (by decide) ?_
          exact sX5_useAt_52 v1 v2 v3 v4 1 x K L5 d bc bs hdp hL5 h
set_option maxHeartbeats 4000000 in
set_option maxRecDepth 100000 in
theorem sX5_useAt (v1 : Int32) (v2 : Int32)  (x : ab_X) (K : Int32 → Prop) (d bc bs : Nat) (hdp : 0 ≤ d) (h : wX5_useAt v1 v2 x K) : EW MX5_useAt 0 [(0, .ref 165), (1, .int v1), (2, .int v2)] [] (aS x) d bc bs (liP x K) := by
  unfold wX5_useAt at h
  refine EW_iconst (pc2 := 1) (v := (-1)) rfl dX5_useAt_0 (by decide) ?_
  refine EW_istore_n (pc2 := 2) rfl dX5_useAt_1 (by decide) [1, 2, 3, 0] [(0, .ref 165), (1, .int v1), (2, .int v2), (3, .int (-1))] rfl ?_
  refine EW_iconst (pc2 := 3) (v := 0) rfl dX5_useAt_2 (by decide) ?_
  refine EW_istore (pc2 := 5) rfl dX5_useAt_3 (by decide) [1, 2, 3, 4, 0] [(0, .ref 165), (1, .int v1), (2, .int v2), (3, .int (-1)), (4, .int 0)] rfl ?_
  exact sX5_useAt_5 v1 v2 (-1) 0 x K d bc bs hdp h
theorem gfRX5_38 : ab_L RX5 38 5 10 := ⟨by decide, by decide, ab_in 641 (by decide +kernel) (by decide +kernel)⟩
theorem mlRX5_125 : Cond.methodLink RX5 125 yX4_beside ∈ ab_G ∧ Cond.instanceMethod yX4_beside ∈ ab_G ∧ Cond.selects RX4 yX4_beside yX4_beside ∈ ab_G := ⟨ab_in 1567 (by decide +kernel) (by decide +kernel), ab_in 1568 (by decide +kernel) (by decide +kernel), ab_in 1569 (by decide +kernel) (by decide +kernel)⟩
theorem gfRX5_106 : ab_L RX5 106 4 0 := ⟨by decide, by decide, ab_in 215 (by decide +kernel) (by decide +kernel)⟩
theorem mlRX5_129 : Cond.methodLink RX5 129 yX5_daysSinceLook ∈ ab_G ∧ Cond.instanceMethod yX5_daysSinceLook ∈ ab_G ∧ Cond.selects RX5 yX5_daysSinceLook yX5_daysSinceLook ∈ ab_G := ⟨ab_in 1571 (by decide +kernel) (by decide +kernel), ab_in 1572 (by decide +kernel) (by decide +kernel), ab_in 1573 (by decide +kernel) (by decide +kernel)⟩
theorem gfRX5_118 : ab_L RX5 118 4 7 := ⟨by decide, by decide, ab_in 244 (by decide +kernel) (by decide +kernel)⟩
theorem gfRX5_121 : ab_L RX5 121 4 6 := ⟨by decide, by decide, ab_in 241 (by decide +kernel) (by decide +kernel)⟩
theorem gfRX5_92 : ab_L RX5 92 4 3 := ⟨by decide, by decide, ab_in 228 (by decide +kernel) (by decide +kernel)⟩
theorem gfRX5_103 : ab_L RX5 103 4 4 := ⟨by decide, by decide, ab_in 234 (by decide +kernel) (by decide +kernel)⟩
theorem mlRX5_109 : Cond.methodLink RX5 109 yX5_useAt ∈ ab_G ∧ Cond.instanceMethod yX5_useAt ∈ ab_G ∧ Cond.selects RX5 yX5_useAt yX5_useAt ∈ ab_G := ⟨ab_in 1566 (by decide +kernel) (by decide +kernel), ab_in 1544 (by decide +kernel) (by decide +kernel), ab_in 1545 (by decide +kernel) (by decide +kernel)⟩
theorem gfRX5_112 : ab_L RX5 112 4 2 := ⟨by decide, by decide, ab_in 223 (by decide +kernel) (by decide +kernel)⟩
theorem gfRX5_115 : ab_L RX5 115 4 5 := ⟨by decide, by decide, ab_in 238 (by decide +kernel) (by decide +kernel)⟩
theorem gfRX5_95 : ab_L RX5 95 4 12 := ⟨by decide, by decide, ab_in 258 (by decide +kernel) (by decide +kernel)⟩
theorem mmRX5_98 : Cond.methodLink RX5 98 Lib.Math.max.name ∈ ab_G ∧ Cond.static Lib.Math.max.name ∈ ab_G ∧ Cond.initialized "java/lang/Math" ∈ ab_G ∧ Cond.code Lib.Math.max.name Lib.Math.max.code 2 (some .int) ∈ ab_G := ⟨ab_in 1565 (by decide +kernel) (by decide +kernel), ab_in 909 (by decide +kernel) (by decide +kernel), ab_in 100 (by decide +kernel) (by decide +kernel), ab_in 910 (by decide +kernel) (by decide +kernel)⟩
abbrev MX5_spell : ab_M := (yX5_spell, cX5_spell, 5, none)
theorem dX5_spell_0 : decode cX5_spell 0 = .ok (.iconst 0, 1) := by decide +kernel
theorem dX5_spell_1 : decode cX5_spell 1 = .ok (.istore_n 3, 1) := by decide +kernel
theorem dX5_spell_2 : decode cX5_spell 2 = .ok (.iconst 0, 1) := by decide +kernel
theorem dX5_spell_3 : decode cX5_spell 3 = .ok (.istore 4, 2) := by decide +kernel
theorem dX5_spell_5 : decode cX5_spell 5 = .ok (.iload 4, 2) := by decide +kernel
theorem dX5_spell_7 : decode cX5_spell 7 = .ok (.aload_n 1, 1) := by decide +kernel
theorem dX5_spell_8 : decode cX5_spell 8 = .ok (.getfield 92, 3) := by decide +kernel
theorem dX5_spell_11 : decode cX5_spell 11 = .ok (.if_icmp .ge 21, 3) := by decide +kernel
theorem dX5_spell_14 : decode cX5_spell 14 = .ok (.iload_n 3, 1) := by decide +kernel
theorem dX5_spell_15 : decode cX5_spell 15 = .ok (.aload_n 1, 1) := by decide +kernel
theorem dX5_spell_16 : decode cX5_spell 16 = .ok (.getfield 95, 3) := by decide +kernel
theorem dX5_spell_19 : decode cX5_spell 19 = .ok (.iload 4, 2) := by decide +kernel
theorem dX5_spell_21 : decode cX5_spell 21 = .ok (.iaload, 1) := by decide +kernel
theorem dX5_spell_22 : decode cX5_spell 22 = .ok (.invokestatic 98, 3) := by decide +kernel
theorem dX5_spell_25 : decode cX5_spell 25 = .ok (.istore_n 3, 1) := by decide +kernel
theorem dX5_spell_26 : decode cX5_spell 26 = .ok (.iinc 4 1, 3) := by decide +kernel
theorem dX5_spell_29 : decode cX5_spell 29 = .ok (.goto (-24), 3) := by decide +kernel
theorem dX5_spell_32 : decode cX5_spell 32 = .ok (.aload_n 0, 1) := by decide +kernel
theorem dX5_spell_33 : decode cX5_spell 33 = .ok (.getfield 38, 3) := by decide +kernel
theorem dX5_spell_36 : decode cX5_spell 36 = .ok (.iconst 0, 1) := by decide +kernel
theorem dX5_spell_37 : decode cX5_spell 37 = .ok (.aload_n 1, 1) := by decide +kernel
theorem dX5_spell_38 : decode cX5_spell 38 = .ok (.getfield 92, 3) := by decide +kernel
theorem dX5_spell_41 : decode cX5_spell 41 = .ok (.iastore, 1) := by decide +kernel
theorem dX5_spell_42 : decode cX5_spell 42 = .ok (.aload_n 0, 1) := by decide +kernel
theorem dX5_spell_43 : decode cX5_spell 43 = .ok (.getfield 38, 3) := by decide +kernel
theorem dX5_spell_46 : decode cX5_spell 46 = .ok (.iconst 1, 1) := by decide +kernel
theorem dX5_spell_47 : decode cX5_spell 47 = .ok (.aload_n 1, 1) := by decide +kernel
theorem dX5_spell_48 : decode cX5_spell 48 = .ok (.getfield 103, 3) := by decide +kernel
theorem dX5_spell_51 : decode cX5_spell 51 = .ok (.iastore, 1) := by decide +kernel
theorem dX5_spell_52 : decode cX5_spell 52 = .ok (.aload_n 0, 1) := by decide +kernel
theorem dX5_spell_53 : decode cX5_spell 53 = .ok (.getfield 38, 3) := by decide +kernel
theorem dX5_spell_56 : decode cX5_spell 56 = .ok (.iconst 2, 1) := by decide +kernel
theorem dX5_spell_57 : decode cX5_spell 57 = .ok (.aload_n 0, 1) := by decide +kernel
theorem dX5_spell_58 : decode cX5_spell 58 = .ok (.aload_n 1, 1) := by decide +kernel
theorem dX5_spell_59 : decode cX5_spell 59 = .ok (.getfield 106, 3) := by decide +kernel
theorem dX5_spell_62 : decode cX5_spell 62 = .ok (.iload_n 2, 1) := by decide +kernel
theorem dX5_spell_63 : decode cX5_spell 63 = .ok (.invokevirtual 109, 3) := by decide +kernel
theorem dX5_spell_66 : decode cX5_spell 66 = .ok (.iastore, 1) := by decide +kernel
theorem dX5_spell_67 : decode cX5_spell 67 = .ok (.aload_n 0, 1) := by decide +kernel
theorem dX5_spell_68 : decode cX5_spell 68 = .ok (.getfield 38, 3) := by decide +kernel
theorem dX5_spell_71 : decode cX5_spell 71 = .ok (.iconst 3, 1) := by decide +kernel
theorem dX5_spell_72 : decode cX5_spell 72 = .ok (.aload_n 1, 1) := by decide +kernel
theorem dX5_spell_73 : decode cX5_spell 73 = .ok (.getfield 112, 3) := by decide +kernel
theorem dX5_spell_76 : decode cX5_spell 76 = .ok (.iastore, 1) := by decide +kernel
theorem dX5_spell_77 : decode cX5_spell 77 = .ok (.aload_n 0, 1) := by decide +kernel
theorem dX5_spell_78 : decode cX5_spell 78 = .ok (.getfield 38, 3) := by decide +kernel
theorem dX5_spell_81 : decode cX5_spell 81 = .ok (.iconst 4, 1) := by decide +kernel
theorem dX5_spell_82 : decode cX5_spell 82 = .ok (.iload_n 3, 1) := by decide +kernel
theorem dX5_spell_83 : decode cX5_spell 83 = .ok (.iastore, 1) := by decide +kernel
theorem dX5_spell_84 : decode cX5_spell 84 = .ok (.aload_n 0, 1) := by decide +kernel
theorem dX5_spell_85 : decode cX5_spell 85 = .ok (.getfield 38, 3) := by decide +kernel
theorem dX5_spell_88 : decode cX5_spell 88 = .ok (.iconst 5, 1) := by decide +kernel
theorem dX5_spell_89 : decode cX5_spell 89 = .ok (.aload_n 1, 1) := by decide +kernel
theorem dX5_spell_90 : decode cX5_spell 90 = .ok (.getfield 115, 3) := by decide +kernel
theorem dX5_spell_93 : decode cX5_spell 93 = .ok (.iconst (-1), 1) := by decide +kernel
theorem dX5_spell_94 : decode cX5_spell 94 = .ok (.if_icmp .ne 7, 3) := by decide +kernel
theorem dX5_spell_97 : decode cX5_spell 97 = .ok (.iconst 0, 1) := by decide +kernel
theorem dX5_spell_98 : decode cX5_spell 98 = .ok (.goto 4, 3) := by decide +kernel
theorem dX5_spell_101 : decode cX5_spell 101 = .ok (.iconst 1, 1) := by decide +kernel
theorem dX5_spell_102 : decode cX5_spell 102 = .ok (.iastore, 1) := by decide +kernel
theorem dX5_spell_103 : decode cX5_spell 103 = .ok (.aload_n 0, 1) := by decide +kernel
theorem dX5_spell_104 : decode cX5_spell 104 = .ok (.getfield 38, 3) := by decide +kernel
theorem dX5_spell_107 : decode cX5_spell 107 = .ok (.bipush 6, 2) := by decide +kernel
theorem dX5_spell_109 : decode cX5_spell 109 = .ok (.aload_n 1, 1) := by decide +kernel
theorem dX5_spell_110 : decode cX5_spell 110 = .ok (.getfield 118, 3) := by decide +kernel
theorem dX5_spell_113 : decode cX5_spell 113 = .ok (.iastore, 1) := by decide +kernel
theorem dX5_spell_114 : decode cX5_spell 114 = .ok (.aload_n 0, 1) := by decide +kernel
theorem dX5_spell_115 : decode cX5_spell 115 = .ok (.getfield 38, 3) := by decide +kernel
theorem dX5_spell_118 : decode cX5_spell 118 = .ok (.bipush 7, 2) := by decide +kernel
theorem dX5_spell_120 : decode cX5_spell 120 = .ok (.aload_n 1, 1) := by decide +kernel
theorem dX5_spell_121 : decode cX5_spell 121 = .ok (.getfield 59, 3) := by decide +kernel
theorem dX5_spell_124 : decode cX5_spell 124 = .ok (.iastore, 1) := by decide +kernel
theorem dX5_spell_125 : decode cX5_spell 125 = .ok (.aload_n 0, 1) := by decide +kernel
theorem dX5_spell_126 : decode cX5_spell 126 = .ok (.getfield 38, 3) := by decide +kernel
theorem dX5_spell_129 : decode cX5_spell 129 = .ok (.bipush 8, 2) := by decide +kernel
theorem dX5_spell_131 : decode cX5_spell 131 = .ok (.aload_n 1, 1) := by decide +kernel
theorem dX5_spell_132 : decode cX5_spell 132 = .ok (.getfield 121, 3) := by decide +kernel
theorem dX5_spell_135 : decode cX5_spell 135 = .ok (.ifCond .eq 7, 3) := by decide +kernel
theorem dX5_spell_138 : decode cX5_spell 138 = .ok (.iconst 1, 1) := by decide +kernel
theorem dX5_spell_139 : decode cX5_spell 139 = .ok (.goto 4, 3) := by decide +kernel
theorem dX5_spell_142 : decode cX5_spell 142 = .ok (.iconst 0, 1) := by decide +kernel
theorem dX5_spell_143 : decode cX5_spell 143 = .ok (.iastore, 1) := by decide +kernel
theorem dX5_spell_144 : decode cX5_spell 144 = .ok (.aload_n 0, 1) := by decide +kernel
theorem dX5_spell_145 : decode cX5_spell 145 = .ok (.getfield 38, 3) := by decide +kernel
theorem dX5_spell_148 : decode cX5_spell 148 = .ok (.bipush 9, 2) := by decide +kernel
theorem dX5_spell_150 : decode cX5_spell 150 = .ok (.aload_n 1, 1) := by decide +kernel
theorem dX5_spell_151 : decode cX5_spell 151 = .ok (.invokevirtual 125, 3) := by decide +kernel
theorem dX5_spell_154 : decode cX5_spell 154 = .ok (.iastore, 1) := by decide +kernel
theorem dX5_spell_155 : decode cX5_spell 155 = .ok (.aload_n 0, 1) := by decide +kernel
theorem dX5_spell_156 : decode cX5_spell 156 = .ok (.getfield 38, 3) := by decide +kernel
theorem dX5_spell_159 : decode cX5_spell 159 = .ok (.bipush 10, 2) := by decide +kernel
theorem dX5_spell_161 : decode cX5_spell 161 = .ok (.aload_n 0, 1) := by decide +kernel
theorem dX5_spell_162 : decode cX5_spell 162 = .ok (.aload_n 1, 1) := by decide +kernel
theorem dX5_spell_163 : decode cX5_spell 163 = .ok (.getfield 106, 3) := by decide +kernel
theorem dX5_spell_166 : decode cX5_spell 166 = .ok (.iload_n 2, 1) := by decide +kernel
theorem dX5_spell_167 : decode cX5_spell 167 = .ok (.invokevirtual 129, 3) := by decide +kernel
theorem dX5_spell_170 : decode cX5_spell 170 = .ok (.iastore, 1) := by decide +kernel
theorem dX5_spell_171 : decode cX5_spell 171 = .ok (.return_, 1) := by decide +kernel
theorem okX5_spell : ab_okM MX5_spell 2 := ⟨by decide, ⟨by decide, by decide⟩, ab_in 1564 (by decide +kernel) (by decide +kernel), ab_in 97 (by decide +kernel) (by decide +kernel), by decide +kernel, by decide⟩
set_option maxHeartbeats 4000000 in
set_option maxRecDepth 100000 in
theorem sX5_spell_143 (v1 : Nat) (v2 : Int32) (s1 : Int32) (s2 : Int32) (hv1 : isH v1) (x : ab_X) (K : ab_X → Prop)  (d bc bs : Nat) (hdp : 1 ≤ d)  (h : wX5_spell_143 v1 v2 s1 s2 x K ) : EW MX5_spell 143 [(0, .ref 165), (1, .ref v1), (2, .int v2)] [.int s2, .int s1, .ref 173] (aS x) d bc bs (liV K) := by
  unfold wX5_spell_143 at h
  obtain ⟨b11, h⟩ := h
  refine AW_iast (pc2 := 144) rfl dX5_spell_143 q173 b11 ?_
  refine EW_aload_n (pc2 := 145) rfl dX5_spell_144 0 rfl ?_
  refine AW_getr (r := 173) ⟨gfRX5_38, rfl⟩ (pc2 := 148) rfl dX5_spell_145 q165 rfl ?_
  refine EW_bipush (pc2 := 150) (v := 9) rfl dX5_spell_148 (by decide) ?_
  refine EW_aload_n (pc2 := 151) rfl dX5_spell_150 1 rfl ?_
  refine AW_invV (M' := MX4_beside) [] (rest := [.int 9, .ref 173]) mlRX5_125 okX4_beside (pc2 := 154) rfl dX5_spell_151 rfl rfl (Nat.le_of_ble_eq_true rfl) (Nat.le_of_ble_eq_true rfl) (d' := 0) (by omega) (isH.o hv1) ⟨by decide, rfl⟩ (EW_mono (fun _ _ hr => ?_) (sX4_beside v1 hv1 (wr x 173 (Int32.toNatClampNeg s1) s2) _ _ 0 0 (Nat.le_refl _) h))
  obtain ⟨r12, rfl, rfl, h⟩ := hr
  obtain ⟨b13, h⟩ := h
  refine AW_iast (pc2 := 155) rfl dX5_spell_154 q173 b13 ?_
  refine EW_aload_n (pc2 := 156) rfl dX5_spell_155 0 rfl ?_
  refine AW_getr (r := 173) ⟨gfRX5_38, rfl⟩ (pc2 := 159) rfl dX5_spell_156 q165 rfl ?_
  refine EW_bipush (pc2 := 161) (v := 10) rfl dX5_spell_159 (by decide) ?_
  refine EW_aload_n (pc2 := 162) rfl dX5_spell_161 0 rfl ?_
  refine EW_aload_n (pc2 := 163) rfl dX5_spell_162 1 rfl ?_
  refine AW_geti ⟨gfRX5_106, rfl⟩ (pc2 := 166) rfl dX5_spell_163 (isH.o hv1) ?_
  refine EW_iload_n (pc2 := 167) rfl dX5_spell_166 2 rfl ?_
  refine AW_invV (M' := MX5_daysSinceLook) [.int ((wr (wr x 173 (Int32.toNatClampNeg s1) s2) 173 (Int32.toNatClampNeg 9) r12).1 v1 0), .int v2] (rest := [.int 10, .ref 173]) mlRX5_129 okX5_daysSinceLook (pc2 := 170) rfl dX5_spell_167 rfl rfl (Nat.le_of_ble_eq_true rfl) (Nat.le_of_ble_eq_true rfl) (d' := 0) (by omega) q165 ⟨by decide, rfl⟩ (EW_mono (fun _ _ hr => ?_) (sX5_daysSinceLook ((wr (wr x 173 (Int32.toNatClampNeg s1) s2) 173 (Int32.toNatClampNeg 9) r12).1 v1 0) v2  (wr (wr x 173 (Int32.toNatClampNeg s1) s2) 173 (Int32.toNatClampNeg 9) r12) _ _ 0 0 (Nat.le_refl _) h))
  obtain ⟨r14, rfl, rfl, h⟩ := hr
  obtain ⟨b15, h⟩ := h
  refine AW_iast (pc2 := 171) rfl dX5_spell_170 q173 b15 ?_
  exact EW_vret rfl dX5_spell_171 ⟨_, rfl, rfl, h⟩
set_option maxHeartbeats 4000000 in
set_option maxRecDepth 100000 in
theorem sX5_spell_102 (v1 : Nat) (v2 : Int32) (s1 : Int32) (s2 : Int32) (hv1 : isH v1) (x : ab_X) (K : ab_X → Prop)  (d bc bs : Nat) (hdp : 1 ≤ d)  (h : wX5_spell_102 v1 v2 s1 s2 x K ) : EW MX5_spell 102 [(0, .ref 165), (1, .ref v1), (2, .int v2)] [.int s2, .int s1, .ref 173] (aS x) d bc bs (liV K) := by
  unfold wX5_spell_102 at h
  obtain ⟨b8, h⟩ := h
  refine AW_iast (pc2 := 103) rfl dX5_spell_102 q173 b8 ?_
  refine EW_aload_n (pc2 := 104) rfl dX5_spell_103 0 rfl ?_
  refine AW_getr (r := 173) ⟨gfRX5_38, rfl⟩ (pc2 := 107) rfl dX5_spell_104 q165 rfl ?_
  refine EW_bipush (pc2 := 109) (v := 6) rfl dX5_spell_107 (by decide) ?_
  refine EW_aload_n (pc2 := 110) rfl dX5_spell_109 1 rfl ?_
  refine AW_geti ⟨gfRX5_118, rfl⟩ (pc2 := 113) rfl dX5_spell_110 (isH.o hv1) ?_
  obtain ⟨b9, h⟩ := h
  refine AW_iast (pc2 := 114) rfl dX5_spell_113 q173 b9 ?_
  refine EW_aload_n (pc2 := 115) rfl dX5_spell_114 0 rfl ?_
  refine AW_getr (r := 173) ⟨gfRX5_38, rfl⟩ (pc2 := 118) rfl dX5_spell_115 q165 rfl ?_
  refine EW_bipush (pc2 := 120) (v := 7) rfl dX5_spell_118 (by decide) ?_
  refine EW_aload_n (pc2 := 121) rfl dX5_spell_120 1 rfl ?_
  refine AW_geti ⟨gfRX5_59, rfl⟩ (pc2 := 124) rfl dX5_spell_121 (isH.o hv1) ?_
  obtain ⟨b10, h⟩ := h
  refine AW_iast (pc2 := 125) rfl dX5_spell_124 q173 b10 ?_
  refine EW_aload_n (pc2 := 126) rfl dX5_spell_125 0 rfl ?_
  refine AW_getr (r := 173) ⟨gfRX5_38, rfl⟩ (pc2 := 129) rfl dX5_spell_126 q165 rfl ?_
  refine EW_bipush (pc2 := 131) (v := 8) rfl dX5_spell_129 (by decide) ?_
  refine EW_aload_n (pc2 := 132) rfl dX5_spell_131 1 rfl ?_
  refine AW_geti ⟨gfRX5_121, rfl⟩ (pc2 := 135) rfl dX5_spell_132 (isH.o hv1) ?_
  refine EW_if_eq (tgt := 142) (pc2 := 138) rfl dX5_spell_135 (by decide) (fun q => ?_) (fun q => ?_)
  · replace h := h.1 q
    refine EW_iconst (pc2 := 143) (v := 0) rfl dX5_spell_142 (by decide) ?_
    exact sX5_spell_143 v1 v2 8 0 hv1 (wr (wr (wr x 173 (Int32.toNatClampNeg s1) s2) 173 (Int32.toNatClampNeg 6) ((wr x 173 (Int32.toNatClampNeg s1) s2).1 v1 7)) 173 (Int32.toNatClampNeg 7) ((wr (wr x 173 (Int32.toNatClampNeg s1) s2) 173 (Int32.toNatClampNeg 6) ((wr x 173 (Int32.toNatClampNeg s1) s2).1 v1 7)).1 v1 8)) K d bc bs hdp h
  · replace h := h.2 q
    refine EW_iconst (pc2 := 139) (v := 1) rfl dX5_spell_138 (by decide) ?_
    refine EW_goto (tgt := 143) dX5_spell_139 (by decide) ?_
    exact sX5_spell_143 v1 v2 8 1 hv1 (wr (wr (wr x 173 (Int32.toNatClampNeg s1) s2) 173 (Int32.toNatClampNeg 6) ((wr x 173 (Int32.toNatClampNeg s1) s2).1 v1 7)) 173 (Int32.toNatClampNeg 7) ((wr (wr x 173 (Int32.toNatClampNeg s1) s2) 173 (Int32.toNatClampNeg 6) ((wr x 173 (Int32.toNatClampNeg s1) s2).1 v1 7)).1 v1 8)) K d bc bs hdp h
set_option maxHeartbeats 4000000 in
set_option maxRecDepth 100000 in
theorem sX5_spell_5 (v1 : Nat) (v2 : Int32) (v3 : Int32) (v4 : Int32) (hv1 : isH v1) (x : ab_X) (K : ab_X → Prop)  (d bc bs : Nat) (hdp : 1 ≤ d)  (h : Lp2 (lX5_spell_5 v1 v2 x K ) v3 v4) : EW MX5_spell 5 [(0, .ref 165), (1, .ref v1), (2, .int v2), (3, .int v3), (4, .int v4)] [] (aS x) d bc bs (liV K) := by
  refine Lp2.use (P := fun v3 v4 => EW MX5_spell 5 [(0, .ref 165), (1, .ref v1), (2, .int v2), (3, .int v3), (4, .int v4)] [] (aS x) d bc bs (liV K)) (fun L5 v3 v4 hL5 h => ?_) v3 v4 h
  unfold lX5_spell_5 at h
  refine EW_iload (pc2 := 7) rfl dX5_spell_5 4 rfl ?_
  refine EW_aload_n (pc2 := 8) rfl dX5_spell_7 1 rfl ?_
  refine AW_geti ⟨gfRX5_92, rfl⟩ (pc2 := 11) rfl dX5_spell_8 (isH.o hv1) ?_
  refine EW_icmp_ge (tgt := 32) (pc2 := 14) rfl dX5_spell_11 (by decide) (fun q => ?_) (fun q => ?_)
  · replace h := h.1 q
    refine EW_aload_n (pc2 := 33) rfl dX5_spell_32 0 rfl ?_
    refine AW_getr (r := 173) ⟨gfRX5_38, rfl⟩ (pc2 := 36) rfl dX5_spell_33 q165 rfl ?_
    refine EW_iconst (pc2 := 37) (v := 0) rfl dX5_spell_36 (by decide) ?_
    refine EW_aload_n (pc2 := 38) rfl dX5_spell_37 1 rfl ?_
    refine AW_geti ⟨gfRX5_92, rfl⟩ (pc2 := 41) rfl dX5_spell_38 (isH.o hv1) ?_
    obtain ⟨b1, h⟩ := h
    refine AW_iast (pc2 := 42) rfl dX5_spell_41 q173 b1 ?_
    refine EW_aload_n (pc2 := 43) rfl dX5_spell_42 0 rfl ?_
    refine AW_getr (r := 173) ⟨gfRX5_38, rfl⟩ (pc2 := 46) rfl dX5_spell_43 q165 rfl ?_
    refine EW_iconst (pc2 := 47) (v := 1) rfl dX5_spell_46 (by decide) ?_
    refine EW_aload_n (pc2 := 48) rfl dX5_spell_47 1 rfl ?_
    refine AW_geti ⟨gfRX5_103, rfl⟩ (pc2 := 51) rfl dX5_spell_48 (isH.o hv1) ?_
    obtain ⟨b2, h⟩ := h
    refine AW_iast (pc2 := 52) rfl dX5_spell_51 q173 b2 ?_
    refine EW_aload_n (pc2 := 53) rfl dX5_spell_52 0 rfl ?_
    refine AW_getr (r := 173) ⟨gfRX5_38, rfl⟩ (pc2 := 56) rfl dX5_spell_53 q165 rfl ?_
    refine EW_iconst (pc2 := 57) (v := 2) rfl dX5_spell_56 (by decide) ?_
    refine EW_aload_n (pc2 := 58) rfl dX5_spell_57 0 rfl ?_
    refine EW_aload_n (pc2 := 59) rfl dX5_spell_58 1 rfl ?_
    refine AW_geti ⟨gfRX5_106, rfl⟩ (pc2 := 62) rfl dX5_spell_59 (isH.o hv1) ?_
    refine EW_iload_n (pc2 := 63) rfl dX5_spell_62 2 rfl ?_
    refine AW_invV (M' := MX5_useAt) [.int ((wr (wr x 173 (Int32.toNatClampNeg 0) (x.1 v1 3)) 173 (Int32.toNatClampNeg 1) ((wr x 173 (Int32.toNatClampNeg 0) (x.1 v1 3)).1 v1 4)).1 v1 0), .int v2] (rest := [.int 2, .ref 173]) mlRX5_109 okX5_useAt (pc2 := 66) rfl dX5_spell_63 rfl rfl (Nat.le_of_ble_eq_true rfl) (Nat.le_of_ble_eq_true rfl) (d' := 0) (by omega) q165 ⟨by decide, rfl⟩ (EW_mono (fun _ _ hr => ?_) (sX5_useAt ((wr (wr x 173 (Int32.toNatClampNeg 0) (x.1 v1 3)) 173 (Int32.toNatClampNeg 1) ((wr x 173 (Int32.toNatClampNeg 0) (x.1 v1 3)).1 v1 4)).1 v1 0) v2  (wr (wr x 173 (Int32.toNatClampNeg 0) (x.1 v1 3)) 173 (Int32.toNatClampNeg 1) ((wr x 173 (Int32.toNatClampNeg 0) (x.1 v1 3)).1 v1 4)) _ _ 0 0 (Nat.le_refl _) h))
    obtain ⟨r3, rfl, rfl, h⟩ := hr
    obtain ⟨b4, h⟩ := h
    refine AW_iast (pc2 := 67) rfl dX5_spell_66 q173 b4 ?_
    refine EW_aload_n (pc2 := 68) rfl dX5_spell_67 0 rfl ?_
    refine AW_getr (r := 173) ⟨gfRX5_38, rfl⟩ (pc2 := 71) rfl dX5_spell_68 q165 rfl ?_
    refine EW_iconst (pc2 := 72) (v := 3) rfl dX5_spell_71 (by decide) ?_
    refine EW_aload_n (pc2 := 73) rfl dX5_spell_72 1 rfl ?_
    refine AW_geti ⟨gfRX5_112, rfl⟩ (pc2 := 76) rfl dX5_spell_73 (isH.o hv1) ?_
    obtain ⟨b5, h⟩ := h
    refine AW_iast (pc2 := 77) rfl dX5_spell_76 q173 b5 ?_
    refine EW_aload_n (pc2 := 78) rfl dX5_spell_77 0 rfl ?_
    refine AW_getr (r := 173) ⟨gfRX5_38, rfl⟩ (pc2 := 81) rfl dX5_spell_78 q165 rfl ?_
    refine EW_iconst (pc2 := 82) (v := 4) rfl dX5_spell_81 (by decide) ?_
    refine EW_iload_n (pc2 := 83) rfl dX5_spell_82 3 rfl ?_
    obtain ⟨b6, h⟩ := h
    refine AW_iast (pc2 := 84) rfl dX5_spell_83 q173 b6 ?_
    refine EW_aload_n (pc2 := 85) rfl dX5_spell_84 0 rfl ?_
    refine AW_getr (r := 173) ⟨gfRX5_38, rfl⟩ (pc2 := 88) rfl dX5_spell_85 q165 rfl ?_
    refine EW_iconst (pc2 := 89) (v := 5) rfl dX5_spell_88 (by decide) ?_
    refine EW_aload_n (pc2 := 90) rfl dX5_spell_89 1 rfl ?_
    refine AW_geti ⟨gfRX5_115, rfl⟩ (pc2 := 93) rfl dX5_spell_90 (isH.o hv1) ?_
    refine EW_iconst (pc2 := 94) (v := (-1)) rfl dX5_spell_93 (by decide) ?_
    refine EW_icmp_ne (tgt := 101) (pc2 := 97) rfl dX5_spell_94 (by decide) (fun q => ?_) (fun q => ?_)
    · replace h := h.1 q
      refine EW_iconst (pc2 := 102) (v := 1) rfl dX5_spell_101 (by decide) ?_
      refine EW_ls [0, 1, 2] rfl ?_
      exact sX5_spell_102 v1 v2 5 1 hv1 (wr (wr (wr (wr (wr x 173 (Int32.toNatClampNeg 0) (x.1 v1 3)) 173 (Int32.toNatClampNeg 1) ((wr x 173 (Int32.toNatClampNeg 0) (x.1 v1 3)).1 v1 4)) 173 (Int32.toNatClampNeg 2) r3) 173 (Int32.toNatClampNeg 3) ((wr (wr (wr x 173 (Int32.toNatClampNeg 0) (x.1 v1 3)) 173 (Int32.toNatClampNeg 1) ((wr x 173 (Int32.toNatClampNeg 0) (x.1 v1 3)).1 v1 4)) 173 (Int32.toNatClampNeg 2) r3).1 v1 2)) 173 (Int32.toNatClampNeg 4) v3) K d bc bs hdp h
    · replace h := h.2 q
      refine EW_iconst (pc2 := 98) (v := 0) rfl dX5_spell_97 (by decide) ?_
      refine EW_goto (tgt := 102) dX5_spell_98 (by decide) ?_
      refine EW_ls [0, 1, 2] rfl ?_
      exact sX5_spell_102 v1 v2 5 0 hv1 (wr (wr (wr (wr (wr x 173 (Int32.toNatClampNeg 0) (x.1 v1 3)) 173 (Int32.toNatClampNeg 1) ((wr x 173 (Int32.toNatClampNeg 0) (x.1 v1 3)).1 v1 4)) 173 (Int32.toNatClampNeg 2) r3) 173 (Int32.toNatClampNeg 3) ((wr (wr (wr x 173 (Int32.toNatClampNeg 0) (x.1 v1 3)) 173 (Int32.toNatClampNeg 1) ((wr x 173 (Int32.toNatClampNeg 0) (x.1 v1 3)).1 v1 4)) 173 (Int32.toNatClampNeg 2) r3).1 v1 2)) 173 (Int32.toNatClampNeg 4) v3) K d bc bs hdp h
  · replace h := h.2 q
    refine EW_iload_n (pc2 := 15) rfl dX5_spell_14 3 rfl ?_
    refine EW_aload_n (pc2 := 16) rfl dX5_spell_15 1 rfl ?_
    refine AW_getr (r := (v1 + 1)) ⟨gfRX5_95, rfl⟩ (pc2 := 19) rfl dX5_spell_16 (isH.o hv1) (isH.r1 hv1) ?_
    refine EW_iload (pc2 := 21) rfl dX5_spell_19 4 rfl ?_
    obtain ⟨b7, h⟩ := h
    refine AW_iald (pc2 := 22) rfl dX5_spell_21 (isH.a1 hv1) b7 ?_
    refine AW_mmax mmRX5_98 (pc2 := 25) rfl dX5_spell_22 (Nat.le_of_ble_eq_true rfl) (by omega) ?_
    refine EW_istore_n (pc2 := 26) rfl dX5_spell_25 (by decide) [1, 2, 3, 0, 4] [(0, .ref 165), (1, .ref v1), (2, .int v2), (3, .int (imax v3 (x.1 (v1 + 1) (Int32.toNatClampNeg v4)))), (4, .int v4)] rfl ?_
    refine EW_iinc (v4 + 1) (pc2 := 29) rfl dX5_spell_26 4 rfl rfl (by decide) [1, 2, 3, 4, 0] [(0, .ref 165), (1, .ref v1), (2, .int v2), (3, .int (imax v3 (x.1 (v1 + 1) (Int32.toNatClampNeg v4)))), (4, .int (v4 + 1))] rfl ?_
    refine EW_goto (tgt := 5) dX5_spell_29 (by decide) ?_
    exact hL5 (imax v3 (x.1 (v1 + 1) (Int32.toNatClampNeg v4))) (v4 + 1) h
set_option maxHeartbeats 4000000 in
set_option maxRecDepth 100000 in
theorem sX5_spell (v1 : Nat) (v2 : Int32) (hv1 : isH v1) (x : ab_X) (K : ab_X → Prop) (d bc bs : Nat) (hdp : 1 ≤ d) (h : wX5_spell v1 v2 x K) : EW MX5_spell 0 [(0, .ref 165), (1, .ref v1), (2, .int v2)] [] (aS x) d bc bs (liV K) := by
  unfold wX5_spell at h
  refine EW_iconst (pc2 := 1) (v := 0) rfl dX5_spell_0 (by decide) ?_
  refine EW_istore_n (pc2 := 2) rfl dX5_spell_1 (by decide) [1, 2, 3, 0] [(0, .ref 165), (1, .ref v1), (2, .int v2), (3, .int 0)] rfl ?_
  refine EW_iconst (pc2 := 3) (v := 0) rfl dX5_spell_2 (by decide) ?_
  refine EW_istore (pc2 := 5) rfl dX5_spell_3 (by decide) [1, 2, 3, 4, 0] [(0, .ref 165), (1, .ref v1), (2, .int v2), (3, .int 0), (4, .int 0)] rfl ?_
  exact sX5_spell_5 v1 v2 0 0 hv1 x K d bc bs hdp h
theorem mlRX5_67 : Cond.methodLink RX5 67 yX5_actFor ∈ ab_G ∧ Cond.instanceMethod yX5_actFor ∈ ab_G ∧ Cond.selects RX5 yX5_actFor yX5_actFor ∈ ab_G := ⟨ab_in 1559 (by decide +kernel) (by decide +kernel), ab_in 1528 (by decide +kernel) (by decide +kernel), ab_in 1529 (by decide +kernel) (by decide +kernel)⟩
theorem mlRX5_71 : Cond.methodLinkNest RX5 71 yX11_below "CityBrigade" ∈ tables_1.filter ab_isN ∧ Cond.static yX11_below ∈ ab_G := ⟨List.mem_filter.mpr ⟨List.mem_of_getElem? (i := 1475) (by decide +kernel), rfl⟩, ab_in 794 (by decide +kernel) (by decide +kernel)⟩
theorem mlRX5_75 : Cond.methodLink RX5 75 yX5_spell ∈ ab_G ∧ Cond.instanceMethod yX5_spell ∈ ab_G ∧ Cond.selects RX5 yX5_spell yX5_spell ∈ ab_G := ⟨ab_in 1561 (by decide +kernel) (by decide +kernel), ab_in 1562 (by decide +kernel) (by decide +kernel), ab_in 1563 (by decide +kernel) (by decide +kernel)⟩
theorem gfRX5_11 : ab_L RX5 11 5 1 := ⟨by decide, by decide, ab_in 630 (by decide +kernel) (by decide +kernel)⟩
theorem mlRX5_79 : Cond.methodLink RX5 79 yX9_run ∈ ab_G ∧ Cond.instanceMethod yX9_run ∈ ab_G ∧ Cond.selects RX9 yX9_run yX9_run ∈ ab_G := ⟨ab_in 1575 (by decide +kernel) (by decide +kernel), ab_in 1074 (by decide +kernel) (by decide +kernel), ab_in 1075 (by decide +kernel) (by decide +kernel)⟩
theorem gfRX5_83 : ab_L RX5 83 9 9 := ⟨by decide, by decide, ab_in 382 (by decide +kernel) (by decide +kernel)⟩
abbrev MX5_failures : ab_M := (yX5_failures, cX5_failures, 4, (some .int))
theorem dX5_failures_0 : decode cX5_failures 0 = .ok (.aload_n 0, 1) := by decide +kernel
theorem dX5_failures_1 : decode cX5_failures 1 = .ok (.iload_n 1, 1) := by decide +kernel
theorem dX5_failures_2 : decode cX5_failures 2 = .ok (.iload_n 2, 1) := by decide +kernel
theorem dX5_failures_3 : decode cX5_failures 3 = .ok (.invokevirtual 67, 3) := by decide +kernel
theorem dX5_failures_6 : decode cX5_failures 6 = .ok (.istore_n 3, 1) := by decide +kernel
theorem dX5_failures_7 : decode cX5_failures 7 = .ok (.iload_n 3, 1) := by decide +kernel
theorem dX5_failures_8 : decode cX5_failures 8 = .ok (.aload_n 0, 1) := by decide +kernel
theorem dX5_failures_9 : decode cX5_failures 9 = .ok (.getfield 46, 3) := by decide +kernel
theorem dX5_failures_12 : decode cX5_failures 12 = .ok (.invokestatic 71, 3) := by decide +kernel
theorem dX5_failures_15 : decode cX5_failures 15 = .ok (.ifCond .ne 5, 3) := by decide +kernel
theorem dX5_failures_18 : decode cX5_failures 18 = .ok (.iconst 0, 1) := by decide +kernel
theorem dX5_failures_19 : decode cX5_failures 19 = .ok (.ireturn, 1) := by decide +kernel
theorem dX5_failures_20 : decode cX5_failures 20 = .ok (.aload_n 0, 1) := by decide +kernel
theorem dX5_failures_21 : decode cX5_failures 21 = .ok (.aload_n 0, 1) := by decide +kernel
theorem dX5_failures_22 : decode cX5_failures 22 = .ok (.getfield 41, 3) := by decide +kernel
theorem dX5_failures_25 : decode cX5_failures 25 = .ok (.getfield 53, 3) := by decide +kernel
theorem dX5_failures_28 : decode cX5_failures 28 = .ok (.iload_n 1, 1) := by decide +kernel
theorem dX5_failures_29 : decode cX5_failures 29 = .ok (.aaload, 1) := by decide +kernel
theorem dX5_failures_30 : decode cX5_failures 30 = .ok (.iload_n 2, 1) := by decide +kernel
theorem dX5_failures_31 : decode cX5_failures 31 = .ok (.invokevirtual 75, 3) := by decide +kernel
theorem dX5_failures_34 : decode cX5_failures 34 = .ok (.aload_n 0, 1) := by decide +kernel
theorem dX5_failures_35 : decode cX5_failures 35 = .ok (.getfield 11, 3) := by decide +kernel
theorem dX5_failures_38 : decode cX5_failures 38 = .ok (.iload_n 3, 1) := by decide +kernel
theorem dX5_failures_39 : decode cX5_failures 39 = .ok (.aaload, 1) := by decide +kernel
theorem dX5_failures_40 : decode cX5_failures 40 = .ok (.aload_n 0, 1) := by decide +kernel
theorem dX5_failures_41 : decode cX5_failures 41 = .ok (.getfield 38, 3) := by decide +kernel
theorem dX5_failures_44 : decode cX5_failures 44 = .ok (.invokevirtual 79, 3) := by decide +kernel
theorem dX5_failures_47 : decode cX5_failures 47 = .ok (.aload_n 0, 1) := by decide +kernel
theorem dX5_failures_48 : decode cX5_failures 48 = .ok (.getfield 11, 3) := by decide +kernel
theorem dX5_failures_51 : decode cX5_failures 51 = .ok (.iload_n 3, 1) := by decide +kernel
theorem dX5_failures_52 : decode cX5_failures 52 = .ok (.aaload, 1) := by decide +kernel
theorem dX5_failures_53 : decode cX5_failures 53 = .ok (.getfield 83, 3) := by decide +kernel
theorem dX5_failures_56 : decode cX5_failures 56 = .ok (.ireturn, 1) := by decide +kernel
theorem okX5_failures : ab_okM MX5_failures 2 := ⟨by decide, ⟨by decide, by decide⟩, ab_in 1558 (by decide +kernel) (by decide +kernel), ab_in 97 (by decide +kernel) (by decide +kernel), by decide +kernel, by decide⟩
set_option maxHeartbeats 4000000 in
set_option maxRecDepth 100000 in
theorem sX5_failures (v1 : Int32) (v2 : Int32)  (x : ab_X) (K : Int32 → ab_X → Prop) (d bc bs : Nat) (hdp : 3 ≤ d) (h : wX5_failures v1 v2 x K) : EW MX5_failures 0 [(0, .ref 165), (1, .int v1), (2, .int v2)] [] (aS x) d bc bs (liI K) := by
  unfold wX5_failures at h
  refine EW_aload_n (pc2 := 1) rfl dX5_failures_0 0 rfl ?_
  refine EW_iload_n (pc2 := 2) rfl dX5_failures_1 1 rfl ?_
  refine EW_iload_n (pc2 := 3) rfl dX5_failures_2 2 rfl ?_
  refine AW_invV (M' := MX5_actFor) [.int v1, .int v2] (rest := []) mlRX5_67 okX5_actFor (pc2 := 6) rfl dX5_failures_3 rfl rfl (Nat.le_of_ble_eq_true rfl) (Nat.le_of_ble_eq_true rfl) (d' := 0) (by omega) q165 ⟨by decide, rfl⟩ (EW_mono (fun _ _ hr => ?_) (sX5_actFor v1 v2  x _ _ 0 0 (Nat.le_refl _) h))
  obtain ⟨r1, rfl, rfl, h⟩ := hr
  refine EW_istore_n (pc2 := 7) rfl dX5_failures_6 (by decide) [1, 2, 3, 0] [(0, .ref 165), (1, .int v1), (2, .int v2), (3, .int r1)] rfl ?_
  refine EW_iload_n (pc2 := 8) rfl dX5_failures_7 3 rfl ?_
  refine EW_aload_n (pc2 := 9) rfl dX5_failures_8 0 rfl ?_
  refine AW_geti ⟨gfRX5_46, rfl⟩ (pc2 := 12) rfl dX5_failures_9 q165 ?_
  refine AW_invSN (M' := MX11_below) [.int r1, .int (x.1 165 4)] (rest := []) mlRX5_71 okX11_below (pc2 := 15) rfl dX5_failures_12 rfl rfl (Nat.le_of_ble_eq_true rfl) (Nat.le_of_ble_eq_true rfl) (d' := 0) (by omega) (EW_mono (fun _ _ hr => ?_) (sX11_below r1 (x.1 165 4)  x _ _ 0 0 (Nat.le_refl _) h))
  obtain ⟨r2, rfl, rfl, h⟩ := hr
  refine EW_if_ne (tgt := 20) (pc2 := 18) rfl dX5_failures_15 (by decide) (fun q => ?_) (fun q => ?_)
  · replace h := h.1 q
    refine EW_aload_n (pc2 := 21) rfl dX5_failures_20 0 rfl ?_
    refine EW_aload_n (pc2 := 22) rfl dX5_failures_21 0 rfl ?_
    refine AW_getr (r := 9) ⟨gfRX5_41, rfl⟩ (pc2 := 25) rfl dX5_failures_22 q165 rfl ?_
    refine AW_getr (r := 10) ⟨gfRX5_53, rfl⟩ (pc2 := 28) rfl dX5_failures_25 q9 rfl ?_
    refine EW_iload_n (pc2 := 29) rfl dX5_failures_28 1 rfl ?_
    obtain ⟨b3, h⟩ := h
    refine AW_aald5 (pc2 := 30) rfl dX5_failures_29 b3 ?_
    refine EW_iload_n (pc2 := 31) rfl dX5_failures_30 2 rfl ?_
    refine AW_invV (M' := MX5_spell) [.ref (30 + 3 * Int32.toNatClampNeg v1), .int v2] (rest := []) mlRX5_75 okX5_spell (pc2 := 34) rfl dX5_failures_31 rfl rfl (Nat.le_of_ble_eq_true rfl) (Nat.le_of_ble_eq_true rfl) (d' := 1) (by omega) q165 ⟨by decide, rfl⟩ (EW_mono (fun _ _ hr => ?_) (sX5_spell (30 + 3 * Int32.toNatClampNeg v1) v2 (isH_of b3) x _ _ 0 0 (Nat.le_refl _) h))
    obtain ⟨x4, rfl, rfl, h⟩ := hr
    refine EW_aload_n (pc2 := 35) rfl dX5_failures_34 0 rfl ?_
    refine AW_getr (r := 166) ⟨gfRX5_11, rfl⟩ (pc2 := 38) rfl dX5_failures_35 q165 rfl ?_
    refine EW_iload_n (pc2 := 39) rfl dX5_failures_38 3 rfl ?_
    obtain ⟨b5, h⟩ := h
    refine AW_aald8 (pc2 := 40) rfl dX5_failures_39 b5 ?_
    refine EW_aload_n (pc2 := 41) rfl dX5_failures_40 0 rfl ?_
    refine AW_getr (r := 173) ⟨gfRX5_38, rfl⟩ (pc2 := 44) rfl dX5_failures_41 q165 rfl ?_
    refine AW_invV (M' := MX9_run) [.ref 173] (rest := []) mlRX5_79 okX9_run (pc2 := 47) rfl dX5_failures_44 rfl rfl (Nat.le_of_ble_eq_true rfl) (Nat.le_of_ble_eq_true rfl) (d' := 2) (by omega) (isT.o (isT_of b5)) ⟨by decide, rfl⟩ (EW_mono (fun _ _ hr => ?_) (sX9_run (174 + 5 * Int32.toNatClampNeg r1) 173 (isT_of b5) (Or.inr rfl : isLA 173) x4 _ _ 0 0 (Nat.le_refl _) h))
    obtain ⟨x6, rfl, rfl, h⟩ := hr
    refine EW_aload_n (pc2 := 48) rfl dX5_failures_47 0 rfl ?_
    refine AW_getr (r := 166) ⟨gfRX5_11, rfl⟩ (pc2 := 51) rfl dX5_failures_48 q165 rfl ?_
    refine EW_iload_n (pc2 := 52) rfl dX5_failures_51 3 rfl ?_
    obtain ⟨b7, h⟩ := h
    refine AW_aald8 (pc2 := 53) rfl dX5_failures_52 b7 ?_
    refine AW_geti ⟨gfRX5_83, rfl⟩ (pc2 := 56) rfl dX5_failures_53 (isT.o (isT_of b7)) ?_
    exact AW_iret rfl dX5_failures_56 ⟨_, _, rfl, rfl, h⟩
  · replace h := h.2 q
    refine EW_iconst (pc2 := 19) (v := 0) rfl dX5_failures_18 (by decide) ?_
    exact AW_iret rfl dX5_failures_19 ⟨_, _, rfl, rfl, h⟩
theorem mlRX5_86 : Cond.methodLink RX5 86 yX5_failures ∈ ab_G ∧ Cond.instanceMethod yX5_failures ∈ ab_G ∧ Cond.selects RX5 yX5_failures yX5_failures ∈ ab_G := ⟨ab_in 1584 (by decide +kernel) (by decide +kernel), ab_in 1556 (by decide +kernel) (by decide +kernel), ab_in 1557 (by decide +kernel) (by decide +kernel)⟩
theorem gfRX5_89 : ab_L RX5 89 9 8 := ⟨by decide, by decide, ab_in 380 (by decide +kernel) (by decide +kernel)⟩
abbrev MX5_codeAt : ab_M := (yX5_codeAt, cX5_codeAt, 5, (some .int))
theorem dX5_codeAt_0 : decode cX5_codeAt 0 = .ok (.aload_n 0, 1) := by decide +kernel
theorem dX5_codeAt_1 : decode cX5_codeAt 1 = .ok (.iload_n 1, 1) := by decide +kernel
theorem dX5_codeAt_2 : decode cX5_codeAt 2 = .ok (.iload_n 2, 1) := by decide +kernel
theorem dX5_codeAt_3 : decode cX5_codeAt 3 = .ok (.invokevirtual 67, 3) := by decide +kernel
theorem dX5_codeAt_6 : decode cX5_codeAt 6 = .ok (.istore 4, 2) := by decide +kernel
theorem dX5_codeAt_8 : decode cX5_codeAt 8 = .ok (.iload 4, 2) := by decide +kernel
theorem dX5_codeAt_10 : decode cX5_codeAt 10 = .ok (.aload_n 0, 1) := by decide +kernel
theorem dX5_codeAt_11 : decode cX5_codeAt 11 = .ok (.getfield 46, 3) := by decide +kernel
theorem dX5_codeAt_14 : decode cX5_codeAt 14 = .ok (.invokestatic 71, 3) := by decide +kernel
theorem dX5_codeAt_17 : decode cX5_codeAt 17 = .ok (.ifCond .eq 31, 3) := by decide +kernel
theorem dX5_codeAt_20 : decode cX5_codeAt 20 = .ok (.iload_n 3, 1) := by decide +kernel
theorem dX5_codeAt_21 : decode cX5_codeAt 21 = .ok (.aload_n 0, 1) := by decide +kernel
theorem dX5_codeAt_22 : decode cX5_codeAt 22 = .ok (.iload_n 1, 1) := by decide +kernel
theorem dX5_codeAt_23 : decode cX5_codeAt 23 = .ok (.iload_n 2, 1) := by decide +kernel
theorem dX5_codeAt_24 : decode cX5_codeAt 24 = .ok (.invokevirtual 86, 3) := by decide +kernel
theorem dX5_codeAt_27 : decode cX5_codeAt 27 = .ok (.invokestatic 71, 3) := by decide +kernel
theorem dX5_codeAt_30 : decode cX5_codeAt 30 = .ok (.ifCond .eq 18, 3) := by decide +kernel
theorem dX5_codeAt_33 : decode cX5_codeAt 33 = .ok (.aload_n 0, 1) := by decide +kernel
theorem dX5_codeAt_34 : decode cX5_codeAt 34 = .ok (.getfield 11, 3) := by decide +kernel
theorem dX5_codeAt_37 : decode cX5_codeAt 37 = .ok (.iload 4, 2) := by decide +kernel
theorem dX5_codeAt_39 : decode cX5_codeAt 39 = .ok (.aaload, 1) := by decide +kernel
theorem dX5_codeAt_40 : decode cX5_codeAt 40 = .ok (.getfield 89, 3) := by decide +kernel
theorem dX5_codeAt_43 : decode cX5_codeAt 43 = .ok (.iload_n 3, 1) := by decide +kernel
theorem dX5_codeAt_44 : decode cX5_codeAt 44 = .ok (.iaload, 1) := by decide +kernel
theorem dX5_codeAt_45 : decode cX5_codeAt 45 = .ok (.goto 4, 3) := by decide +kernel
theorem dX5_codeAt_48 : decode cX5_codeAt 48 = .ok (.iconst (-1), 1) := by decide +kernel
theorem dX5_codeAt_49 : decode cX5_codeAt 49 = .ok (.ireturn, 1) := by decide +kernel
theorem okX5_codeAt : ab_okM MX5_codeAt 3 := ⟨by decide, ⟨by decide, by decide⟩, ab_in 1583 (by decide +kernel) (by decide +kernel), ab_in 97 (by decide +kernel) (by decide +kernel), by decide +kernel, by decide⟩
set_option maxHeartbeats 4000000 in
set_option maxRecDepth 100000 in
theorem sX5_codeAt (v1 : Int32) (v2 : Int32) (v3 : Int32)  (x : ab_X) (K : Int32 → ab_X → Prop) (d bc bs : Nat) (hdp : 4 ≤ d) (h : wX5_codeAt v1 v2 v3 x K) : EW MX5_codeAt 0 [(0, .ref 165), (1, .int v1), (2, .int v2), (3, .int v3)] [] (aS x) d bc bs (liI K) := by
  unfold wX5_codeAt at h
  refine EW_aload_n (pc2 := 1) rfl dX5_codeAt_0 0 rfl ?_
  refine EW_iload_n (pc2 := 2) rfl dX5_codeAt_1 1 rfl ?_
  refine EW_iload_n (pc2 := 3) rfl dX5_codeAt_2 2 rfl ?_
  refine AW_invV (M' := MX5_actFor) [.int v1, .int v2] (rest := []) mlRX5_67 okX5_actFor (pc2 := 6) rfl dX5_codeAt_3 rfl rfl (Nat.le_of_ble_eq_true rfl) (Nat.le_of_ble_eq_true rfl) (d' := 0) (by omega) q165 ⟨by decide, rfl⟩ (EW_mono (fun _ _ hr => ?_) (sX5_actFor v1 v2  x _ _ 0 0 (Nat.le_refl _) h))
  obtain ⟨r1, rfl, rfl, h⟩ := hr
  refine EW_istore (pc2 := 8) rfl dX5_codeAt_6 (by decide) [1, 2, 3, 4, 0] [(0, .ref 165), (1, .int v1), (2, .int v2), (3, .int v3), (4, .int r1)] rfl ?_
  refine EW_iload (pc2 := 10) rfl dX5_codeAt_8 4 rfl ?_
  refine EW_aload_n (pc2 := 11) rfl dX5_codeAt_10 0 rfl ?_
  refine AW_geti ⟨gfRX5_46, rfl⟩ (pc2 := 14) rfl dX5_codeAt_11 q165 ?_
  refine AW_invSN (M' := MX11_below) [.int r1, .int (x.1 165 4)] (rest := []) mlRX5_71 okX11_below (pc2 := 17) rfl dX5_codeAt_14 rfl rfl (Nat.le_of_ble_eq_true rfl) (Nat.le_of_ble_eq_true rfl) (d' := 0) (by omega) (EW_mono (fun _ _ hr => ?_) (sX11_below r1 (x.1 165 4)  x _ _ 0 0 (Nat.le_refl _) h))
  obtain ⟨r2, rfl, rfl, h⟩ := hr
  refine EW_if_eq (tgt := 48) (pc2 := 20) rfl dX5_codeAt_17 (by decide) (fun q => ?_) (fun q => ?_)
  · replace h := h.1 q
    refine EW_iconst (pc2 := 49) (v := (-1)) rfl dX5_codeAt_48 (by decide) ?_
    exact AW_iret rfl dX5_codeAt_49 ⟨_, _, rfl, rfl, h⟩
  · replace h := h.2 q
    refine EW_iload_n (pc2 := 21) rfl dX5_codeAt_20 3 rfl ?_
    refine EW_aload_n (pc2 := 22) rfl dX5_codeAt_21 0 rfl ?_
    refine EW_iload_n (pc2 := 23) rfl dX5_codeAt_22 1 rfl ?_
    refine EW_iload_n (pc2 := 24) rfl dX5_codeAt_23 2 rfl ?_
    refine AW_invV (M' := MX5_failures) [.int v1, .int v2] (rest := [.int v3]) mlRX5_86 okX5_failures (pc2 := 27) rfl dX5_codeAt_24 rfl rfl (Nat.le_of_ble_eq_true rfl) (Nat.le_of_ble_eq_true rfl) (d' := 3) (by omega) q165 ⟨by decide, rfl⟩ (EW_mono (fun _ _ hr => ?_) (sX5_failures v1 v2  x _ _ 0 0 (Nat.le_refl _) h))
    obtain ⟨r3, x4, rfl, rfl, h⟩ := hr
    refine AW_invSN (M' := MX11_below) [.int v3, .int r3] (rest := []) mlRX5_71 okX11_below (pc2 := 30) rfl dX5_codeAt_27 rfl rfl (Nat.le_of_ble_eq_true rfl) (Nat.le_of_ble_eq_true rfl) (d' := 0) (by omega) (EW_mono (fun _ _ hr => ?_) (sX11_below v3 r3  x4 _ _ 0 0 (Nat.le_refl _) h))
    obtain ⟨r5, rfl, rfl, h⟩ := hr
    refine EW_if_eq (tgt := 48) (pc2 := 33) rfl dX5_codeAt_30 (by decide) (fun q => ?_) (fun q => ?_)
    · replace h := h.1 q
      refine EW_iconst (pc2 := 49) (v := (-1)) rfl dX5_codeAt_48 (by decide) ?_
      exact AW_iret rfl dX5_codeAt_49 ⟨_, _, rfl, rfl, h⟩
    · replace h := h.2 q
      refine EW_aload_n (pc2 := 34) rfl dX5_codeAt_33 0 rfl ?_
      refine AW_getr (r := 166) ⟨gfRX5_11, rfl⟩ (pc2 := 37) rfl dX5_codeAt_34 q165 rfl ?_
      refine EW_iload (pc2 := 39) rfl dX5_codeAt_37 4 rfl ?_
      obtain ⟨b6, h⟩ := h
      refine AW_aald8 (pc2 := 40) rfl dX5_codeAt_39 b6 ?_
      refine AW_getr (r := ((174 + 5 * Int32.toNatClampNeg r1) + 4)) ⟨gfRX5_89, rfl⟩ (pc2 := 43) rfl dX5_codeAt_40 (isT.o (isT_of b6)) (isT.r8 (isT_of b6)) ?_
      refine EW_iload_n (pc2 := 44) rfl dX5_codeAt_43 3 rfl ?_
      obtain ⟨b7, h⟩ := h
      refine AW_iald (pc2 := 45) rfl dX5_codeAt_44 (isT.a8 (isT_of b6)) b7 ?_
      refine EW_goto (tgt := 49) dX5_codeAt_45 (by decide) ?_
      exact AW_iret rfl dX5_codeAt_49 ⟨_, _, rfl, rfl, h⟩
theorem mlRX11_429 : Cond.methodLink RX11 429 yX5_failures ∈ ab_G ∧ Cond.instanceMethod yX5_failures ∈ ab_G ∧ Cond.selects RX5 yX5_failures yX5_failures ∈ ab_G := ⟨ab_in 1555 (by decide +kernel) (by decide +kernel), ab_in 1556 (by decide +kernel) (by decide +kernel), ab_in 1557 (by decide +kernel) (by decide +kernel)⟩
theorem mlRX11_432 : Cond.methodLink RX11 432 yX5_codeAt ∈ ab_G ∧ Cond.instanceMethod yX5_codeAt ∈ ab_G ∧ Cond.selects RX5 yX5_codeAt yX5_codeAt ∈ ab_G := ⟨ab_in 1580 (by decide +kernel) (by decide +kernel), ab_in 1581 (by decide +kernel) (by decide +kernel), ab_in 1582 (by decide +kernel) (by decide +kernel)⟩
abbrev MX11_code : ab_M := (yX11_code, cX11_code, 4, (some .int))
theorem dX11_code_0 : decode cX11_code 0 = .ok (.aload_n 0, 1) := by decide +kernel
theorem dX11_code_1 : decode cX11_code 1 = .ok (.iload_n 1, 1) := by decide +kernel
theorem dX11_code_2 : decode cX11_code 2 = .ok (.iload_n 2, 1) := by decide +kernel
theorem dX11_code_3 : decode cX11_code 3 = .ok (.invokevirtual 416, 3) := by decide +kernel
theorem dX11_code_6 : decode cX11_code 6 = .ok (.ifCond .eq 19, 3) := by decide +kernel
theorem dX11_code_9 : decode cX11_code 9 = .ok (.iload_n 3, 1) := by decide +kernel
theorem dX11_code_10 : decode cX11_code 10 = .ok (.aload_n 0, 1) := by decide +kernel
theorem dX11_code_11 : decode cX11_code 11 = .ok (.getfield 46, 3) := by decide +kernel
theorem dX11_code_14 : decode cX11_code 14 = .ok (.iload_n 1, 1) := by decide +kernel
theorem dX11_code_15 : decode cX11_code 15 = .ok (.iload_n 2, 1) := by decide +kernel
theorem dX11_code_16 : decode cX11_code 16 = .ok (.invokevirtual 429, 3) := by decide +kernel
theorem dX11_code_19 : decode cX11_code 19 = .ok (.invokestatic 86, 3) := by decide +kernel
theorem dX11_code_22 : decode cX11_code 22 = .ok (.ifCond .ne 5, 3) := by decide +kernel
theorem dX11_code_25 : decode cX11_code 25 = .ok (.iconst (-1), 1) := by decide +kernel
theorem dX11_code_26 : decode cX11_code 26 = .ok (.ireturn, 1) := by decide +kernel
theorem dX11_code_27 : decode cX11_code 27 = .ok (.aload_n 0, 1) := by decide +kernel
theorem dX11_code_28 : decode cX11_code 28 = .ok (.getfield 46, 3) := by decide +kernel
theorem dX11_code_31 : decode cX11_code 31 = .ok (.iload_n 1, 1) := by decide +kernel
theorem dX11_code_32 : decode cX11_code 32 = .ok (.iload_n 2, 1) := by decide +kernel
theorem dX11_code_33 : decode cX11_code 33 = .ok (.iload_n 3, 1) := by decide +kernel
theorem dX11_code_34 : decode cX11_code 34 = .ok (.invokevirtual 432, 3) := by decide +kernel
theorem dX11_code_37 : decode cX11_code 37 = .ok (.ireturn, 1) := by decide +kernel
theorem okX11_code : ab_okM MX11_code 3 := ⟨by decide, ⟨by decide, by decide⟩, ab_in 1579 (by decide +kernel) (by decide +kernel), ab_in 86 (by decide +kernel) (by decide +kernel), by decide +kernel, by decide⟩
set_option maxHeartbeats 4000000 in
set_option maxRecDepth 100000 in
theorem sX11_code (v1 : Int32) (v2 : Int32) (v3 : Int32)  (x : ab_X) (K : Int32 → ab_X → Prop) (d bc bs : Nat) (hdp : 5 ≤ d) (h : wX11_code v1 v2 v3 x K) : EW MX11_code 0 [(0, .ref 0), (1, .int v1), (2, .int v2), (3, .int v3)] [] (aS x) d bc bs (liI K) := by
  unfold wX11_code at h
  refine EW_aload_n (pc2 := 1) rfl dX11_code_0 0 rfl ?_
  refine EW_iload_n (pc2 := 2) rfl dX11_code_1 1 rfl ?_
  refine EW_iload_n (pc2 := 3) rfl dX11_code_2 2 rfl ?_
  refine AW_invV (M' := MX11_isKnown) [.int v1, .int v2] (rest := []) mlRX11_416 okX11_isKnown (pc2 := 6) rfl dX11_code_3 rfl rfl (Nat.le_of_ble_eq_true rfl) (Nat.le_of_ble_eq_true rfl) (d' := 2) (by omega) q0 ⟨by decide, rfl⟩ (EW_mono (fun _ _ hr => ?_) (sX11_isKnown v1 v2  x _ _ 0 0 (Nat.le_refl _) h))
  obtain ⟨r1, rfl, rfl, h⟩ := hr
  refine EW_if_eq (tgt := 25) (pc2 := 9) rfl dX11_code_6 (by decide) (fun q => ?_) (fun q => ?_)
  · replace h := h.1 q
    refine EW_iconst (pc2 := 26) (v := (-1)) rfl dX11_code_25 (by decide) ?_
    exact AW_iret rfl dX11_code_26 ⟨_, _, rfl, rfl, h⟩
  · replace h := h.2 q
    refine EW_iload_n (pc2 := 10) rfl dX11_code_9 3 rfl ?_
    refine EW_aload_n (pc2 := 11) rfl dX11_code_10 0 rfl ?_
    refine AW_getr (r := 165) ⟨gfRX11_46, rfl⟩ (pc2 := 14) rfl dX11_code_11 q0 rfl ?_
    refine EW_iload_n (pc2 := 15) rfl dX11_code_14 1 rfl ?_
    refine EW_iload_n (pc2 := 16) rfl dX11_code_15 2 rfl ?_
    refine AW_invV (M' := MX5_failures) [.int v1, .int v2] (rest := [.int v3]) mlRX11_429 okX5_failures (pc2 := 19) rfl dX11_code_16 rfl rfl (Nat.le_of_ble_eq_true rfl) (Nat.le_of_ble_eq_true rfl) (d' := 3) (by omega) q165 ⟨by decide, rfl⟩ (EW_mono (fun _ _ hr => ?_) (sX5_failures v1 v2  x _ _ 0 0 (Nat.le_refl _) h))
    obtain ⟨r2, x3, rfl, rfl, h⟩ := hr
    refine AW_invS (M' := MX11_below) [.int v3, .int r2] (rest := []) mlRX11_86 okX11_below (pc2 := 22) rfl dX11_code_19 rfl rfl (Nat.le_of_ble_eq_true rfl) (Nat.le_of_ble_eq_true rfl) (d' := 0) (by omega) (EW_mono (fun _ _ hr => ?_) (sX11_below v3 r2  x3 _ _ 0 0 (Nat.le_refl _) h))
    obtain ⟨r4, rfl, rfl, h⟩ := hr
    refine EW_if_ne (tgt := 27) (pc2 := 25) rfl dX11_code_22 (by decide) (fun q => ?_) (fun q => ?_)
    · replace h := h.1 q
      refine EW_aload_n (pc2 := 28) rfl dX11_code_27 0 rfl ?_
      refine AW_getr (r := 165) ⟨gfRX11_46, rfl⟩ (pc2 := 31) rfl dX11_code_28 q0 rfl ?_
      refine EW_iload_n (pc2 := 32) rfl dX11_code_31 1 rfl ?_
      refine EW_iload_n (pc2 := 33) rfl dX11_code_32 2 rfl ?_
      refine EW_iload_n (pc2 := 34) rfl dX11_code_33 3 rfl ?_
      refine AW_invV (M' := MX5_codeAt) [.int v1, .int v2, .int v3] (rest := []) mlRX11_432 okX5_codeAt (pc2 := 37) rfl dX11_code_34 rfl rfl (Nat.le_of_ble_eq_true rfl) (Nat.le_of_ble_eq_true rfl) (d' := 4) (by omega) q165 ⟨by decide, rfl⟩ (EW_mono (fun _ _ hr => ?_) (sX5_codeAt v1 v2 v3  x3 _ _ 0 0 (Nat.le_refl _) h))
      obtain ⟨r5, x6, rfl, rfl, h⟩ := hr
      exact AW_iret rfl dX11_code_37 ⟨_, _, rfl, rfl, h⟩
    · replace h := h.2 q
      refine EW_iconst (pc2 := 26) (v := (-1)) rfl dX11_code_25 (by decide) ?_
      exact AW_iret rfl dX11_code_26 ⟨_, _, rfl, rfl, h⟩
