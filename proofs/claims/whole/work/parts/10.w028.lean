theorem mlRX11_238 : Cond.methodLink RX11 238 yX0_addCrew ∈ ab_G ∧ Cond.instanceMethod yX0_addCrew ∈ ab_G ∧ Cond.selects RX0 yX0_addCrew yX0_addCrew ∈ ab_G := ⟨ab_in 963 (by decide +kernel) (by decide +kernel), ab_in 964 (by decide +kernel) (by decide +kernel), ab_in 965 (by decide +kernel) (by decide +kernel)⟩
theorem gfRX11_241 : ab_L RX11 241 0 2 := ⟨by decide, by decide, ab_in 546 (by decide +kernel) (by decide +kernel)⟩
theorem gfRX11_245 : ab_L RX11 245 2 2 := ⟨by decide, by decide, ab_in 414 (by decide +kernel) (by decide +kernel)⟩
theorem gfRX11_250 : ab_L RX11 250 2 3 := ⟨by decide, by decide, ab_in 416 (by decide +kernel) (by decide +kernel)⟩
theorem gfRX11_253 : ab_L RX11 253 2 4 := ⟨by decide, by decide, ab_in 417 (by decide +kernel) (by decide +kernel)⟩
abbrev MX11_crew : ab_M := (yX11_crew, cX11_crew, 9, (some .int))
theorem dX11_crew_0 : decode cX11_crew 0 = .ok (.iload_n 1, 1) := by decide +kernel
theorem dX11_crew_1 : decode cX11_crew 1 = .ok (.iconst 4, 1) := by decide +kernel
theorem dX11_crew_2 : decode cX11_crew 2 = .ok (.invokestatic 86, 3) := by decide +kernel
theorem dX11_crew_5 : decode cX11_crew 5 = .ok (.ifCond .eq 38, 3) := by decide +kernel
theorem dX11_crew_8 : decode cX11_crew 8 = .ok (.iload_n 2, 1) := by decide +kernel
theorem dX11_crew_9 : decode cX11_crew 9 = .ok (.invokestatic 70, 3) := by decide +kernel
theorem dX11_crew_12 : decode cX11_crew 12 = .ok (.ifCond .eq 31, 3) := by decide +kernel
theorem dX11_crew_15 : decode cX11_crew 15 = .ok (.iload 4, 2) := by decide +kernel
theorem dX11_crew_17 : decode cX11_crew 17 = .ok (.bipush 50, 2) := by decide +kernel
theorem dX11_crew_19 : decode cX11_crew 19 = .ok (.sipush 150, 3) := by decide +kernel
theorem dX11_crew_22 : decode cX11_crew 22 = .ok (.invokestatic 74, 3) := by decide +kernel
theorem dX11_crew_25 : decode cX11_crew 25 = .ok (.ifCond .eq 18, 3) := by decide +kernel
theorem dX11_crew_28 : decode cX11_crew 28 = .ok (.iload 5, 2) := by decide +kernel
theorem dX11_crew_30 : decode cX11_crew 30 = .ok (.iconst 1, 1) := by decide +kernel
theorem dX11_crew_31 : decode cX11_crew 31 = .ok (.bipush 9, 2) := by decide +kernel
theorem dX11_crew_33 : decode cX11_crew 33 = .ok (.invokestatic 74, 3) := by decide +kernel
theorem dX11_crew_36 : decode cX11_crew 36 = .ok (.ifCond .eq 7, 3) := by decide +kernel
theorem dX11_crew_39 : decode cX11_crew 39 = .ok (.iconst 1, 1) := by decide +kernel
theorem dX11_crew_40 : decode cX11_crew 40 = .ok (.goto 4, 3) := by decide +kernel
theorem dX11_crew_43 : decode cX11_crew 43 = .ok (.iconst 0, 1) := by decide +kernel
theorem dX11_crew_44 : decode cX11_crew 44 = .ok (.istore 6, 2) := by decide +kernel
theorem dX11_crew_46 : decode cX11_crew 46 = .ok (.iload 6, 2) := by decide +kernel
theorem dX11_crew_48 : decode cX11_crew 48 = .ok (.ifCond .eq 15, 3) := by decide +kernel
theorem dX11_crew_51 : decode cX11_crew 51 = .ok (.aload_n 0, 1) := by decide +kernel
theorem dX11_crew_52 : decode cX11_crew 52 = .ok (.getfield 30, 3) := by decide +kernel
theorem dX11_crew_55 : decode cX11_crew 55 = .ok (.getfield 237, 3) := by decide +kernel
theorem dX11_crew_58 : decode cX11_crew 58 = .ok (.bipush 16, 2) := by decide +kernel
theorem dX11_crew_60 : decode cX11_crew 60 = .ok (.if_icmp .lt 5, 3) := by decide +kernel
theorem dX11_crew_63 : decode cX11_crew 63 = .ok (.iconst (-1), 1) := by decide +kernel
theorem dX11_crew_64 : decode cX11_crew 64 = .ok (.ireturn, 1) := by decide +kernel
theorem dX11_crew_65 : decode cX11_crew 65 = .ok (.aload_n 0, 1) := by decide +kernel
theorem dX11_crew_66 : decode cX11_crew 66 = .ok (.getfield 30, 3) := by decide +kernel
theorem dX11_crew_69 : decode cX11_crew 69 = .ok (.iload_n 1, 1) := by decide +kernel
theorem dX11_crew_70 : decode cX11_crew 70 = .ok (.iload_n 2, 1) := by decide +kernel
theorem dX11_crew_71 : decode cX11_crew 71 = .ok (.invokevirtual 238, 3) := by decide +kernel
theorem dX11_crew_74 : decode cX11_crew 74 = .ok (.istore 7, 2) := by decide +kernel
theorem dX11_crew_76 : decode cX11_crew 76 = .ok (.aload_n 0, 1) := by decide +kernel
theorem dX11_crew_77 : decode cX11_crew 77 = .ok (.getfield 30, 3) := by decide +kernel
theorem dX11_crew_80 : decode cX11_crew 80 = .ok (.getfield 241, 3) := by decide +kernel
theorem dX11_crew_83 : decode cX11_crew 83 = .ok (.iload 7, 2) := by decide +kernel
theorem dX11_crew_85 : decode cX11_crew 85 = .ok (.aaload, 1) := by decide +kernel
theorem dX11_crew_86 : decode cX11_crew 86 = .ok (.astore 8, 2) := by decide +kernel
theorem dX11_crew_88 : decode cX11_crew 88 = .ok (.aload 8, 2) := by decide +kernel
theorem dX11_crew_90 : decode cX11_crew 90 = .ok (.iload_n 3, 1) := by decide +kernel
theorem dX11_crew_91 : decode cX11_crew 91 = .ok (.putfield 245, 3) := by decide +kernel
theorem dX11_crew_94 : decode cX11_crew 94 = .ok (.aload 8, 2) := by decide +kernel
theorem dX11_crew_96 : decode cX11_crew 96 = .ok (.iload 4, 2) := by decide +kernel
theorem dX11_crew_98 : decode cX11_crew 98 = .ok (.putfield 250, 3) := by decide +kernel
theorem dX11_crew_101 : decode cX11_crew 101 = .ok (.aload 8, 2) := by decide +kernel
theorem dX11_crew_103 : decode cX11_crew 103 = .ok (.iload 5, 2) := by decide +kernel
theorem dX11_crew_105 : decode cX11_crew 105 = .ok (.putfield 253, 3) := by decide +kernel
theorem dX11_crew_108 : decode cX11_crew 108 = .ok (.iload 7, 2) := by decide +kernel
theorem dX11_crew_110 : decode cX11_crew 110 = .ok (.ireturn, 1) := by decide +kernel
theorem okX11_crew : ab_okM MX11_crew 5 := ⟨by decide, ⟨by decide, by decide⟩, ab_in 962 (by decide +kernel) (by decide +kernel), ab_in 86 (by decide +kernel) (by decide +kernel), by decide +kernel, by decide⟩
set_option maxHeartbeats 4000000 in
set_option maxRecDepth 100000 in
def wX11_crew_44 (v1 : Int32) (v2 : Int32) (v3 : Int32) (v4 : Int32) (v5 : Int32) (s0 : Int32) (x : ab_X) (K : Int32 → ab_X → Prop)  : Prop := ((s0 = 0 → K (-1) x) ∧ (¬ s0 = 0 → (((x.1 66 3) < 16 → wX0_addCrew v1 v2 x (fun r5 x6 => (vp_in r5 16 ∧ isB v3 ∧ K r5 (wr (wr (wr x6 (82 + Int32.toNatClampNeg r5) 2 v3) (82 + Int32.toNatClampNeg r5) 3 v4) (82 + Int32.toNatClampNeg r5) 4 v5)))) ∧ (¬ (x.1 66 3) < 16 → K (-1) x))))
set_option maxHeartbeats 4000000 in
set_option maxRecDepth 100000 in
theorem sX11_crew_44 (v1 : Int32) (v2 : Int32) (v3 : Int32) (v4 : Int32) (v5 : Int32) (s0 : Int32)  (x : ab_X) (K : Int32 → ab_X → Prop)  (d bc bs : Nat) (hdp : 3 ≤ d)  (h : wX11_crew_44 v1 v2 v3 v4 v5 s0 x K ) : EW MX11_crew 44 [(0, .ref 0), (1, .int v1), (2, .int v2), (3, .int v3), (4, .int v4), (5, .int v5)] [.int s0] (aS x) d bc bs (liI K) := by
  unfold wX11_crew_44 at h
  refine EW_istore (pc2 := 46) rfl dX11_crew_44 (by decide) [1, 2, 3, 4, 5, 6, 0] [(0, .ref 0), (1, .int v1), (2, .int v2), (3, .int v3), (4, .int v4), (5, .int v5), (6, .int s0)] rfl ?_
  refine EW_iload (pc2 := 48) rfl dX11_crew_46 6 rfl ?_
  refine EW_if_eq (tgt := 63) (pc2 := 51) rfl dX11_crew_48 (by decide) (fun q => ?_) (fun q => ?_)
  · replace h := h.1 q
    refine EW_iconst (pc2 := 64) (v := (-1)) rfl dX11_crew_63 (by decide) ?_
    exact AW_iret rfl dX11_crew_64 ⟨_, _, rfl, rfl, h⟩
  · replace h := h.2 q
    refine EW_aload_n (pc2 := 52) rfl dX11_crew_51 0 rfl ?_
    refine AW_getr (r := 66) ⟨gfRX11_30, rfl⟩ (pc2 := 55) rfl dX11_crew_52 q0 rfl ?_
    refine AW_geti ⟨gfRX11_237, rfl⟩ (pc2 := 58) rfl dX11_crew_55 q66 ?_
    refine EW_bipush (pc2 := 60) (v := 16) rfl dX11_crew_58 (by decide) ?_
    refine EW_icmp_lt (tgt := 65) (pc2 := 63) rfl dX11_crew_60 (by decide) (fun q => ?_) (fun q => ?_)
    · replace h := h.1 q
      refine EW_aload_n (pc2 := 66) rfl dX11_crew_65 0 rfl ?_
      refine AW_getr (r := 66) ⟨gfRX11_30, rfl⟩ (pc2 := 69) rfl dX11_crew_66 q0 rfl ?_
      refine EW_iload_n (pc2 := 70) rfl dX11_crew_69 1 rfl ?_
      refine EW_iload_n (pc2 := 71) rfl dX11_crew_70 2 rfl ?_
      refine AW_invV (M' := MX0_addCrew) [.int v1, .int v2] (rest := []) mlRX11_238 okX0_addCrew (pc2 := 74) rfl dX11_crew_71 rfl rfl (Nat.le_of_ble_eq_true rfl) (Nat.le_of_ble_eq_true rfl) (d' := 2) (by omega) q66 ⟨by decide, rfl⟩ (EW_mono (fun _ _ hr => ?_) (sX0_addCrew v1 v2  x _ _ 0 0 (Nat.le_refl _) h))
      obtain ⟨r5, x6, rfl, rfl, h⟩ := hr
      refine EW_istore (pc2 := 76) rfl dX11_crew_74 (by decide) [1, 2, 3, 4, 5, 6, 7, 0] [(0, .ref 0), (1, .int v1), (2, .int v2), (3, .int v3), (4, .int v4), (5, .int v5), (6, .int s0), (7, .int r5)] rfl ?_
      refine EW_aload_n (pc2 := 77) rfl dX11_crew_76 0 rfl ?_
      refine AW_getr (r := 66) ⟨gfRX11_30, rfl⟩ (pc2 := 80) rfl dX11_crew_77 q0 rfl ?_
      refine AW_getr (r := 67) ⟨gfRX11_241, rfl⟩ (pc2 := 83) rfl dX11_crew_80 q66 rfl ?_
      refine EW_iload (pc2 := 85) rfl dX11_crew_83 7 rfl ?_
      obtain ⟨b7, h⟩ := h
      refine AW_aald6 (pc2 := 86) rfl dX11_crew_85 b7 ?_
      refine EW_astore (pc2 := 88) rfl dX11_crew_86 (by decide) [1, 2, 3, 4, 5, 6, 7, 8, 0] [(0, .ref 0), (1, .int v1), (2, .int v2), (3, .int v3), (4, .int v4), (5, .int v5), (6, .int s0), (7, .int r5), (8, .ref (82 + Int32.toNatClampNeg r5))] rfl ?_
      refine EW_aload (pc2 := 90) rfl dX11_crew_88 8 rfl ?_
      refine EW_iload_n (pc2 := 91) rfl dX11_crew_90 3 rfl ?_
      obtain ⟨z8, h⟩ := h
      refine AW_putz ⟨gfRX11_245, rfl, rfl⟩ z8 (pc2 := 94) rfl dX11_crew_91 (isW.o (isW_of b7)) ?_
      refine EW_aload (pc2 := 96) rfl dX11_crew_94 8 rfl ?_
      refine EW_iload (pc2 := 98) rfl dX11_crew_96 4 rfl ?_
      refine AW_puti ⟨gfRX11_250, rfl, rfl⟩ (pc2 := 101) rfl dX11_crew_98 (isW.o (isW_of b7)) ?_
      refine EW_aload (pc2 := 103) rfl dX11_crew_101 8 rfl ?_
      refine EW_iload (pc2 := 105) rfl dX11_crew_103 5 rfl ?_
      refine AW_puti ⟨gfRX11_253, rfl, rfl⟩ (pc2 := 108) rfl dX11_crew_105 (isW.o (isW_of b7)) ?_
      refine EW_iload (pc2 := 110) rfl dX11_crew_108 7 rfl ?_
      exact AW_iret rfl dX11_crew_110 ⟨_, _, rfl, rfl, h⟩
    · replace h := h.2 q
      refine EW_iconst (pc2 := 64) (v := (-1)) rfl dX11_crew_63 (by decide) ?_
      exact AW_iret rfl dX11_crew_64 ⟨_, _, rfl, rfl, h⟩
set_option maxHeartbeats 4000000 in
set_option maxRecDepth 100000 in
def wX11_crew_43 (v1 : Int32) (v2 : Int32) (v3 : Int32) (v4 : Int32) (v5 : Int32) (x : ab_X) (K : Int32 → ab_X → Prop)  : Prop := wX11_crew_44 v1 v2 v3 v4 v5 0 x K
set_option maxHeartbeats 4000000 in
set_option maxRecDepth 100000 in
theorem sX11_crew_43 (v1 : Int32) (v2 : Int32) (v3 : Int32) (v4 : Int32) (v5 : Int32)  (x : ab_X) (K : Int32 → ab_X → Prop)  (d bc bs : Nat) (hdp : 3 ≤ d)  (h : wX11_crew_43 v1 v2 v3 v4 v5 x K ) : EW MX11_crew 43 [(0, .ref 0), (1, .int v1), (2, .int v2), (3, .int v3), (4, .int v4), (5, .int v5)] [] (aS x) d bc bs (liI K) := by
  unfold wX11_crew_43 at h
  refine EW_iconst (pc2 := 44) (v := 0) rfl dX11_crew_43 (by decide) ?_
  exact sX11_crew_44 v1 v2 v3 v4 v5 0 x K d bc bs hdp h
set_option maxHeartbeats 4000000 in
set_option maxRecDepth 100000 in
def wX11_crew (v1 : Int32) (v2 : Int32) (v3 : Int32) (v4 : Int32) (v5 : Int32) (x : ab_X) (K : Int32 → ab_X → Prop) : Prop := wX11_below v1 4 x (fun r1 => ((r1 = 0 → wX11_crew_43 v1 v2 v3 v4 v5 x K) ∧ (¬ r1 = 0 → wX11_isCorner v2 x (fun r2 => ((r2 = 0 → wX11_crew_43 v1 v2 v3 v4 v5 x K) ∧ (¬ r2 = 0 → wX11_within v4 50 150 x (fun r3 => ((r3 = 0 → wX11_crew_43 v1 v2 v3 v4 v5 x K) ∧ (¬ r3 = 0 → wX11_within v5 1 9 x (fun r4 => ((r4 = 0 → wX11_crew_43 v1 v2 v3 v4 v5 x K) ∧ (¬ r4 = 0 → wX11_crew_44 v1 v2 v3 v4 v5 1 x K))))))))))))
set_option maxHeartbeats 4000000 in
set_option maxRecDepth 100000 in
theorem sX11_crew (v1 : Int32) (v2 : Int32) (v3 : Int32) (v4 : Int32) (v5 : Int32)  (x : ab_X) (K : Int32 → ab_X → Prop) (d bc bs : Nat) (hdp : 3 ≤ d) (h : wX11_crew v1 v2 v3 v4 v5 x K) : EW MX11_crew 0 [(0, .ref 0), (1, .int v1), (2, .int v2), (3, .int v3), (4, .int v4), (5, .int v5)] [] (aS x) d bc bs (liI K) := by
  unfold wX11_crew at h
  refine EW_iload_n (pc2 := 1) rfl dX11_crew_0 1 rfl ?_
  refine EW_iconst (pc2 := 2) (v := 4) rfl dX11_crew_1 (by decide) ?_
  refine AW_invS (M' := MX11_below) [.int v1, .int 4] (rest := []) mlRX11_86 okX11_below (pc2 := 5) rfl dX11_crew_2 rfl rfl (Nat.le_of_ble_eq_true rfl) (Nat.le_of_ble_eq_true rfl) (d' := 0) (by omega) (EW_mono (fun _ _ hr => ?_) (sX11_below v1 4  x _ _ 0 0 (Nat.le_refl _) h))
  obtain ⟨r1, rfl, rfl, h⟩ := hr
  refine EW_if_eq (tgt := 43) (pc2 := 8) rfl dX11_crew_5 (by decide) (fun q => ?_) (fun q => ?_)
  · replace h := h.1 q
    exact sX11_crew_43 v1 v2 v3 v4 v5 x K d bc bs hdp h
  · replace h := h.2 q
    refine EW_iload_n (pc2 := 9) rfl dX11_crew_8 2 rfl ?_
    refine AW_invS (M' := MX11_isCorner) [.int v2] (rest := []) mlRX11_70 okX11_isCorner (pc2 := 12) rfl dX11_crew_9 rfl rfl (Nat.le_of_ble_eq_true rfl) (Nat.le_of_ble_eq_true rfl) (d' := 0) (by omega) (EW_mono (fun _ _ hr => ?_) (sX11_isCorner v2  x _ _ 0 0 (Nat.le_refl _) h))
    obtain ⟨r2, rfl, rfl, h⟩ := hr
    refine EW_if_eq (tgt := 43) (pc2 := 15) rfl dX11_crew_12 (by decide) (fun q => ?_) (fun q => ?_)
    · replace h := h.1 q
      exact sX11_crew_43 v1 v2 v3 v4 v5 x K d bc bs hdp h
    · replace h := h.2 q
      refine EW_iload (pc2 := 17) rfl dX11_crew_15 4 rfl ?_
      refine EW_bipush (pc2 := 19) (v := 50) rfl dX11_crew_17 (by decide) ?_
      refine EW_sipush (pc2 := 22) (v := 150) rfl dX11_crew_19 (by decide) ?_
      refine AW_invS (M' := MX11_within) [.int v4, .int 50, .int 150] (rest := []) mlRX11_74 okX11_within (pc2 := 25) rfl dX11_crew_22 rfl rfl (Nat.le_of_ble_eq_true rfl) (Nat.le_of_ble_eq_true rfl) (d' := 0) (by omega) (EW_mono (fun _ _ hr => ?_) (sX11_within v4 50 150  x _ _ 0 0 (Nat.le_refl _) h))
      obtain ⟨r3, rfl, rfl, h⟩ := hr
      refine EW_if_eq (tgt := 43) (pc2 := 28) rfl dX11_crew_25 (by decide) (fun q => ?_) (fun q => ?_)
      · replace h := h.1 q
        exact sX11_crew_43 v1 v2 v3 v4 v5 x K d bc bs hdp h
      · replace h := h.2 q
        refine EW_iload (pc2 := 30) rfl dX11_crew_28 5 rfl ?_
        refine EW_iconst (pc2 := 31) (v := 1) rfl dX11_crew_30 (by decide) ?_
        refine EW_bipush (pc2 := 33) (v := 9) rfl dX11_crew_31 (by decide) ?_
        refine AW_invS (M' := MX11_within) [.int v5, .int 1, .int 9] (rest := []) mlRX11_74 okX11_within (pc2 := 36) rfl dX11_crew_33 rfl rfl (Nat.le_of_ble_eq_true rfl) (Nat.le_of_ble_eq_true rfl) (d' := 0) (by omega) (EW_mono (fun _ _ hr => ?_) (sX11_within v5 1 9  x _ _ 0 0 (Nat.le_refl _) h))
        obtain ⟨r4, rfl, rfl, h⟩ := hr
        refine EW_if_eq (tgt := 43) (pc2 := 39) rfl dX11_crew_36 (by decide) (fun q => ?_) (fun q => ?_)
        · replace h := h.1 q
          exact sX11_crew_43 v1 v2 v3 v4 v5 x K d bc bs hdp h
        · replace h := h.2 q
          refine EW_iconst (pc2 := 40) (v := 1) rfl dX11_crew_39 (by decide) ?_
          refine EW_goto (tgt := 44) dX11_crew_40 (by decide) ?_
          exact sX11_crew_44 v1 v2 v3 v4 v5 1 x K d bc bs hdp h
abbrev MX11_end : ab_M := (yX11_end, cX11_end, 2, (some .boolean))
theorem dX11_end_0 : decode cX11_end 0 = .ok (.iload_n 1, 1) := by decide +kernel
theorem dX11_end_1 : decode cX11_end 1 = .ok (.iconst 0, 1) := by decide +kernel
theorem dX11_end_2 : decode cX11_end 2 = .ok (.aload_n 0, 1) := by decide +kernel
theorem dX11_end_3 : decode cX11_end 3 = .ok (.getfield 37, 3) := by decide +kernel
theorem dX11_end_6 : decode cX11_end 6 = .ok (.getfield 362, 3) := by decide +kernel
theorem dX11_end_9 : decode cX11_end 9 = .ok (.invokestatic 74, 3) := by decide +kernel
theorem dX11_end_12 : decode cX11_end 12 = .ok (.ifCond .ne 5, 3) := by decide +kernel
theorem dX11_end_15 : decode cX11_end 15 = .ok (.iconst 0, 1) := by decide +kernel
theorem dX11_end_16 : decode cX11_end 16 = .ok (.ireturn, 1) := by decide +kernel
theorem dX11_end_17 : decode cX11_end 17 = .ok (.aload_n 0, 1) := by decide +kernel
theorem dX11_end_18 : decode cX11_end 18 = .ok (.getfield 37, 3) := by decide +kernel
theorem dX11_end_21 : decode cX11_end 21 = .ok (.iload_n 1, 1) := by decide +kernel
theorem dX11_end_22 : decode cX11_end 22 = .ok (.putfield 362, 3) := by decide +kernel
theorem dX11_end_25 : decode cX11_end 25 = .ok (.iconst 1, 1) := by decide +kernel
theorem dX11_end_26 : decode cX11_end 26 = .ok (.ireturn, 1) := by decide +kernel
theorem okX11_end : ab_okM MX11_end 1 := ⟨by decide, ⟨by decide, by decide⟩, ab_in 1166 (by decide +kernel) (by decide +kernel), ab_in 86 (by decide +kernel) (by decide +kernel), by decide +kernel, by decide⟩
set_option maxHeartbeats 4000000 in
set_option maxRecDepth 100000 in
def wX11_end (v1 : Int32) (x : ab_X) (K : Int32 → ab_X → Prop) : Prop := wX11_within v1 0 (x.1 158 1) x (fun r1 => ((¬ r1 = 0 → K 1 (wr x 158 1 v1)) ∧ (r1 = 0 → K 0 x)))
set_option maxHeartbeats 4000000 in
set_option maxRecDepth 100000 in
theorem sX11_end (v1 : Int32)  (x : ab_X) (K : Int32 → ab_X → Prop) (d bc bs : Nat) (hdp : 1 ≤ d) (h : wX11_end v1 x K) : EW MX11_end 0 [(0, .ref 0), (1, .int v1)] [] (aS x) d bc bs (liI K) := by
  unfold wX11_end at h
  refine EW_iload_n (pc2 := 1) rfl dX11_end_0 1 rfl ?_
  refine EW_iconst (pc2 := 2) (v := 0) rfl dX11_end_1 (by decide) ?_
  refine EW_aload_n (pc2 := 3) rfl dX11_end_2 0 rfl ?_
  refine AW_getr (r := 158) ⟨gfRX11_37, rfl⟩ (pc2 := 6) rfl dX11_end_3 q0 rfl ?_
  refine AW_geti ⟨gfRX11_362, rfl⟩ (pc2 := 9) rfl dX11_end_6 q158 ?_
  refine AW_invS (M' := MX11_within) [.int v1, .int 0, .int (x.1 158 1)] (rest := []) mlRX11_74 okX11_within (pc2 := 12) rfl dX11_end_9 rfl rfl (Nat.le_of_ble_eq_true rfl) (Nat.le_of_ble_eq_true rfl) (d' := 0) (by omega) (EW_mono (fun _ _ hr => ?_) (sX11_within v1 0 (x.1 158 1)  x _ _ 0 0 (Nat.le_refl _) h))
  obtain ⟨r1, rfl, rfl, h⟩ := hr
  refine EW_if_ne (tgt := 17) (pc2 := 15) rfl dX11_end_12 (by decide) (fun q => ?_) (fun q => ?_)
  · replace h := h.1 q
    refine EW_aload_n (pc2 := 18) rfl dX11_end_17 0 rfl ?_
    refine AW_getr (r := 158) ⟨gfRX11_37, rfl⟩ (pc2 := 21) rfl dX11_end_18 q0 rfl ?_
    refine EW_iload_n (pc2 := 22) rfl dX11_end_21 1 rfl ?_
    refine AW_puti ⟨gfRX11_362, rfl, rfl⟩ (pc2 := 25) rfl dX11_end_22 q158 ?_
    refine EW_iconst (pc2 := 26) (v := 1) rfl dX11_end_25 (by decide) ?_
    exact AW_zret rfl isB1 dX11_end_26 ⟨_, _, rfl, rfl, h⟩
  · replace h := h.2 q
    refine EW_iconst (pc2 := 16) (v := 0) rfl dX11_end_15 (by decide) ?_
    exact AW_zret rfl isB0 dX11_end_16 ⟨_, _, rfl, rfl, h⟩
abbrev MX11_failing : ab_M := (yX11_failing, cX11_failing, 3, (some .int))
theorem dX11_failing_0 : decode cX11_failing 0 = .ok (.iconst 0, 1) := by decide +kernel
theorem dX11_failing_1 : decode cX11_failing 1 = .ok (.istore_n 1, 1) := by decide +kernel
theorem dX11_failing_2 : decode cX11_failing 2 = .ok (.iconst 0, 1) := by decide +kernel
theorem dX11_failing_3 : decode cX11_failing 3 = .ok (.istore_n 2, 1) := by decide +kernel
theorem dX11_failing_4 : decode cX11_failing 4 = .ok (.iload_n 2, 1) := by decide +kernel
theorem dX11_failing_5 : decode cX11_failing 5 = .ok (.aload_n 0, 1) := by decide +kernel
theorem dX11_failing_6 : decode cX11_failing 6 = .ok (.getfield 21, 3) := by decide +kernel
theorem dX11_failing_9 : decode cX11_failing 9 = .ok (.getfield 105, 3) := by decide +kernel
theorem dX11_failing_12 : decode cX11_failing 12 = .ok (.if_icmp .ge 33, 3) := by decide +kernel
theorem dX11_failing_15 : decode cX11_failing 15 = .ok (.aload_n 0, 1) := by decide +kernel
theorem dX11_failing_16 : decode cX11_failing 16 = .ok (.getfield 46, 3) := by decide +kernel
theorem dX11_failing_19 : decode cX11_failing 19 = .ok (.iload_n 2, 1) := by decide +kernel
theorem dX11_failing_20 : decode cX11_failing 20 = .ok (.aload_n 0, 1) := by decide +kernel
theorem dX11_failing_21 : decode cX11_failing 21 = .ok (.getfield 30, 3) := by decide +kernel
theorem dX11_failing_24 : decode cX11_failing 24 = .ok (.getfield 400, 3) := by decide +kernel
theorem dX11_failing_27 : decode cX11_failing 27 = .ok (.invokevirtual 429, 3) := by decide +kernel
theorem dX11_failing_30 : decode cX11_failing 30 = .ok (.ifCond .le 9, 3) := by decide +kernel
theorem dX11_failing_33 : decode cX11_failing 33 = .ok (.iload_n 1, 1) := by decide +kernel
theorem dX11_failing_34 : decode cX11_failing 34 = .ok (.iconst 1, 1) := by decide +kernel
theorem dX11_failing_35 : decode cX11_failing 35 = .ok (.iload_n 2, 1) := by decide +kernel
theorem dX11_failing_36 : decode cX11_failing 36 = .ok (.ishl, 1) := by decide +kernel
theorem dX11_failing_37 : decode cX11_failing 37 = .ok (.ior, 1) := by decide +kernel
theorem dX11_failing_38 : decode cX11_failing 38 = .ok (.istore_n 1, 1) := by decide +kernel
theorem dX11_failing_39 : decode cX11_failing 39 = .ok (.iinc 2 1, 3) := by decide +kernel
theorem dX11_failing_42 : decode cX11_failing 42 = .ok (.goto (-38), 3) := by decide +kernel
theorem dX11_failing_45 : decode cX11_failing 45 = .ok (.iload_n 1, 1) := by decide +kernel
theorem dX11_failing_46 : decode cX11_failing 46 = .ok (.ireturn, 1) := by decide +kernel
theorem okX11_failing : ab_okM MX11_failing 0 := ⟨by decide, ⟨by decide, by decide⟩, ab_in 1588 (by decide +kernel) (by decide +kernel), ab_in 86 (by decide +kernel) (by decide +kernel), by decide +kernel, by decide⟩
set_option maxHeartbeats 4000000 in
set_option maxRecDepth 100000 in
def lX11_failing_4  (K : Int32 → ab_X → Prop)  (L4 : Int32 → Int32 → ab_X → Prop) (v1 : Int32) (v2 : Int32) (x : ab_X) : Prop := (((x.1 9 2) ≤ v2 → K v1 x) ∧ (¬ (x.1 9 2) ≤ v2 → wX5_failures v2 (x.1 66 12) x (fun r1 x2 => ((r1 ≤ 0 → L4 v1 (v2 + 1) x2) ∧ (¬ r1 ≤ 0 → L4 (v1 ||| (1 <<< (v2 &&& 31))) (v2 + 1) x2)))))
set_option maxHeartbeats 4000000 in
set_option maxRecDepth 100000 in
theorem sX11_failing_4 (v1 : Int32) (v2 : Int32)  (x : ab_X) (K : Int32 → ab_X → Prop)  (d bc bs : Nat) (hdp : 4 ≤ d)  (h : Lp3 (lX11_failing_4  K ) v1 v2 x) : EW MX11_failing 4 [(0, .ref 0), (1, .int v1), (2, .int v2)] [] (aS x) d bc bs (liI K) := by
  refine Lp3.use (P := fun v1 v2 x => EW MX11_failing 4 [(0, .ref 0), (1, .int v1), (2, .int v2)] [] (aS x) d bc bs (liI K)) (fun L4 v1 v2 x hL4 h => ?_) v1 v2 x h
  unfold lX11_failing_4 at h
  refine EW_iload_n (pc2 := 5) rfl dX11_failing_4 2 rfl ?_
  refine EW_aload_n (pc2 := 6) rfl dX11_failing_5 0 rfl ?_
  refine AW_getr (r := 9) ⟨gfRX11_21, rfl⟩ (pc2 := 9) rfl dX11_failing_6 q0 rfl ?_
  refine AW_geti ⟨gfRX11_105, rfl⟩ (pc2 := 12) rfl dX11_failing_9 q9 ?_
  refine EW_icmp_ge (tgt := 45) (pc2 := 15) rfl dX11_failing_12 (by decide) (fun q => ?_) (fun q => ?_)
  · replace h := h.1 q
    refine EW_iload_n (pc2 := 46) rfl dX11_failing_45 1 rfl ?_
    exact AW_iret rfl dX11_failing_46 ⟨_, _, rfl, rfl, h⟩
  · replace h := h.2 q
    refine EW_aload_n (pc2 := 16) rfl dX11_failing_15 0 rfl ?_
    refine AW_getr (r := 165) ⟨gfRX11_46, rfl⟩ (pc2 := 19) rfl dX11_failing_16 q0 rfl ?_
    refine EW_iload_n (pc2 := 20) rfl dX11_failing_19 2 rfl ?_
    refine EW_aload_n (pc2 := 21) rfl dX11_failing_20 0 rfl ?_
    refine AW_getr (r := 66) ⟨gfRX11_30, rfl⟩ (pc2 := 24) rfl dX11_failing_21 q0 rfl ?_
    refine AW_geti ⟨gfRX11_400, rfl⟩ (pc2 := 27) rfl dX11_failing_24 q66 ?_
    refine AW_invV (M' := MX5_failures) [.int v2, .int (x.1 66 12)] (rest := []) mlRX11_429 okX5_failures (pc2 := 30) rfl dX11_failing_27 rfl rfl (Nat.le_of_ble_eq_true rfl) (Nat.le_of_ble_eq_true rfl) (d' := 3) (by omega) q165 ⟨by decide, rfl⟩ (EW_mono (fun _ _ hr => ?_) (sX5_failures v2 (x.1 66 12)  x _ _ 0 0 (Nat.le_refl _) h))
    obtain ⟨r1, x2, rfl, rfl, h⟩ := hr
    refine EW_if_le (tgt := 39) (pc2 := 33) rfl dX11_failing_30 (by decide) (fun q => ?_) (fun q => ?_)
    · replace h := h.1 q
      refine EW_iinc (v2 + 1) (pc2 := 42) rfl dX11_failing_39 2 rfl rfl (by decide) [1, 2, 0] [(0, .ref 0), (1, .int v1), (2, .int (v2 + 1))] rfl ?_
      refine EW_goto (tgt := 4) dX11_failing_42 (by decide) ?_
      exact hL4 v1 (v2 + 1) x2 h
    · replace h := h.2 q
      refine EW_iload_n (pc2 := 34) rfl dX11_failing_33 1 rfl ?_
      refine EW_iconst (pc2 := 35) (v := 1) rfl dX11_failing_34 (by decide) ?_
      refine EW_iload_n (pc2 := 36) rfl dX11_failing_35 2 rfl ?_
      refine EW_ishl (pc2 := 37) rfl dX11_failing_36 ?_
      refine EW_ior (pc2 := 38) rfl dX11_failing_37 ?_
      refine EW_istore_n (pc2 := 39) rfl dX11_failing_38 (by decide) [1, 0, 2] [(0, .ref 0), (1, .int (v1 ||| (1 <<< (v2 &&& 31)))), (2, .int v2)] rfl ?_
      refine EW_iinc (v2 + 1) (pc2 := 42) rfl dX11_failing_39 2 rfl rfl (by decide) [1, 2, 0] [(0, .ref 0), (1, .int (v1 ||| (1 <<< (v2 &&& 31)))), (2, .int (v2 + 1))] rfl ?_
      refine EW_goto (tgt := 4) dX11_failing_42 (by decide) ?_
      exact hL4 (v1 ||| (1 <<< (v2 &&& 31))) (v2 + 1) x2 h
set_option maxHeartbeats 4000000 in
set_option maxRecDepth 100000 in
def wX11_failing  (x : ab_X) (K : Int32 → ab_X → Prop) : Prop := Lp3 (lX11_failing_4 K ) 0 0 x
set_option maxHeartbeats 4000000 in
set_option maxRecDepth 100000 in
theorem sX11_failing   (x : ab_X) (K : Int32 → ab_X → Prop) (d bc bs : Nat) (hdp : 4 ≤ d) (h : wX11_failing  x K) : EW MX11_failing 0 [(0, .ref 0)] [] (aS x) d bc bs (liI K) := by
  unfold wX11_failing at h
  refine EW_iconst (pc2 := 1) (v := 0) rfl dX11_failing_0 (by decide) ?_
  refine EW_istore_n (pc2 := 2) rfl dX11_failing_1 (by decide) [1, 0] [(0, .ref 0), (1, .int 0)] rfl ?_
  refine EW_iconst (pc2 := 3) (v := 0) rfl dX11_failing_2 (by decide) ?_
  refine EW_istore_n (pc2 := 4) rfl dX11_failing_3 (by decide) [1, 2, 0] [(0, .ref 0), (1, .int 0), (2, .int 0)] rfl ?_
  exact sX11_failing_4 0 0 x K d bc bs hdp h
abbrev MX11_fails : ab_M := (yX11_fails, cX11_fails, 3, (some .int))
theorem dX11_fails_0 : decode cX11_fails 0 = .ok (.aload_n 0, 1) := by decide +kernel
theorem dX11_fails_1 : decode cX11_fails 1 = .ok (.iload_n 1, 1) := by decide +kernel
theorem dX11_fails_2 : decode cX11_fails 2 = .ok (.iload_n 2, 1) := by decide +kernel
theorem dX11_fails_3 : decode cX11_fails 3 = .ok (.invokevirtual 416, 3) := by decide +kernel
theorem dX11_fails_6 : decode cX11_fails 6 = .ok (.ifCond .eq 15, 3) := by decide +kernel
theorem dX11_fails_9 : decode cX11_fails 9 = .ok (.aload_n 0, 1) := by decide +kernel
theorem dX11_fails_10 : decode cX11_fails 10 = .ok (.getfield 46, 3) := by decide +kernel
theorem dX11_fails_13 : decode cX11_fails 13 = .ok (.iload_n 1, 1) := by decide +kernel
theorem dX11_fails_14 : decode cX11_fails 14 = .ok (.iload_n 2, 1) := by decide +kernel
theorem dX11_fails_15 : decode cX11_fails 15 = .ok (.invokevirtual 429, 3) := by decide +kernel
theorem dX11_fails_18 : decode cX11_fails 18 = .ok (.goto 4, 3) := by decide +kernel
theorem dX11_fails_21 : decode cX11_fails 21 = .ok (.iconst (-1), 1) := by decide +kernel
theorem dX11_fails_22 : decode cX11_fails 22 = .ok (.ireturn, 1) := by decide +kernel
theorem okX11_fails : ab_okM MX11_fails 2 := ⟨by decide, ⟨by decide, by decide⟩, ab_in 1554 (by decide +kernel) (by decide +kernel), ab_in 86 (by decide +kernel) (by decide +kernel), by decide +kernel, by decide⟩
set_option maxHeartbeats 4000000 in
set_option maxRecDepth 100000 in
def wX11_fails (v1 : Int32) (v2 : Int32) (x : ab_X) (K : Int32 → ab_X → Prop) : Prop := wX11_isKnown v1 v2 x (fun r1 => ((r1 = 0 → K (-1) x) ∧ (¬ r1 = 0 → wX5_failures v1 v2 x (fun r2 x3 => K r2 x3))))
set_option maxHeartbeats 4000000 in
set_option maxRecDepth 100000 in
theorem sX11_fails (v1 : Int32) (v2 : Int32)  (x : ab_X) (K : Int32 → ab_X → Prop) (d bc bs : Nat) (hdp : 4 ≤ d) (h : wX11_fails v1 v2 x K) : EW MX11_fails 0 [(0, .ref 0), (1, .int v1), (2, .int v2)] [] (aS x) d bc bs (liI K) := by
  unfold wX11_fails at h
  refine EW_aload_n (pc2 := 1) rfl dX11_fails_0 0 rfl ?_
  refine EW_iload_n (pc2 := 2) rfl dX11_fails_1 1 rfl ?_
  refine EW_iload_n (pc2 := 3) rfl dX11_fails_2 2 rfl ?_
  refine AW_invV (M' := MX11_isKnown) [.int v1, .int v2] (rest := []) mlRX11_416 okX11_isKnown (pc2 := 6) rfl dX11_fails_3 rfl rfl (Nat.le_of_ble_eq_true rfl) (Nat.le_of_ble_eq_true rfl) (d' := 2) (by omega) q0 ⟨by decide, rfl⟩ (EW_mono (fun _ _ hr => ?_) (sX11_isKnown v1 v2  x _ _ 0 0 (Nat.le_refl _) h))
  obtain ⟨r1, rfl, rfl, h⟩ := hr
  refine EW_if_eq (tgt := 21) (pc2 := 9) rfl dX11_fails_6 (by decide) (fun q => ?_) (fun q => ?_)
  · replace h := h.1 q
    refine EW_iconst (pc2 := 22) (v := (-1)) rfl dX11_fails_21 (by decide) ?_
    exact AW_iret rfl dX11_fails_22 ⟨_, _, rfl, rfl, h⟩
  · replace h := h.2 q
    refine EW_aload_n (pc2 := 10) rfl dX11_fails_9 0 rfl ?_
    refine AW_getr (r := 165) ⟨gfRX11_46, rfl⟩ (pc2 := 13) rfl dX11_fails_10 q0 rfl ?_
    refine EW_iload_n (pc2 := 14) rfl dX11_fails_13 1 rfl ?_
    refine EW_iload_n (pc2 := 15) rfl dX11_fails_14 2 rfl ?_
    refine AW_invV (M' := MX5_failures) [.int v1, .int v2] (rest := []) mlRX11_429 okX5_failures (pc2 := 18) rfl dX11_fails_15 rfl rfl (Nat.le_of_ble_eq_true rfl) (Nat.le_of_ble_eq_true rfl) (d' := 3) (by omega) q165 ⟨by decide, rfl⟩ (EW_mono (fun _ _ hr => ?_) (sX5_failures v1 v2  x _ _ 0 0 (Nat.le_refl _) h))
    obtain ⟨r2, x3, rfl, rfl, h⟩ := hr
    refine EW_goto (tgt := 22) dX11_fails_18 (by decide) ?_
    exact AW_iret rfl dX11_fails_22 ⟨_, _, rfl, rfl, h⟩
theorem mlRX11_356 : Cond.methodLink RX11 356 yX0_falseHundredths ∈ ab_G ∧ Cond.instanceMethod yX0_falseHundredths ∈ ab_G ∧ Cond.selects RX0 yX0_falseHundredths yX0_falseHundredths ∈ ab_G := ⟨ab_in 1151 (by decide +kernel) (by decide +kernel), ab_in 1062 (by decide +kernel) (by decide +kernel), ab_in 1063 (by decide +kernel) (by decide +kernel)⟩
abbrev MX11_falses : ab_M := (yX11_falses, cX11_falses, 3, (some .int))
theorem dX11_falses_0 : decode cX11_falses 0 = .ok (.iload_n 1, 1) := by decide +kernel
theorem dX11_falses_1 : decode cX11_falses 1 = .ok (.invokestatic 70, 3) := by decide +kernel
theorem dX11_falses_4 : decode cX11_falses 4 = .ok (.ifCond .eq 23, 3) := by decide +kernel
theorem dX11_falses_7 : decode cX11_falses 7 = .ok (.iload_n 2, 1) := by decide +kernel
theorem dX11_falses_8 : decode cX11_falses 8 = .ok (.iconst 4, 1) := by decide +kernel
theorem dX11_falses_9 : decode cX11_falses 9 = .ok (.invokestatic 86, 3) := by decide +kernel
theorem dX11_falses_12 : decode cX11_falses 12 = .ok (.ifCond .eq 15, 3) := by decide +kernel
theorem dX11_falses_15 : decode cX11_falses 15 = .ok (.aload_n 0, 1) := by decide +kernel
theorem dX11_falses_16 : decode cX11_falses 16 = .ok (.getfield 30, 3) := by decide +kernel
theorem dX11_falses_19 : decode cX11_falses 19 = .ok (.iload_n 1, 1) := by decide +kernel
theorem dX11_falses_20 : decode cX11_falses 20 = .ok (.iload_n 2, 1) := by decide +kernel
theorem dX11_falses_21 : decode cX11_falses 21 = .ok (.invokevirtual 356, 3) := by decide +kernel
theorem dX11_falses_24 : decode cX11_falses 24 = .ok (.goto 4, 3) := by decide +kernel
theorem dX11_falses_27 : decode cX11_falses 27 = .ok (.iconst (-1), 1) := by decide +kernel
theorem dX11_falses_28 : decode cX11_falses 28 = .ok (.ireturn, 1) := by decide +kernel
theorem okX11_falses : ab_okM MX11_falses 2 := ⟨by decide, ⟨by decide, by decide⟩, ab_in 1150 (by decide +kernel) (by decide +kernel), ab_in 86 (by decide +kernel) (by decide +kernel), by decide +kernel, by decide⟩
set_option maxHeartbeats 4000000 in
set_option maxRecDepth 100000 in
def wX11_falses (v1 : Int32) (v2 : Int32) (x : ab_X) (K : Int32 → Prop) : Prop := wX11_isCorner v1 x (fun r1 => ((r1 = 0 → K (-1)) ∧ (¬ r1 = 0 → wX11_below v2 4 x (fun r2 => ((r2 = 0 → K (-1)) ∧ (¬ r2 = 0 → wX0_falseHundredths v1 v2 x (fun r3 => K r3)))))))
set_option maxHeartbeats 4000000 in
set_option maxRecDepth 100000 in
theorem sX11_falses (v1 : Int32) (v2 : Int32)  (x : ab_X) (K : Int32 → Prop) (d bc bs : Nat) (hdp : 2 ≤ d) (h : wX11_falses v1 v2 x K) : EW MX11_falses 0 [(0, .ref 0), (1, .int v1), (2, .int v2)] [] (aS x) d bc bs (liP x K) := by
  unfold wX11_falses at h
  refine EW_iload_n (pc2 := 1) rfl dX11_falses_0 1 rfl ?_
  refine AW_invS (M' := MX11_isCorner) [.int v1] (rest := []) mlRX11_70 okX11_isCorner (pc2 := 4) rfl dX11_falses_1 rfl rfl (Nat.le_of_ble_eq_true rfl) (Nat.le_of_ble_eq_true rfl) (d' := 0) (by omega) (EW_mono (fun _ _ hr => ?_) (sX11_isCorner v1  x _ _ 0 0 (Nat.le_refl _) h))
  obtain ⟨r1, rfl, rfl, h⟩ := hr
  refine EW_if_eq (tgt := 27) (pc2 := 7) rfl dX11_falses_4 (by decide) (fun q => ?_) (fun q => ?_)
  · replace h := h.1 q
    refine EW_iconst (pc2 := 28) (v := (-1)) rfl dX11_falses_27 (by decide) ?_
    exact AW_iret rfl dX11_falses_28 ⟨_, rfl, rfl, h⟩
  · replace h := h.2 q
    refine EW_iload_n (pc2 := 8) rfl dX11_falses_7 2 rfl ?_
    refine EW_iconst (pc2 := 9) (v := 4) rfl dX11_falses_8 (by decide) ?_
    refine AW_invS (M' := MX11_below) [.int v2, .int 4] (rest := []) mlRX11_86 okX11_below (pc2 := 12) rfl dX11_falses_9 rfl rfl (Nat.le_of_ble_eq_true rfl) (Nat.le_of_ble_eq_true rfl) (d' := 0) (by omega) (EW_mono (fun _ _ hr => ?_) (sX11_below v2 4  x _ _ 0 0 (Nat.le_refl _) h))
    obtain ⟨r2, rfl, rfl, h⟩ := hr
    refine EW_if_eq (tgt := 27) (pc2 := 15) rfl dX11_falses_12 (by decide) (fun q => ?_) (fun q => ?_)
    · replace h := h.1 q
      refine EW_iconst (pc2 := 28) (v := (-1)) rfl dX11_falses_27 (by decide) ?_
      exact AW_iret rfl dX11_falses_28 ⟨_, rfl, rfl, h⟩
    · replace h := h.2 q
      refine EW_aload_n (pc2 := 16) rfl dX11_falses_15 0 rfl ?_
      refine AW_getr (r := 66) ⟨gfRX11_30, rfl⟩ (pc2 := 19) rfl dX11_falses_16 q0 rfl ?_
      refine EW_iload_n (pc2 := 20) rfl dX11_falses_19 1 rfl ?_
      refine EW_iload_n (pc2 := 21) rfl dX11_falses_20 2 rfl ?_
      refine AW_invV (M' := MX0_falseHundredths) [.int v1, .int v2] (rest := []) mlRX11_356 okX0_falseHundredths (pc2 := 24) rfl dX11_falses_21 rfl rfl (Nat.le_of_ble_eq_true rfl) (Nat.le_of_ble_eq_true rfl) (d' := 1) (by omega) q66 ⟨by decide, rfl⟩ (EW_mono (fun _ _ hr => ?_) (sX0_falseHundredths v1 v2  x _ _ 0 0 (Nat.le_refl _) h))
      obtain ⟨r3, rfl, rfl, h⟩ := hr
      refine EW_goto (tgt := 28) dX11_falses_24 (by decide) ?_
      exact AW_iret rfl dX11_falses_28 ⟨_, rfl, rfl, h⟩
theorem gfRX11_371 : ab_L RX11 371 8 2 := ⟨by decide, by decide, ab_in 605 (by decide +kernel) (by decide +kernel)⟩
abbrev MX11_fault : ab_M := (yX11_fault, cX11_fault, 2, (some .int))
theorem dX11_fault_0 : decode cX11_fault 0 = .ok (.iload_n 1, 1) := by decide +kernel
theorem dX11_fault_1 : decode cX11_fault 1 = .ok (.iconst 0, 1) := by decide +kernel
theorem dX11_fault_2 : decode cX11_fault 2 = .ok (.iconst 2, 1) := by decide +kernel
theorem dX11_fault_3 : decode cX11_fault 3 = .ok (.invokestatic 74, 3) := by decide +kernel
theorem dX11_fault_6 : decode cX11_fault 6 = .ok (.ifCond .ne 6, 3) := by decide +kernel
theorem dX11_fault_9 : decode cX11_fault 9 = .ok (.bipush (-2), 2) := by decide +kernel
theorem dX11_fault_11 : decode cX11_fault 11 = .ok (.ireturn, 1) := by decide +kernel
theorem dX11_fault_12 : decode cX11_fault 12 = .ok (.aload_n 0, 1) := by decide +kernel
theorem dX11_fault_13 : decode cX11_fault 13 = .ok (.getfield 37, 3) := by decide +kernel
theorem dX11_fault_16 : decode cX11_fault 16 = .ok (.iload_n 1, 1) := by decide +kernel
theorem dX11_fault_17 : decode cX11_fault 17 = .ok (.invokevirtual 368, 3) := by decide +kernel
theorem dX11_fault_20 : decode cX11_fault 20 = .ok (.ifCond .eq 7, 3) := by decide +kernel
theorem dX11_fault_23 : decode cX11_fault 23 = .ok (.iconst (-1), 1) := by decide +kernel
theorem dX11_fault_24 : decode cX11_fault 24 = .ok (.goto 10, 3) := by decide +kernel
theorem dX11_fault_27 : decode cX11_fault 27 = .ok (.aload_n 0, 1) := by decide +kernel
theorem dX11_fault_28 : decode cX11_fault 28 = .ok (.getfield 37, 3) := by decide +kernel
theorem dX11_fault_31 : decode cX11_fault 31 = .ok (.getfield 371, 3) := by decide +kernel
theorem dX11_fault_34 : decode cX11_fault 34 = .ok (.ireturn, 1) := by decide +kernel
theorem okX11_fault : ab_okM MX11_fault 1 := ⟨by decide, ⟨by decide, by decide⟩, ab_in 1170 (by decide +kernel) (by decide +kernel), ab_in 86 (by decide +kernel) (by decide +kernel), by decide +kernel, by decide⟩
set_option maxHeartbeats 4000000 in
set_option maxRecDepth 100000 in
def wX11_fault (v1 : Int32) (x : ab_X) (K : Int32 → ab_X → Prop) : Prop := wX11_within v1 0 2 x (fun r1 => ((¬ r1 = 0 → wX8_parse v1 x (fun r2 x3 => ((r2 = 0 → K (x3.1 158 2) x3) ∧ (¬ r2 = 0 → K (-1) x3)))) ∧ (r1 = 0 → K (-2) x)))
set_option maxHeartbeats 4000000 in
set_option maxRecDepth 100000 in
theorem sX11_fault (v1 : Int32)  (x : ab_X) (K : Int32 → ab_X → Prop) (d bc bs : Nat) (hdp : 212 ≤ d) (h : wX11_fault v1 x K) : EW MX11_fault 0 [(0, .ref 0), (1, .int v1)] [] (aS x) d bc bs (liI K) := by
  unfold wX11_fault at h
  refine EW_iload_n (pc2 := 1) rfl dX11_fault_0 1 rfl ?_
  refine EW_iconst (pc2 := 2) (v := 0) rfl dX11_fault_1 (by decide) ?_
  refine EW_iconst (pc2 := 3) (v := 2) rfl dX11_fault_2 (by decide) ?_
  refine AW_invS (M' := MX11_within) [.int v1, .int 0, .int 2] (rest := []) mlRX11_74 okX11_within (pc2 := 6) rfl dX11_fault_3 rfl rfl (Nat.le_of_ble_eq_true rfl) (Nat.le_of_ble_eq_true rfl) (d' := 0) (by omega) (EW_mono (fun _ _ hr => ?_) (sX11_within v1 0 2  x _ _ 0 0 (Nat.le_refl _) h))
  obtain ⟨r1, rfl, rfl, h⟩ := hr
  refine EW_if_ne (tgt := 12) (pc2 := 9) rfl dX11_fault_6 (by decide) (fun q => ?_) (fun q => ?_)
  · replace h := h.1 q
    refine EW_aload_n (pc2 := 13) rfl dX11_fault_12 0 rfl ?_
    refine AW_getr (r := 158) ⟨gfRX11_37, rfl⟩ (pc2 := 16) rfl dX11_fault_13 q0 rfl ?_
    refine EW_iload_n (pc2 := 17) rfl dX11_fault_16 1 rfl ?_
    refine AW_invV (M' := MX8_parse) [.int v1] (rest := []) mlRX11_368 okX8_parse (pc2 := 20) rfl dX11_fault_17 rfl rfl (Nat.le_of_ble_eq_true rfl) (Nat.le_of_ble_eq_true rfl) (d' := 211) (by omega) q158 ⟨by decide, rfl⟩ (EW_mono (fun _ _ hr => ?_) (sX8_parse v1  x _ _ 0 0 (Nat.le_refl _) h))
    obtain ⟨r2, x3, rfl, rfl, h⟩ := hr
    refine EW_if_eq (tgt := 27) (pc2 := 23) rfl dX11_fault_20 (by decide) (fun q => ?_) (fun q => ?_)
    · replace h := h.1 q
      refine EW_aload_n (pc2 := 28) rfl dX11_fault_27 0 rfl ?_
      refine AW_getr (r := 158) ⟨gfRX11_37, rfl⟩ (pc2 := 31) rfl dX11_fault_28 q0 rfl ?_
      refine AW_geti ⟨gfRX11_371, rfl⟩ (pc2 := 34) rfl dX11_fault_31 q158 ?_
      exact AW_iret rfl dX11_fault_34 ⟨_, _, rfl, rfl, h⟩
    · replace h := h.2 q
      refine EW_iconst (pc2 := 24) (v := (-1)) rfl dX11_fault_23 (by decide) ?_
      refine EW_goto (tgt := 34) dX11_fault_24 (by decide) ?_
      exact AW_iret rfl dX11_fault_34 ⟨_, _, rfl, rfl, h⟩
  · replace h := h.2 q
    refine EW_bipush (pc2 := 11) (v := (-2)) rfl dX11_fault_9 (by decide) ?_
    exact AW_iret rfl dX11_fault_11 ⟨_, _, rfl, rfl, h⟩
abbrev MX8_bytesIn : ab_M := (yX8_bytesIn, cX8_bytesIn, 3, (some .int))
theorem dX8_bytesIn_0 : decode cX8_bytesIn 0 = .ok (.iconst 0, 1) := by decide +kernel
theorem dX8_bytesIn_1 : decode cX8_bytesIn 1 = .ok (.istore_n 1, 1) := by decide +kernel
theorem dX8_bytesIn_2 : decode cX8_bytesIn 2 = .ok (.bipush 24, 2) := by decide +kernel
theorem dX8_bytesIn_4 : decode cX8_bytesIn 4 = .ok (.istore_n 2, 1) := by decide +kernel
theorem dX8_bytesIn_5 : decode cX8_bytesIn 5 = .ok (.iload_n 2, 1) := by decide +kernel
theorem dX8_bytesIn_6 : decode cX8_bytesIn 6 = .ok (.ifCond .lt 27, 3) := by decide +kernel
theorem dX8_bytesIn_9 : decode cX8_bytesIn 9 = .ok (.iload_n 1, 1) := by decide +kernel
theorem dX8_bytesIn_10 : decode cX8_bytesIn 10 = .ok (.iload_n 0, 1) := by decide +kernel
theorem dX8_bytesIn_11 : decode cX8_bytesIn 11 = .ok (.iload_n 2, 1) := by decide +kernel
theorem dX8_bytesIn_12 : decode cX8_bytesIn 12 = .ok (.ishr, 1) := by decide +kernel
theorem dX8_bytesIn_13 : decode cX8_bytesIn 13 = .ok (.sipush 255, 3) := by decide +kernel
theorem dX8_bytesIn_16 : decode cX8_bytesIn 16 = .ok (.iand, 1) := by decide +kernel
theorem dX8_bytesIn_17 : decode cX8_bytesIn 17 = .ok (.ifCond .ne 7, 3) := by decide +kernel
theorem dX8_bytesIn_20 : decode cX8_bytesIn 20 = .ok (.iconst 0, 1) := by decide +kernel
theorem dX8_bytesIn_21 : decode cX8_bytesIn 21 = .ok (.goto 4, 3) := by decide +kernel
theorem dX8_bytesIn_24 : decode cX8_bytesIn 24 = .ok (.iconst 1, 1) := by decide +kernel
theorem dX8_bytesIn_25 : decode cX8_bytesIn 25 = .ok (.iadd, 1) := by decide +kernel
theorem dX8_bytesIn_26 : decode cX8_bytesIn 26 = .ok (.istore_n 1, 1) := by decide +kernel
theorem dX8_bytesIn_27 : decode cX8_bytesIn 27 = .ok (.iinc 2 (-8), 3) := by decide +kernel
theorem dX8_bytesIn_30 : decode cX8_bytesIn 30 = .ok (.goto (-25), 3) := by decide +kernel
theorem dX8_bytesIn_33 : decode cX8_bytesIn 33 = .ok (.iload_n 1, 1) := by decide +kernel
theorem dX8_bytesIn_34 : decode cX8_bytesIn 34 = .ok (.ireturn, 1) := by decide +kernel
theorem okX8_bytesIn : ab_okM MX8_bytesIn 1 := ⟨by decide, ⟨by decide, by decide⟩, ab_in 1158 (by decide +kernel) (by decide +kernel), ab_in 96 (by decide +kernel) (by decide +kernel), by decide +kernel, by decide⟩
set_option maxHeartbeats 4000000 in
set_option maxRecDepth 100000 in
def wX8_bytesIn_25 (v0 : Int32) (v2 : Int32) (s0 : Int32) (s1 : Int32) (x : ab_X) (K : Int32 → Prop) (L5 : Int32 → Int32 → Prop) : Prop := L5 (s0 + s1) (v2 + (-8))
set_option maxHeartbeats 4000000 in
set_option maxRecDepth 100000 in
theorem sX8_bytesIn_25 (v0 : Int32) (v2 : Int32) (s0 : Int32) (s1 : Int32)  (x : ab_X) (K : Int32 → Prop) (L5 : Int32 → Int32 → Prop) (d bc bs : Nat) (hdp : 0 ≤ d) (hL5 : ∀ (v1 : Int32) (v2 : Int32), L5 v1 v2 → EW MX8_bytesIn 5 [(0, .int v0), (1, .int v1), (2, .int v2)] [] (aS x) d bc bs (liP x K)) (h : wX8_bytesIn_25 v0 v2 s0 s1 x K L5) : EW MX8_bytesIn 25 [(0, .int v0), (2, .int v2)] [.int s1, .int s0] (aS x) d bc bs (liP x K) := by
  unfold wX8_bytesIn_25 at h
  refine EW_iadd (pc2 := 26) rfl dX8_bytesIn_25 ?_
  refine EW_istore_n (pc2 := 27) rfl dX8_bytesIn_26 (by decide) [1, 0, 2] [(0, .int v0), (1, .int (s0 + s1)), (2, .int v2)] rfl ?_
  refine EW_iinc (v2 + (-8)) (pc2 := 30) rfl dX8_bytesIn_27 2 rfl rfl (by decide) [1, 2, 0] [(0, .int v0), (1, .int (s0 + s1)), (2, .int (v2 + (-8)))] rfl ?_
  refine EW_goto (tgt := 5) dX8_bytesIn_30 (by decide) ?_
  exact hL5 (s0 + s1) (v2 + (-8)) h
set_option maxHeartbeats 4000000 in
set_option maxRecDepth 100000 in
def lX8_bytesIn_5 (v0 : Int32) (x : ab_X) (K : Int32 → Prop)  (L5 : Int32 → Int32 → Prop) (v1 : Int32) (v2 : Int32) : Prop := ((v2 < 0 → K v1) ∧ (¬ v2 < 0 → ((¬ ((v0 >>> (v2 &&& 31)) &&& 255) = 0 → wX8_bytesIn_25 v0 v2 v1 1 x K L5) ∧ (((v0 >>> (v2 &&& 31)) &&& 255) = 0 → wX8_bytesIn_25 v0 v2 v1 0 x K L5))))
set_option maxHeartbeats 4000000 in
set_option maxRecDepth 100000 in
theorem sX8_bytesIn_5 (v0 : Int32) (v1 : Int32) (v2 : Int32)  (x : ab_X) (K : Int32 → Prop)  (d bc bs : Nat) (hdp : 0 ≤ d)  (h : Lp2 (lX8_bytesIn_5 v0 x K ) v1 v2) : EW MX8_bytesIn 5 [(0, .int v0), (1, .int v1), (2, .int v2)] [] (aS x) d bc bs (liP x K) := by
  refine Lp2.use (P := fun v1 v2 => EW MX8_bytesIn 5 [(0, .int v0), (1, .int v1), (2, .int v2)] [] (aS x) d bc bs (liP x K)) (fun L5 v1 v2 hL5 h => ?_) v1 v2 h
  unfold lX8_bytesIn_5 at h
  refine EW_iload_n (pc2 := 6) rfl dX8_bytesIn_5 2 rfl ?_
  refine EW_if_lt (tgt := 33) (pc2 := 9) rfl dX8_bytesIn_6 (by decide) (fun q => ?_) (fun q => ?_)
  · replace h := h.1 q
    refine EW_iload_n (pc2 := 34) rfl dX8_bytesIn_33 1 rfl ?_
    exact AW_iret rfl dX8_bytesIn_34 ⟨_, rfl, rfl, h⟩
  · replace h := h.2 q
    refine EW_iload_n (pc2 := 10) rfl dX8_bytesIn_9 1 rfl ?_
    refine EW_iload_n (pc2 := 11) rfl dX8_bytesIn_10 0 rfl ?_
    refine EW_iload_n (pc2 := 12) rfl dX8_bytesIn_11 2 rfl ?_
    refine EW_ishr (pc2 := 13) rfl dX8_bytesIn_12 ?_
    refine EW_sipush (pc2 := 16) (v := 255) rfl dX8_bytesIn_13 (by decide) ?_
    refine EW_iand (pc2 := 17) rfl dX8_bytesIn_16 ?_
    refine EW_if_ne (tgt := 24) (pc2 := 20) rfl dX8_bytesIn_17 (by decide) (fun q => ?_) (fun q => ?_)
    · replace h := h.1 q
      refine EW_iconst (pc2 := 25) (v := 1) rfl dX8_bytesIn_24 (by decide) ?_
      refine EW_ls [0, 2] rfl ?_
      exact sX8_bytesIn_25 v0 v2 v1 1 x K L5 d bc bs hdp hL5 h
    · replace h := h.2 q
      refine EW_iconst (pc2 := 21) (v := 0) rfl dX8_bytesIn_20 (by decide) ?_
      refine EW_goto (tgt := 25) dX8_bytesIn_21 (by decide) ?_
      refine EW_ls [0, 2] rfl ?_
      exact sX8_bytesIn_25 v0 v2 v1 0 x K L5 d bc bs hdp hL5 h
set_option maxHeartbeats 4000000 in
set_option maxRecDepth 100000 in
def wX8_bytesIn (v0 : Int32) (x : ab_X) (K : Int32 → Prop) : Prop := Lp2 (lX8_bytesIn_5 v0 x K ) 0 24
set_option maxHeartbeats 4000000 in
set_option maxRecDepth 100000 in
theorem sX8_bytesIn (v0 : Int32)  (x : ab_X) (K : Int32 → Prop) (d bc bs : Nat) (hdp : 0 ≤ d) (h : wX8_bytesIn v0 x K) : EW MX8_bytesIn 0 [(0, .int v0)] [] (aS x) d bc bs (liP x K) := by
  unfold wX8_bytesIn at h
  refine EW_iconst (pc2 := 1) (v := 0) rfl dX8_bytesIn_0 (by decide) ?_
  refine EW_istore_n (pc2 := 2) rfl dX8_bytesIn_1 (by decide) [1, 0] [(0, .int v0), (1, .int 0)] rfl ?_
  refine EW_bipush (pc2 := 4) (v := 24) rfl dX8_bytesIn_2 (by decide) ?_
  refine EW_istore_n (pc2 := 5) rfl dX8_bytesIn_4 (by decide) [1, 2, 0] [(0, .int v0), (1, .int 0), (2, .int 24)] rfl ?_
  exact sX8_bytesIn_5 v0 0 24 x K d bc bs hdp h
abbrev MX8_take : ab_M := (yX8_take, cX8_take, 4, none)
theorem dX8_take_0 : decode cX8_take 0 = .ok (.bipush 24, 2) := by decide +kernel
theorem dX8_take_2 : decode cX8_take 2 = .ok (.istore_n 2, 1) := by decide +kernel
theorem dX8_take_3 : decode cX8_take 3 = .ok (.iload_n 2, 1) := by decide +kernel
theorem dX8_take_4 : decode cX8_take 4 = .ok (.ifCond .lt 51, 3) := by decide +kernel
theorem dX8_take_7 : decode cX8_take 7 = .ok (.iload_n 1, 1) := by decide +kernel
theorem dX8_take_8 : decode cX8_take 8 = .ok (.iload_n 2, 1) := by decide +kernel
theorem dX8_take_9 : decode cX8_take 9 = .ok (.ishr, 1) := by decide +kernel
theorem dX8_take_10 : decode cX8_take 10 = .ok (.sipush 255, 3) := by decide +kernel
theorem dX8_take_13 : decode cX8_take 13 = .ok (.iand, 1) := by decide +kernel
theorem dX8_take_14 : decode cX8_take 14 = .ok (.istore_n 3, 1) := by decide +kernel
theorem dX8_take_15 : decode cX8_take 15 = .ok (.iload_n 3, 1) := by decide +kernel
theorem dX8_take_16 : decode cX8_take 16 = .ok (.ifCond .eq 33, 3) := by decide +kernel
theorem dX8_take_19 : decode cX8_take 19 = .ok (.aload_n 0, 1) := by decide +kernel
theorem dX8_take_20 : decode cX8_take 20 = .ok (.getfield 28, 3) := by decide +kernel
theorem dX8_take_23 : decode cX8_take 23 = .ok (.sipush 200, 3) := by decide +kernel
theorem dX8_take_26 : decode cX8_take 26 = .ok (.if_icmp .ge 23, 3) := by decide +kernel
theorem dX8_take_29 : decode cX8_take 29 = .ok (.aload_n 0, 1) := by decide +kernel
theorem dX8_take_30 : decode cX8_take 30 = .ok (.getfield 9, 3) := by decide +kernel
theorem dX8_take_33 : decode cX8_take 33 = .ok (.aload_n 0, 1) := by decide +kernel
theorem dX8_take_34 : decode cX8_take 34 = .ok (.getfield 28, 3) := by decide +kernel
theorem dX8_take_37 : decode cX8_take 37 = .ok (.iload_n 3, 1) := by decide +kernel
theorem dX8_take_38 : decode cX8_take 38 = .ok (.iastore, 1) := by decide +kernel
theorem dX8_take_39 : decode cX8_take 39 = .ok (.aload_n 0, 1) := by decide +kernel
theorem dX8_take_40 : decode cX8_take 40 = .ok (.dup, 1) := by decide +kernel
theorem dX8_take_41 : decode cX8_take 41 = .ok (.getfield 28, 3) := by decide +kernel
theorem dX8_take_44 : decode cX8_take 44 = .ok (.iconst 1, 1) := by decide +kernel
theorem dX8_take_45 : decode cX8_take 45 = .ok (.iadd, 1) := by decide +kernel
theorem dX8_take_46 : decode cX8_take 46 = .ok (.putfield 28, 3) := by decide +kernel
theorem dX8_take_49 : decode cX8_take 49 = .ok (.iinc 2 (-8), 3) := by decide +kernel
theorem dX8_take_52 : decode cX8_take 52 = .ok (.goto (-49), 3) := by decide +kernel
theorem dX8_take_55 : decode cX8_take 55 = .ok (.return_, 1) := by decide +kernel
theorem okX8_take : ab_okM MX8_take 1 := ⟨by decide, ⟨by decide, by decide⟩, ab_in 1162 (by decide +kernel) (by decide +kernel), ab_in 96 (by decide +kernel) (by decide +kernel), by decide +kernel, by decide⟩
set_option maxHeartbeats 4000000 in
set_option maxRecDepth 100000 in
def lX8_take_3 (v1 : Int32) (K : ab_X → Prop)  (L3 : Int32 → ab_X → Prop) (v2 : Int32) (x : ab_X) : Prop := ((v2 < 0 → K x) ∧ (¬ v2 < 0 → ((((v1 >>> (v2 &&& 31)) &&& 255) = 0 → L3 (v2 + (-8)) x) ∧ (¬ ((v1 >>> (v2 &&& 31)) &&& 255) = 0 → ((200 ≤ (x.1 158 1) → L3 (v2 + (-8)) x) ∧ (¬ 200 ≤ (x.1 158 1) → (vp_in (x.1 158 1) 200 ∧ L3 (v2 + (-8)) (wr (wr x 159 (Int32.toNatClampNeg (x.1 158 1)) ((v1 >>> (v2 &&& 31)) &&& 255)) 158 1 (((wr x 159 (Int32.toNatClampNeg (x.1 158 1)) ((v1 >>> (v2 &&& 31)) &&& 255)).1 158 1) + 1)))))))))
set_option maxHeartbeats 4000000 in
set_option maxRecDepth 100000 in
theorem sX8_take_3 (v1 : Int32) (v2 : Int32)  (x : ab_X) (K : ab_X → Prop)  (d bc bs : Nat) (hdp : 0 ≤ d)  (h : Lp2 (lX8_take_3 v1 K ) v2 x) : EW MX8_take 3 [(0, .ref 158), (1, .int v1), (2, .int v2)] [] (aS x) d bc bs (liV K) := by
  refine Lp2.use (P := fun v2 x => EW MX8_take 3 [(0, .ref 158), (1, .int v1), (2, .int v2)] [] (aS x) d bc bs (liV K)) (fun L3 v2 x hL3 h => ?_) v2 x h
  unfold lX8_take_3 at h
  refine EW_iload_n (pc2 := 4) rfl dX8_take_3 2 rfl ?_
  refine EW_if_lt (tgt := 55) (pc2 := 7) rfl dX8_take_4 (by decide) (fun q => ?_) (fun q => ?_)
  · replace h := h.1 q
    exact EW_vret rfl dX8_take_55 ⟨_, rfl, rfl, h⟩
  · replace h := h.2 q
    refine EW_iload_n (pc2 := 8) rfl dX8_take_7 1 rfl ?_
    refine EW_iload_n (pc2 := 9) rfl dX8_take_8 2 rfl ?_
    refine EW_ishr (pc2 := 10) rfl dX8_take_9 ?_
    refine EW_sipush (pc2 := 13) (v := 255) rfl dX8_take_10 (by decide) ?_
    refine EW_iand (pc2 := 14) rfl dX8_take_13 ?_
    refine EW_istore_n (pc2 := 15) rfl dX8_take_14 (by decide) [1, 2, 3, 0] [(0, .ref 158), (1, .int v1), (2, .int v2), (3, .int ((v1 >>> (v2 &&& 31)) &&& 255))] rfl ?_
    refine EW_iload_n (pc2 := 16) rfl dX8_take_15 3 rfl ?_
    refine EW_if_eq (tgt := 49) (pc2 := 19) rfl dX8_take_16 (by decide) (fun q => ?_) (fun q => ?_)
    · replace h := h.1 q
      refine EW_iinc (v2 + (-8)) (pc2 := 52) rfl dX8_take_49 2 rfl rfl (by decide) [1, 2, 0, 3] [(0, .ref 158), (1, .int v1), (2, .int (v2 + (-8))), (3, .int ((v1 >>> (v2 &&& 31)) &&& 255))] rfl ?_
      refine EW_goto (tgt := 3) dX8_take_52 (by decide) ?_
      refine EW_ls [0, 1, 2] rfl ?_
      exact hL3 (v2 + (-8)) x h
    · replace h := h.2 q
      refine EW_aload_n (pc2 := 20) rfl dX8_take_19 0 rfl ?_
      refine AW_geti ⟨gfRX8_28, rfl⟩ (pc2 := 23) rfl dX8_take_20 q158 ?_
      refine EW_sipush (pc2 := 26) (v := 200) rfl dX8_take_23 (by decide) ?_
      refine EW_icmp_ge (tgt := 49) (pc2 := 29) rfl dX8_take_26 (by decide) (fun q => ?_) (fun q => ?_)
      · replace h := h.1 q
        refine EW_iinc (v2 + (-8)) (pc2 := 52) rfl dX8_take_49 2 rfl rfl (by decide) [1, 2, 0, 3] [(0, .ref 158), (1, .int v1), (2, .int (v2 + (-8))), (3, .int ((v1 >>> (v2 &&& 31)) &&& 255))] rfl ?_
        refine EW_goto (tgt := 3) dX8_take_52 (by decide) ?_
        refine EW_ls [0, 1, 2] rfl ?_
        exact hL3 (v2 + (-8)) x h
      · replace h := h.2 q
        refine EW_aload_n (pc2 := 30) rfl dX8_take_29 0 rfl ?_
        refine AW_getr (r := 159) ⟨gfRX8_9, rfl⟩ (pc2 := 33) rfl dX8_take_30 q158 rfl ?_
        refine EW_aload_n (pc2 := 34) rfl dX8_take_33 0 rfl ?_
        refine AW_geti ⟨gfRX8_28, rfl⟩ (pc2 := 37) rfl dX8_take_34 q158 ?_
        refine EW_iload_n (pc2 := 38) rfl dX8_take_37 3 rfl ?_
        obtain ⟨b1, h⟩ := h
        refine AW_iast (pc2 := 39) rfl dX8_take_38 q159 b1 ?_
        refine EW_aload_n (pc2 := 40) rfl dX8_take_39 0 rfl ?_
        refine EW_dup (pc2 := 41) rfl dX8_take_40 rfl ?_
        refine AW_geti ⟨gfRX8_28, rfl⟩ (pc2 := 44) rfl dX8_take_41 q158 ?_
        refine EW_iconst (pc2 := 45) (v := 1) rfl dX8_take_44 (by decide) ?_
        refine EW_iadd (pc2 := 46) rfl dX8_take_45 ?_
        refine AW_puti ⟨gfRX8_28, rfl, rfl⟩ (pc2 := 49) rfl dX8_take_46 q158 ?_
        refine EW_iinc (v2 + (-8)) (pc2 := 52) rfl dX8_take_49 2 rfl rfl (by decide) [1, 2, 0, 3] [(0, .ref 158), (1, .int v1), (2, .int (v2 + (-8))), (3, .int ((v1 >>> (v2 &&& 31)) &&& 255))] rfl ?_
        refine EW_goto (tgt := 3) dX8_take_52 (by decide) ?_
        refine EW_ls [0, 1, 2] rfl ?_
        exact hL3 (v2 + (-8)) (wr (wr x 159 (Int32.toNatClampNeg (x.1 158 1)) ((v1 >>> (v2 &&& 31)) &&& 255)) 158 1 (((wr x 159 (Int32.toNatClampNeg (x.1 158 1)) ((v1 >>> (v2 &&& 31)) &&& 255)).1 158 1) + 1)) h
set_option maxHeartbeats 4000000 in
set_option maxRecDepth 100000 in
def wX8_take (v1 : Int32) (x : ab_X) (K : ab_X → Prop) : Prop := Lp2 (lX8_take_3 v1 K ) 24 x
set_option maxHeartbeats 4000000 in
set_option maxRecDepth 100000 in
theorem sX8_take (v1 : Int32)  (x : ab_X) (K : ab_X → Prop) (d bc bs : Nat) (hdp : 0 ≤ d) (h : wX8_take v1 x K) : EW MX8_take 0 [(0, .ref 158), (1, .int v1)] [] (aS x) d bc bs (liV K) := by
  unfold wX8_take at h
  refine EW_bipush (pc2 := 2) (v := 24) rfl dX8_take_0 (by decide) ?_
  refine EW_istore_n (pc2 := 3) rfl dX8_take_2 (by decide) [1, 2, 0] [(0, .ref 158), (1, .int v1), (2, .int 24)] rfl ?_
  exact sX8_take_3 v1 24 x K d bc bs hdp h
