theorem mlRX11_206 : Cond.methodLink RX11 206 yX3_burningRooms ∈ ab_G ∧ Cond.instanceMethod yX3_burningRooms ∈ ab_G ∧ Cond.selects RX3 yX3_burningRooms yX3_burningRooms ∈ ab_G := ⟨ab_in 929 (by decide +kernel) (by decide +kernel), ab_in 884 (by decide +kernel) (by decide +kernel), ab_in 885 (by decide +kernel) (by decide +kernel)⟩
theorem mlRX11_210 : Cond.methodLink RX11 210 yX3_burntOf ∈ ab_G ∧ Cond.instanceMethod yX3_burntOf ∈ ab_G ∧ Cond.selects RX3 yX3_burntOf yX3_burntOf ∈ ab_G := ⟨ab_in 930 (by decide +kernel) (by decide +kernel), ab_in 931 (by decide +kernel) (by decide +kernel), ab_in 932 (by decide +kernel) (by decide +kernel)⟩
theorem gfRX11_213 : ab_L RX11 213 4 14 := ⟨by decide, by decide, ab_in 265 (by decide +kernel) (by decide +kernel)⟩
theorem gfRX11_216 : ab_L RX11 216 4 15 := ⟨by decide, by decide, ab_in 268 (by decide +kernel) (by decide +kernel)⟩
theorem mlRX11_219 : Cond.methodLink RX11 219 yX3_fallenOf ∈ ab_G ∧ Cond.instanceMethod yX3_fallenOf ∈ ab_G ∧ Cond.selects RX3 yX3_fallenOf yX3_fallenOf ∈ ab_G := ⟨ab_in 934 (by decide +kernel) (by decide +kernel), ab_in 935 (by decide +kernel) (by decide +kernel), ab_in 936 (by decide +kernel) (by decide +kernel)⟩
theorem mlRX11_222 : Cond.methodLink RX11 222 yX0_workersIn ∈ ab_G ∧ Cond.instanceMethod yX0_workersIn ∈ ab_G ∧ Cond.selects RX0 yX0_workersIn yX0_workersIn ∈ ab_G := ⟨ab_in 939 (by decide +kernel) (by decide +kernel), ab_in 940 (by decide +kernel) (by decide +kernel), ab_in 941 (by decide +kernel) (by decide +kernel)⟩
theorem gfRX11_225 : ab_L RX11 225 4 16 := ⟨by decide, by decide, ab_in 270 (by decide +kernel) (by decide +kernel)⟩
abbrev MX11_housed : ab_M := (yX11_housed, cX11_housed, 4, (some .int))
theorem dX11_housed_0 : decode cX11_housed 0 = .ok (.aload_n 0, 1) := by decide +kernel
theorem dX11_housed_1 : decode cX11_housed 1 = .ok (.getfield 21, 3) := by decide +kernel
theorem dX11_housed_4 : decode cX11_housed 4 = .ok (.iload_n 1, 1) := by decide +kernel
theorem dX11_housed_5 : decode cX11_housed 5 = .ok (.invokevirtual 124, 3) := by decide +kernel
theorem dX11_housed_8 : decode cX11_housed 8 = .ok (.ifCond .ne 5, 3) := by decide +kernel
theorem dX11_housed_11 : decode cX11_housed 11 = .ok (.iconst (-1), 1) := by decide +kernel
theorem dX11_housed_12 : decode cX11_housed 12 = .ok (.ireturn, 1) := by decide +kernel
theorem dX11_housed_13 : decode cX11_housed 13 = .ok (.aload_n 0, 1) := by decide +kernel
theorem dX11_housed_14 : decode cX11_housed 14 = .ok (.getfield 21, 3) := by decide +kernel
theorem dX11_housed_17 : decode cX11_housed 17 = .ok (.getfield 127, 3) := by decide +kernel
theorem dX11_housed_20 : decode cX11_housed 20 = .ok (.iload_n 1, 1) := by decide +kernel
theorem dX11_housed_21 : decode cX11_housed 21 = .ok (.aaload, 1) := by decide +kernel
theorem dX11_housed_22 : decode cX11_housed 22 = .ok (.astore_n 3, 1) := by decide +kernel
theorem dX11_housed_23 : decode cX11_housed 23 = .ok (.iload_n 2, 1) := by decide +kernel
theorem dX11_housed_24 : decode cX11_housed 24 = .ok (.tableswitch 104 0 6 #[44, 56, 68, 73, 78, 90, 99], 44) := by decide +kernel
theorem dX11_housed_68 : decode cX11_housed 68 = .ok (.aload_n 0, 1) := by decide +kernel
theorem dX11_housed_69 : decode cX11_housed 69 = .ok (.getfield 21, 3) := by decide +kernel
theorem dX11_housed_72 : decode cX11_housed 72 = .ok (.getfield 150, 3) := by decide +kernel
theorem dX11_housed_75 : decode cX11_housed 75 = .ok (.aload_n 3, 1) := by decide +kernel
theorem dX11_housed_76 : decode cX11_housed 76 = .ok (.invokevirtual 206, 3) := by decide +kernel
theorem dX11_housed_79 : decode cX11_housed 79 = .ok (.ireturn, 1) := by decide +kernel
theorem dX11_housed_80 : decode cX11_housed 80 = .ok (.aload_n 0, 1) := by decide +kernel
theorem dX11_housed_81 : decode cX11_housed 81 = .ok (.getfield 21, 3) := by decide +kernel
theorem dX11_housed_84 : decode cX11_housed 84 = .ok (.getfield 150, 3) := by decide +kernel
theorem dX11_housed_87 : decode cX11_housed 87 = .ok (.aload_n 3, 1) := by decide +kernel
theorem dX11_housed_88 : decode cX11_housed 88 = .ok (.invokevirtual 210, 3) := by decide +kernel
theorem dX11_housed_91 : decode cX11_housed 91 = .ok (.ireturn, 1) := by decide +kernel
theorem dX11_housed_92 : decode cX11_housed 92 = .ok (.aload_n 3, 1) := by decide +kernel
theorem dX11_housed_93 : decode cX11_housed 93 = .ok (.getfield 213, 3) := by decide +kernel
theorem dX11_housed_96 : decode cX11_housed 96 = .ok (.ireturn, 1) := by decide +kernel
theorem dX11_housed_97 : decode cX11_housed 97 = .ok (.aload_n 3, 1) := by decide +kernel
theorem dX11_housed_98 : decode cX11_housed 98 = .ok (.getfield 216, 3) := by decide +kernel
theorem dX11_housed_101 : decode cX11_housed 101 = .ok (.ireturn, 1) := by decide +kernel
theorem dX11_housed_102 : decode cX11_housed 102 = .ok (.aload_n 0, 1) := by decide +kernel
theorem dX11_housed_103 : decode cX11_housed 103 = .ok (.getfield 21, 3) := by decide +kernel
theorem dX11_housed_106 : decode cX11_housed 106 = .ok (.getfield 150, 3) := by decide +kernel
theorem dX11_housed_109 : decode cX11_housed 109 = .ok (.aload_n 3, 1) := by decide +kernel
theorem dX11_housed_110 : decode cX11_housed 110 = .ok (.invokevirtual 219, 3) := by decide +kernel
theorem dX11_housed_113 : decode cX11_housed 113 = .ok (.ireturn, 1) := by decide +kernel
theorem dX11_housed_114 : decode cX11_housed 114 = .ok (.aload_n 0, 1) := by decide +kernel
theorem dX11_housed_115 : decode cX11_housed 115 = .ok (.getfield 30, 3) := by decide +kernel
theorem dX11_housed_118 : decode cX11_housed 118 = .ok (.iload_n 1, 1) := by decide +kernel
theorem dX11_housed_119 : decode cX11_housed 119 = .ok (.invokevirtual 222, 3) := by decide +kernel
theorem dX11_housed_122 : decode cX11_housed 122 = .ok (.ireturn, 1) := by decide +kernel
theorem dX11_housed_123 : decode cX11_housed 123 = .ok (.aload_n 3, 1) := by decide +kernel
theorem dX11_housed_124 : decode cX11_housed 124 = .ok (.getfield 225, 3) := by decide +kernel
theorem dX11_housed_127 : decode cX11_housed 127 = .ok (.ireturn, 1) := by decide +kernel
theorem dX11_housed_128 : decode cX11_housed 128 = .ok (.iconst (-1), 1) := by decide +kernel
theorem dX11_housed_129 : decode cX11_housed 129 = .ok (.ireturn, 1) := by decide +kernel
theorem okX11_housed : ab_okM MX11_housed 2 := ⟨by decide, ⟨by decide, by decide⟩, ab_in 928 (by decide +kernel) (by decide +kernel), ab_in 86 (by decide +kernel) (by decide +kernel), by decide +kernel, by decide⟩
set_option maxHeartbeats 4000000 in
set_option maxRecDepth 100000 in
def wX11_housed (v1 : Int32) (v2 : Int32) (x : ab_X) (K : Int32 → Prop) : Prop := wX10_has v1 x (fun r1 => ((¬ r1 = 0 → (vp_in v1 12 ∧ (((v2.toInt < 0 ∨ 6 < v2.toInt) → K (-1)) ∧ (v2 = 0 → wX3_burningRooms 11 (30 + 3 * Int32.toNatClampNeg v1) x (fun r3 => K r3)) ∧ (v2 = 1 → wX3_burntOf 11 (30 + 3 * Int32.toNatClampNeg v1) x (fun r4 => K r4)) ∧ (v2 = 2 → K (x.1 (30 + 3 * Int32.toNatClampNeg v1) 14)) ∧ (v2 = 3 → K (x.1 (30 + 3 * Int32.toNatClampNeg v1) 15)) ∧ (v2 = 4 → wX3_fallenOf 11 (30 + 3 * Int32.toNatClampNeg v1) x (fun r5 => K r5)) ∧ (v2 = 5 → wX0_workersIn v1 x (fun r6 => K r6)) ∧ (v2 = 6 → K (x.1 (30 + 3 * Int32.toNatClampNeg v1) 16))))) ∧ (r1 = 0 → K (-1))))
set_option maxHeartbeats 4000000 in
set_option maxRecDepth 100000 in
theorem sX11_housed (v1 : Int32) (v2 : Int32)  (x : ab_X) (K : Int32 → Prop) (d bc bs : Nat) (hdp : 3 ≤ d) (h : wX11_housed v1 v2 x K) : EW MX11_housed 0 [(0, .ref 0), (1, .int v1), (2, .int v2)] [] (aS x) d bc bs (liP x K) := by
  unfold wX11_housed at h
  refine EW_aload_n (pc2 := 1) rfl dX11_housed_0 0 rfl ?_
  refine AW_getr (r := 9) ⟨gfRX11_21, rfl⟩ (pc2 := 4) rfl dX11_housed_1 q0 rfl ?_
  refine EW_iload_n (pc2 := 5) rfl dX11_housed_4 1 rfl ?_
  refine AW_invV (M' := MX10_has) [.int v1] (rest := []) mlRX11_124 okX10_has (pc2 := 8) rfl dX11_housed_5 rfl rfl (Nat.le_of_ble_eq_true rfl) (Nat.le_of_ble_eq_true rfl) (d' := 1) (by omega) q9 ⟨by decide, rfl⟩ (EW_mono (fun _ _ hr => ?_) (sX10_has v1  x _ _ 0 0 (Nat.le_refl _) h))
  obtain ⟨r1, rfl, rfl, h⟩ := hr
  refine EW_if_ne (tgt := 13) (pc2 := 11) rfl dX11_housed_8 (by decide) (fun q => ?_) (fun q => ?_)
  · replace h := h.1 q
    refine EW_aload_n (pc2 := 14) rfl dX11_housed_13 0 rfl ?_
    refine AW_getr (r := 9) ⟨gfRX11_21, rfl⟩ (pc2 := 17) rfl dX11_housed_14 q0 rfl ?_
    refine AW_getr (r := 10) ⟨gfRX11_127, rfl⟩ (pc2 := 20) rfl dX11_housed_17 q9 rfl ?_
    refine EW_iload_n (pc2 := 21) rfl dX11_housed_20 1 rfl ?_
    obtain ⟨b2, h⟩ := h
    refine AW_aald5 (pc2 := 22) rfl dX11_housed_21 b2 ?_
    refine EW_astore_n (pc2 := 23) rfl dX11_housed_22 (by decide) [1, 2, 3, 0] [(0, .ref 0), (1, .int v1), (2, .int v2), (3, .ref (30 + 3 * Int32.toNatClampNeg v1))] rfl ?_
    refine EW_iload_n (pc2 := 24) rfl dX11_housed_23 2 rfl ?_
    by_cases qo : Int32.toInt v2 < 0 ∨ 6 < Int32.toInt v2
    · replace h := h.1 qo
      refine EW_tabOut (tgt := 128) dX11_housed_24 qo (by decide) ?_
      refine EW_iconst (pc2 := 129) (v := (-1)) rfl dX11_housed_128 (by decide) ?_
      exact AW_iret rfl dX11_housed_129 ⟨_, rfl, rfl, h⟩
    · obtain ⟨kk, hkk, qk⟩ := sw_in 0 6 (by decide) qo
      match kk, hkk, qk with
      | 0, _, qk =>
        replace h := h.2.1 qk
        refine EW_tabIn (off := 44) (tgt := 68) dX11_housed_24 (by rw [qk]; decide) (by rw [qk]; decide) (by rw [qk]; decide) (by decide) ?_
        refine EW_aload_n (pc2 := 69) rfl dX11_housed_68 0 rfl ?_
        refine AW_getr (r := 9) ⟨gfRX11_21, rfl⟩ (pc2 := 72) rfl dX11_housed_69 q0 rfl ?_
        refine AW_getr (r := 11) ⟨gfRX11_150, rfl⟩ (pc2 := 75) rfl dX11_housed_72 q9 rfl ?_
        refine EW_aload_n (pc2 := 76) rfl dX11_housed_75 3 rfl ?_
        refine AW_invV (M' := MX3_burningRooms) [.ref (30 + 3 * Int32.toNatClampNeg v1)] (rest := []) mlRX11_206 okX3_burningRooms (pc2 := 79) rfl dX11_housed_76 rfl rfl (Nat.le_of_ble_eq_true rfl) (Nat.le_of_ble_eq_true rfl) (d' := 1) (by omega) q11 ⟨by decide, rfl⟩ (EW_mono (fun _ _ hr => ?_) (sX3_burningRooms 11 (30 + 3 * Int32.toNatClampNeg v1) (Or.inl rfl : isF 11) (isH_of b2) x _ _ 0 0 (Nat.le_refl _) h))
        obtain ⟨r3, rfl, rfl, h⟩ := hr
        exact AW_iret rfl dX11_housed_79 ⟨_, rfl, rfl, h⟩
      | 1, _, qk =>
        replace h := h.2.2.1 qk
        refine EW_tabIn (off := 56) (tgt := 80) dX11_housed_24 (by rw [qk]; decide) (by rw [qk]; decide) (by rw [qk]; decide) (by decide) ?_
        refine EW_aload_n (pc2 := 81) rfl dX11_housed_80 0 rfl ?_
        refine AW_getr (r := 9) ⟨gfRX11_21, rfl⟩ (pc2 := 84) rfl dX11_housed_81 q0 rfl ?_
        refine AW_getr (r := 11) ⟨gfRX11_150, rfl⟩ (pc2 := 87) rfl dX11_housed_84 q9 rfl ?_
        refine EW_aload_n (pc2 := 88) rfl dX11_housed_87 3 rfl ?_
        refine AW_invV (M' := MX3_burntOf) [.ref (30 + 3 * Int32.toNatClampNeg v1)] (rest := []) mlRX11_210 okX3_burntOf (pc2 := 91) rfl dX11_housed_88 rfl rfl (Nat.le_of_ble_eq_true rfl) (Nat.le_of_ble_eq_true rfl) (d' := 1) (by omega) q11 ⟨by decide, rfl⟩ (EW_mono (fun _ _ hr => ?_) (sX3_burntOf 11 (30 + 3 * Int32.toNatClampNeg v1) (Or.inl rfl : isF 11) (isH_of b2) x _ _ 0 0 (Nat.le_refl _) h))
        obtain ⟨r4, rfl, rfl, h⟩ := hr
        exact AW_iret rfl dX11_housed_91 ⟨_, rfl, rfl, h⟩
      | 2, _, qk =>
        replace h := h.2.2.2.1 qk
        refine EW_tabIn (off := 68) (tgt := 92) dX11_housed_24 (by rw [qk]; decide) (by rw [qk]; decide) (by rw [qk]; decide) (by decide) ?_
        refine EW_aload_n (pc2 := 93) rfl dX11_housed_92 3 rfl ?_
        refine AW_geti ⟨gfRX11_213, rfl⟩ (pc2 := 96) rfl dX11_housed_93 (isH.o (isH_of b2)) ?_
        exact AW_iret rfl dX11_housed_96 ⟨_, rfl, rfl, h⟩
      | 3, _, qk =>
        replace h := h.2.2.2.2.1 qk
        refine EW_tabIn (off := 73) (tgt := 97) dX11_housed_24 (by rw [qk]; decide) (by rw [qk]; decide) (by rw [qk]; decide) (by decide) ?_
        refine EW_aload_n (pc2 := 98) rfl dX11_housed_97 3 rfl ?_
        refine AW_geti ⟨gfRX11_216, rfl⟩ (pc2 := 101) rfl dX11_housed_98 (isH.o (isH_of b2)) ?_
        exact AW_iret rfl dX11_housed_101 ⟨_, rfl, rfl, h⟩
      | 4, _, qk =>
        replace h := h.2.2.2.2.2.1 qk
        refine EW_tabIn (off := 78) (tgt := 102) dX11_housed_24 (by rw [qk]; decide) (by rw [qk]; decide) (by rw [qk]; decide) (by decide) ?_
        refine EW_aload_n (pc2 := 103) rfl dX11_housed_102 0 rfl ?_
        refine AW_getr (r := 9) ⟨gfRX11_21, rfl⟩ (pc2 := 106) rfl dX11_housed_103 q0 rfl ?_
        refine AW_getr (r := 11) ⟨gfRX11_150, rfl⟩ (pc2 := 109) rfl dX11_housed_106 q9 rfl ?_
        refine EW_aload_n (pc2 := 110) rfl dX11_housed_109 3 rfl ?_
        refine AW_invV (M' := MX3_fallenOf) [.ref (30 + 3 * Int32.toNatClampNeg v1)] (rest := []) mlRX11_219 okX3_fallenOf (pc2 := 113) rfl dX11_housed_110 rfl rfl (Nat.le_of_ble_eq_true rfl) (Nat.le_of_ble_eq_true rfl) (d' := 2) (by omega) q11 ⟨by decide, rfl⟩ (EW_mono (fun _ _ hr => ?_) (sX3_fallenOf 11 (30 + 3 * Int32.toNatClampNeg v1) (Or.inl rfl : isF 11) (isH_of b2) x _ _ 0 0 (Nat.le_refl _) h))
        obtain ⟨r5, rfl, rfl, h⟩ := hr
        exact AW_iret rfl dX11_housed_113 ⟨_, rfl, rfl, h⟩
      | 5, _, qk =>
        replace h := h.2.2.2.2.2.2.1 qk
        refine EW_tabIn (off := 90) (tgt := 114) dX11_housed_24 (by rw [qk]; decide) (by rw [qk]; decide) (by rw [qk]; decide) (by decide) ?_
        refine EW_aload_n (pc2 := 115) rfl dX11_housed_114 0 rfl ?_
        refine AW_getr (r := 66) ⟨gfRX11_30, rfl⟩ (pc2 := 118) rfl dX11_housed_115 q0 rfl ?_
        refine EW_iload_n (pc2 := 119) rfl dX11_housed_118 1 rfl ?_
        refine AW_invV (M' := MX0_workersIn) [.int v1] (rest := []) mlRX11_222 okX0_workersIn (pc2 := 122) rfl dX11_housed_119 rfl rfl (Nat.le_of_ble_eq_true rfl) (Nat.le_of_ble_eq_true rfl) (d' := 0) (by omega) q66 ⟨by decide, rfl⟩ (EW_mono (fun _ _ hr => ?_) (sX0_workersIn v1  x _ _ 0 0 (Nat.le_refl _) h))
        obtain ⟨r6, rfl, rfl, h⟩ := hr
        exact AW_iret rfl dX11_housed_122 ⟨_, rfl, rfl, h⟩
      | 6, _, qk =>
        replace h := h.2.2.2.2.2.2.2 qk
        refine EW_tabIn (off := 99) (tgt := 123) dX11_housed_24 (by rw [qk]; decide) (by rw [qk]; decide) (by rw [qk]; decide) (by decide) ?_
        refine EW_aload_n (pc2 := 124) rfl dX11_housed_123 3 rfl ?_
        refine AW_geti ⟨gfRX11_225, rfl⟩ (pc2 := 127) rfl dX11_housed_124 (isH.o (isH_of b2)) ?_
        exact AW_iret rfl dX11_housed_127 ⟨_, rfl, rfl, h⟩
      | n9 + 7, hkk, _ => exact absurd hkk (by omega)
  · replace h := h.2 q
    refine EW_iconst (pc2 := 12) (v := (-1)) rfl dX11_housed_11 (by decide) ?_
    exact AW_iret rfl dX11_housed_12 ⟨_, rfl, rfl, h⟩
theorem gfRX11_90 : ab_L RX11 90 6 4 := ⟨by decide, by decide, ab_in 137 (by decide +kernel) (by decide +kernel)⟩
abbrev MX11_jam : ab_M := (yX11_jam, cX11_jam, 4, (some .boolean))
theorem dX11_jam_0 : decode cX11_jam 0 = .ok (.iload_n 1, 1) := by decide +kernel
theorem dX11_jam_1 : decode cX11_jam 1 = .ok (.aload_n 0, 1) := by decide +kernel
theorem dX11_jam_2 : decode cX11_jam 2 = .ok (.getfield 12, 3) := by decide +kernel
theorem dX11_jam_5 : decode cX11_jam 5 = .ok (.getfield 82, 3) := by decide +kernel
theorem dX11_jam_8 : decode cX11_jam 8 = .ok (.invokestatic 86, 3) := by decide +kernel
theorem dX11_jam_11 : decode cX11_jam 11 = .ok (.ifCond .eq 23, 3) := by decide +kernel
theorem dX11_jam_14 : decode cX11_jam 14 = .ok (.iload_n 2, 1) := by decide +kernel
theorem dX11_jam_15 : decode cX11_jam 15 = .ok (.iconst 4, 1) := by decide +kernel
theorem dX11_jam_16 : decode cX11_jam 16 = .ok (.invokestatic 86, 3) := by decide +kernel
theorem dX11_jam_19 : decode cX11_jam 19 = .ok (.ifCond .eq 15, 3) := by decide +kernel
theorem dX11_jam_22 : decode cX11_jam 22 = .ok (.iload_n 3, 1) := by decide +kernel
theorem dX11_jam_23 : decode cX11_jam 23 = .ok (.bipush 100, 2) := by decide +kernel
theorem dX11_jam_25 : decode cX11_jam 25 = .ok (.sipush 400, 3) := by decide +kernel
theorem dX11_jam_28 : decode cX11_jam 28 = .ok (.invokestatic 74, 3) := by decide +kernel
theorem dX11_jam_31 : decode cX11_jam 31 = .ok (.ifCond .ne 5, 3) := by decide +kernel
theorem dX11_jam_34 : decode cX11_jam 34 = .ok (.iconst 0, 1) := by decide +kernel
theorem dX11_jam_35 : decode cX11_jam 35 = .ok (.ireturn, 1) := by decide +kernel
theorem dX11_jam_36 : decode cX11_jam 36 = .ok (.aload_n 0, 1) := by decide +kernel
theorem dX11_jam_37 : decode cX11_jam 37 = .ok (.getfield 12, 3) := by decide +kernel
theorem dX11_jam_40 : decode cX11_jam 40 = .ok (.getfield 90, 3) := by decide +kernel
theorem dX11_jam_43 : decode cX11_jam 43 = .ok (.iload_n 1, 1) := by decide +kernel
theorem dX11_jam_44 : decode cX11_jam 44 = .ok (.iconst 4, 1) := by decide +kernel
theorem dX11_jam_45 : decode cX11_jam 45 = .ok (.imul, 1) := by decide +kernel
theorem dX11_jam_46 : decode cX11_jam 46 = .ok (.iload_n 2, 1) := by decide +kernel
theorem dX11_jam_47 : decode cX11_jam 47 = .ok (.iadd, 1) := by decide +kernel
theorem dX11_jam_48 : decode cX11_jam 48 = .ok (.iload_n 3, 1) := by decide +kernel
theorem dX11_jam_49 : decode cX11_jam 49 = .ok (.iastore, 1) := by decide +kernel
theorem dX11_jam_50 : decode cX11_jam 50 = .ok (.iconst 1, 1) := by decide +kernel
theorem dX11_jam_51 : decode cX11_jam 51 = .ok (.ireturn, 1) := by decide +kernel
theorem okX11_jam : ab_okM MX11_jam 3 := ⟨by decide, ⟨by decide, by decide⟩, ab_in 792 (by decide +kernel) (by decide +kernel), ab_in 86 (by decide +kernel) (by decide +kernel), by decide +kernel, by decide⟩
set_option maxHeartbeats 4000000 in
set_option maxRecDepth 100000 in
def wX11_jam (v1 : Int32) (v2 : Int32) (v3 : Int32) (x : ab_X) (K : Int32 → ab_X → Prop) : Prop := wX11_below v1 (x.1 1 7) x (fun r1 => ((r1 = 0 → K 0 x) ∧ (¬ r1 = 0 → wX11_below v2 4 x (fun r2 => ((r2 = 0 → K 0 x) ∧ (¬ r2 = 0 → wX11_within v3 100 400 x (fun r3 => ((¬ r3 = 0 → (vp_in ((v1 * 4) + v2) 160 ∧ K 1 (wr x 6 (Int32.toNatClampNeg ((v1 * 4) + v2)) v3))) ∧ (r3 = 0 → K 0 x)))))))))
set_option maxHeartbeats 4000000 in
set_option maxRecDepth 100000 in
theorem sX11_jam (v1 : Int32) (v2 : Int32) (v3 : Int32)  (x : ab_X) (K : Int32 → ab_X → Prop) (d bc bs : Nat) (hdp : 1 ≤ d) (h : wX11_jam v1 v2 v3 x K) : EW MX11_jam 0 [(0, .ref 0), (1, .int v1), (2, .int v2), (3, .int v3)] [] (aS x) d bc bs (liI K) := by
  unfold wX11_jam at h
  refine EW_iload_n (pc2 := 1) rfl dX11_jam_0 1 rfl ?_
  refine EW_aload_n (pc2 := 2) rfl dX11_jam_1 0 rfl ?_
  refine AW_getr (r := 1) ⟨gfRX11_12, rfl⟩ (pc2 := 5) rfl dX11_jam_2 q0 rfl ?_
  refine AW_geti ⟨gfRX11_82, rfl⟩ (pc2 := 8) rfl dX11_jam_5 q1 ?_
  refine AW_invS (M' := MX11_below) [.int v1, .int (x.1 1 7)] (rest := []) mlRX11_86 okX11_below (pc2 := 11) rfl dX11_jam_8 rfl rfl (Nat.le_of_ble_eq_true rfl) (Nat.le_of_ble_eq_true rfl) (d' := 0) (by omega) (EW_mono (fun _ _ hr => ?_) (sX11_below v1 (x.1 1 7)  x _ _ 0 0 (Nat.le_refl _) h))
  obtain ⟨r1, rfl, rfl, h⟩ := hr
  refine EW_if_eq (tgt := 34) (pc2 := 14) rfl dX11_jam_11 (by decide) (fun q => ?_) (fun q => ?_)
  · replace h := h.1 q
    refine EW_iconst (pc2 := 35) (v := 0) rfl dX11_jam_34 (by decide) ?_
    exact AW_zret rfl isB0 dX11_jam_35 ⟨_, _, rfl, rfl, h⟩
  · replace h := h.2 q
    refine EW_iload_n (pc2 := 15) rfl dX11_jam_14 2 rfl ?_
    refine EW_iconst (pc2 := 16) (v := 4) rfl dX11_jam_15 (by decide) ?_
    refine AW_invS (M' := MX11_below) [.int v2, .int 4] (rest := []) mlRX11_86 okX11_below (pc2 := 19) rfl dX11_jam_16 rfl rfl (Nat.le_of_ble_eq_true rfl) (Nat.le_of_ble_eq_true rfl) (d' := 0) (by omega) (EW_mono (fun _ _ hr => ?_) (sX11_below v2 4  x _ _ 0 0 (Nat.le_refl _) h))
    obtain ⟨r2, rfl, rfl, h⟩ := hr
    refine EW_if_eq (tgt := 34) (pc2 := 22) rfl dX11_jam_19 (by decide) (fun q => ?_) (fun q => ?_)
    · replace h := h.1 q
      refine EW_iconst (pc2 := 35) (v := 0) rfl dX11_jam_34 (by decide) ?_
      exact AW_zret rfl isB0 dX11_jam_35 ⟨_, _, rfl, rfl, h⟩
    · replace h := h.2 q
      refine EW_iload_n (pc2 := 23) rfl dX11_jam_22 3 rfl ?_
      refine EW_bipush (pc2 := 25) (v := 100) rfl dX11_jam_23 (by decide) ?_
      refine EW_sipush (pc2 := 28) (v := 400) rfl dX11_jam_25 (by decide) ?_
      refine AW_invS (M' := MX11_within) [.int v3, .int 100, .int 400] (rest := []) mlRX11_74 okX11_within (pc2 := 31) rfl dX11_jam_28 rfl rfl (Nat.le_of_ble_eq_true rfl) (Nat.le_of_ble_eq_true rfl) (d' := 0) (by omega) (EW_mono (fun _ _ hr => ?_) (sX11_within v3 100 400  x _ _ 0 0 (Nat.le_refl _) h))
      obtain ⟨r3, rfl, rfl, h⟩ := hr
      refine EW_if_ne (tgt := 36) (pc2 := 34) rfl dX11_jam_31 (by decide) (fun q => ?_) (fun q => ?_)
      · replace h := h.1 q
        refine EW_aload_n (pc2 := 37) rfl dX11_jam_36 0 rfl ?_
        refine AW_getr (r := 1) ⟨gfRX11_12, rfl⟩ (pc2 := 40) rfl dX11_jam_37 q0 rfl ?_
        refine AW_getr (r := 6) ⟨gfRX11_90, rfl⟩ (pc2 := 43) rfl dX11_jam_40 q1 rfl ?_
        refine EW_iload_n (pc2 := 44) rfl dX11_jam_43 1 rfl ?_
        refine EW_iconst (pc2 := 45) (v := 4) rfl dX11_jam_44 (by decide) ?_
        refine EW_imul (pc2 := 46) rfl dX11_jam_45 ?_
        refine EW_iload_n (pc2 := 47) rfl dX11_jam_46 2 rfl ?_
        refine EW_iadd (pc2 := 48) rfl dX11_jam_47 ?_
        refine EW_iload_n (pc2 := 49) rfl dX11_jam_48 3 rfl ?_
        obtain ⟨b4, h⟩ := h
        refine AW_iast (pc2 := 50) rfl dX11_jam_49 q6 b4 ?_
        refine EW_iconst (pc2 := 51) (v := 1) rfl dX11_jam_50 (by decide) ?_
        exact AW_zret rfl isB1 dX11_jam_51 ⟨_, _, rfl, rfl, h⟩
      · replace h := h.2 q
        refine EW_iconst (pc2 := 35) (v := 0) rfl dX11_jam_34 (by decide) ?_
        exact AW_zret rfl isB0 dX11_jam_35 ⟨_, _, rfl, rfl, h⟩
theorem cnRX11_470 : Cond.constant RX11 470 (-1000000) ∈ ab_G := ab_in 1696 (by decide +kernel) (by decide +kernel)
theorem cnRX11_526 : Cond.constantFloat RX11 526 1090519040 ∈ ab_G := ab_in 1728 (by decide +kernel) (by decide +kernel)
theorem cnRX11_524 : Cond.constantDouble RX11 524 4652007308841189376 ∈ ab_G := ab_in 1727 (by decide +kernel) (by decide +kernel)
abbrev MX11_valueAt : ab_M := (yX11_valueAt, cX11_valueAt, 4, (some .double))
theorem dX11_valueAt_0 : decode cX11_valueAt 0 = .ok (.aload_n 0, 1) := by decide +kernel
theorem dX11_valueAt_1 : decode cX11_valueAt 1 = .ok (.getfield 67, 3) := by decide +kernel
theorem dX11_valueAt_4 : decode cX11_valueAt 4 = .ok (.iload_n 1, 1) := by decide +kernel
theorem dX11_valueAt_5 : decode cX11_valueAt 5 = .ok (.bipush 20, 2) := by decide +kernel
theorem dX11_valueAt_7 : decode cX11_valueAt 7 = .ok (.imul, 1) := by decide +kernel
theorem dX11_valueAt_8 : decode cX11_valueAt 8 = .ok (.iload_n 2, 1) := by decide +kernel
theorem dX11_valueAt_9 : decode cX11_valueAt 9 = .ok (.iadd, 1) := by decide +kernel
theorem dX11_valueAt_10 : decode cX11_valueAt 10 = .ok (.iaload, 1) := by decide +kernel
theorem dX11_valueAt_11 : decode cX11_valueAt 11 = .ok (.istore_n 3, 1) := by decide +kernel
theorem dX11_valueAt_12 : decode cX11_valueAt 12 = .ok (.aload_n 0, 1) := by decide +kernel
theorem dX11_valueAt_13 : decode cX11_valueAt 13 = .ok (.getfield 59, 3) := by decide +kernel
theorem dX11_valueAt_16 : decode cX11_valueAt 16 = .ok (.iload_n 1, 1) := by decide +kernel
theorem dX11_valueAt_17 : decode cX11_valueAt 17 = .ok (.iaload, 1) := by decide +kernel
theorem dX11_valueAt_18 : decode cX11_valueAt 18 = .ok (.iconst 3, 1) := by decide +kernel
theorem dX11_valueAt_19 : decode cX11_valueAt 19 = .ok (.if_icmp .eq 6, 3) := by decide +kernel
theorem dX11_valueAt_22 : decode cX11_valueAt 22 = .ok (.iload_n 3, 1) := by decide +kernel
theorem dX11_valueAt_23 : decode cX11_valueAt 23 = .ok (.i2d, 1) := by decide +kernel
theorem dX11_valueAt_24 : decode cX11_valueAt 24 = .ok (.dreturn, 1) := by decide +kernel
theorem dX11_valueAt_25 : decode cX11_valueAt 25 = .ok (.iload_n 3, 1) := by decide +kernel
theorem dX11_valueAt_26 : decode cX11_valueAt 26 = .ok (.ldc_w 470, 3) := by decide +kernel
theorem dX11_valueAt_29 : decode cX11_valueAt 29 = .ok (.if_icmp .ne 9, 3) := by decide +kernel
theorem dX11_valueAt_32 : decode cX11_valueAt 32 = .ok (.ldc2_w 524, 3) := by decide +kernel
theorem dX11_valueAt_35 : decode cX11_valueAt 35 = .ok (.goto 10, 3) := by decide +kernel
theorem dX11_valueAt_38 : decode cX11_valueAt 38 = .ok (.iload_n 3, 1) := by decide +kernel
theorem dX11_valueAt_39 : decode cX11_valueAt 39 = .ok (.i2f, 1) := by decide +kernel
theorem dX11_valueAt_40 : decode cX11_valueAt 40 = .ok (.ldc_w 526, 3) := by decide +kernel
theorem dX11_valueAt_43 : decode cX11_valueAt 43 = .ok (.fdiv, 1) := by decide +kernel
theorem dX11_valueAt_44 : decode cX11_valueAt 44 = .ok (.f2d, 1) := by decide +kernel
theorem dX11_valueAt_45 : decode cX11_valueAt 45 = .ok (.dreturn, 1) := by decide +kernel
theorem okX11_valueAt : ab_okM MX11_valueAt 2 := ⟨by decide, ⟨by decide, by decide⟩, ab_in 1726 (by decide +kernel) (by decide +kernel), ab_in 86 (by decide +kernel) (by decide +kernel), by decide +kernel, by decide⟩
set_option maxHeartbeats 4000000 in
set_option maxRecDepth 100000 in
def wX11_valueAt (v1 : Int32) (v2 : Int32) (x : ab_X) (K : UInt64 → Prop) : Prop := (vp_in ((v1 * 20) + v2) 120 ∧ vp_in v1 6 ∧ (((x.1 243 (Int32.toNatClampNeg v1)) = 3 → ((¬ (x.1 245 (Int32.toNatClampNeg ((v1 * 20) + v2))) = (-1000000) → (∀ r3, alike32 r3 (FP.fdiv (FP.i2f (x.1 245 (Int32.toNatClampNeg ((v1 * 20) + v2)))) 1090519040) = true → (∀ r4, alike64 r4 (FP.f2d r3) = true → K r4))) ∧ ((x.1 245 (Int32.toNatClampNeg ((v1 * 20) + v2))) = (-1000000) → K 4652007308841189376))) ∧ (¬ (x.1 243 (Int32.toNatClampNeg v1)) = 3 → K (FP.i2d (x.1 245 (Int32.toNatClampNeg ((v1 * 20) + v2)))))))
set_option maxHeartbeats 4000000 in
set_option maxRecDepth 100000 in
theorem sX11_valueAt (v1 : Int32) (v2 : Int32)  (x : ab_X) (K : UInt64 → Prop) (d bc bs : Nat) (hdp : 0 ≤ d) (h : wX11_valueAt v1 v2 x K) : EW MX11_valueAt 0 [(0, .ref 0), (1, .int v1), (2, .int v2)] [] (aS x) d bc bs (liD x K) := by
  unfold wX11_valueAt at h
  refine EW_aload_n (pc2 := 1) rfl dX11_valueAt_0 0 rfl ?_
  refine AW_getr (r := 245) ⟨gfRX11_67, rfl⟩ (pc2 := 4) rfl dX11_valueAt_1 q0 rfl ?_
  refine EW_iload_n (pc2 := 5) rfl dX11_valueAt_4 1 rfl ?_
  refine EW_bipush (pc2 := 7) (v := 20) rfl dX11_valueAt_5 (by decide) ?_
  refine EW_imul (pc2 := 8) rfl dX11_valueAt_7 ?_
  refine EW_iload_n (pc2 := 9) rfl dX11_valueAt_8 2 rfl ?_
  refine EW_iadd (pc2 := 10) rfl dX11_valueAt_9 ?_
  obtain ⟨b1, h⟩ := h
  refine AW_iald (pc2 := 11) rfl dX11_valueAt_10 q245 b1 ?_
  refine EW_istore_n (pc2 := 12) rfl dX11_valueAt_11 (by decide) [1, 2, 3, 0] [(0, .ref 0), (1, .int v1), (2, .int v2), (3, .int (x.1 245 (Int32.toNatClampNeg ((v1 * 20) + v2))))] rfl ?_
  refine EW_aload_n (pc2 := 13) rfl dX11_valueAt_12 0 rfl ?_
  refine AW_getr (r := 243) ⟨gfRX11_59, rfl⟩ (pc2 := 16) rfl dX11_valueAt_13 q0 rfl ?_
  refine EW_iload_n (pc2 := 17) rfl dX11_valueAt_16 1 rfl ?_
  obtain ⟨b2, h⟩ := h
  refine AW_iald (pc2 := 18) rfl dX11_valueAt_17 q243 b2 ?_
  refine EW_iconst (pc2 := 19) (v := 3) rfl dX11_valueAt_18 (by decide) ?_
  refine EW_icmp_eq (tgt := 25) (pc2 := 22) rfl dX11_valueAt_19 (by decide) (fun q => ?_) (fun q => ?_)
  · replace h := h.1 q
    refine EW_iload_n (pc2 := 26) rfl dX11_valueAt_25 3 rfl ?_
    refine EW_ldcw cnRX11_470 (pc2 := 29) rfl dX11_valueAt_26 ?_
    refine EW_icmp_ne (tgt := 38) (pc2 := 32) rfl dX11_valueAt_29 (by decide) (fun q => ?_) (fun q => ?_)
    · replace h := h.1 q
      refine EW_iload_n (pc2 := 39) rfl dX11_valueAt_38 3 rfl ?_
      refine EW_i2f (pc2 := 40) rfl dX11_valueAt_39 ?_
      refine EW_ldcf cnRX11_526 (pc2 := 43) rfl dX11_valueAt_40 ?_
      refine EW_fdiv_any (pc2 := 44) rfl dX11_valueAt_43 (fun r3 qr3 => ?_)
      replace h := h r3 qr3
      refine EW_f2d_any (pc2 := 45) rfl dX11_valueAt_44 (fun r4 qr4 => ?_)
      replace h := h r4 qr4
      exact EW_dret rfl dX11_valueAt_45 ⟨_, rfl, rfl, h⟩
    · replace h := h.2 q
      refine EW_ldc2d cnRX11_524 (pc2 := 35) rfl dX11_valueAt_32 ?_
      refine EW_goto (tgt := 45) dX11_valueAt_35 (by decide) ?_
      exact EW_dret rfl dX11_valueAt_45 ⟨_, rfl, rfl, h⟩
  · replace h := h.2 q
    refine EW_iload_n (pc2 := 23) rfl dX11_valueAt_22 3 rfl ?_
    refine EW_i2d (pc2 := 24) rfl dX11_valueAt_23 ?_
    exact EW_dret rfl dX11_valueAt_24 ⟨_, rfl, rfl, h⟩
theorem gfRX7_36 : ab_L RX7 36 7 0 := ⟨by decide, by decide, ab_in 671 (by decide +kernel) (by decide +kernel)⟩
theorem mlRX7_88 : Cond.methodLink RX7 88 yX6_walk ∈ ab_G ∧ Cond.instanceMethod yX6_walk ∈ ab_G ∧ Cond.selects RX6 yX6_walk yX6_walk ∈ ab_G := ⟨ab_in 1601 (by decide +kernel) (by decide +kernel), ab_in 782 (by decide +kernel) (by decide +kernel), ab_in 783 (by decide +kernel) (by decide +kernel)⟩
theorem gfRX7_30 : ab_L RX7 30 7 14 := ⟨by decide, by decide, ab_in 689 (by decide +kernel) (by decide +kernel)⟩
abbrev MX7_findNear : ab_M := (yX7_findNear, cX7_findNear, 4, none)
theorem dX7_findNear_0 : decode cX7_findNear 0 = .ok (.iconst 0, 1) := by decide +kernel
theorem dX7_findNear_1 : decode cX7_findNear 1 = .ok (.istore_n 2, 1) := by decide +kernel
theorem dX7_findNear_2 : decode cX7_findNear 2 = .ok (.iload_n 2, 1) := by decide +kernel
theorem dX7_findNear_3 : decode cX7_findNear 3 = .ok (.bipush 20, 2) := by decide +kernel
theorem dX7_findNear_5 : decode cX7_findNear 5 = .ok (.if_icmp .ge 55, 3) := by decide +kernel
theorem dX7_findNear_8 : decode cX7_findNear 8 = .ok (.aload_n 0, 1) := by decide +kernel
theorem dX7_findNear_9 : decode cX7_findNear 9 = .ok (.getfield 30, 3) := by decide +kernel
theorem dX7_findNear_12 : decode cX7_findNear 12 = .ok (.iload_n 2, 1) := by decide +kernel
theorem dX7_findNear_13 : decode cX7_findNear 13 = .ok (.iconst 0, 1) := by decide +kernel
theorem dX7_findNear_14 : decode cX7_findNear 14 = .ok (.iastore, 1) := by decide +kernel
theorem dX7_findNear_15 : decode cX7_findNear 15 = .ok (.iconst 0, 1) := by decide +kernel
theorem dX7_findNear_16 : decode cX7_findNear 16 = .ok (.istore_n 3, 1) := by decide +kernel
theorem dX7_findNear_17 : decode cX7_findNear 17 = .ok (.iload_n 3, 1) := by decide +kernel
theorem dX7_findNear_18 : decode cX7_findNear 18 = .ok (.bipush 20, 2) := by decide +kernel
theorem dX7_findNear_20 : decode cX7_findNear 20 = .ok (.if_icmp .ge 34, 3) := by decide +kernel
theorem dX7_findNear_23 : decode cX7_findNear 23 = .ok (.aload_n 0, 1) := by decide +kernel
theorem dX7_findNear_24 : decode cX7_findNear 24 = .ok (.getfield 36, 3) := by decide +kernel
theorem dX7_findNear_27 : decode cX7_findNear 27 = .ok (.iload_n 3, 1) := by decide +kernel
theorem dX7_findNear_28 : decode cX7_findNear 28 = .ok (.iload_n 2, 1) := by decide +kernel
theorem dX7_findNear_29 : decode cX7_findNear 29 = .ok (.invokevirtual 88, 3) := by decide +kernel
theorem dX7_findNear_32 : decode cX7_findNear 32 = .ok (.iload_n 1, 1) := by decide +kernel
theorem dX7_findNear_33 : decode cX7_findNear 33 = .ok (.if_icmp .gt 15, 3) := by decide +kernel
theorem dX7_findNear_36 : decode cX7_findNear 36 = .ok (.aload_n 0, 1) := by decide +kernel
theorem dX7_findNear_37 : decode cX7_findNear 37 = .ok (.getfield 30, 3) := by decide +kernel
theorem dX7_findNear_40 : decode cX7_findNear 40 = .ok (.iload_n 2, 1) := by decide +kernel
theorem dX7_findNear_41 : decode cX7_findNear 41 = .ok (.dup2, 1) := by decide +kernel
theorem dX7_findNear_42 : decode cX7_findNear 42 = .ok (.iaload, 1) := by decide +kernel
theorem dX7_findNear_43 : decode cX7_findNear 43 = .ok (.iconst 1, 1) := by decide +kernel
theorem dX7_findNear_44 : decode cX7_findNear 44 = .ok (.iload_n 3, 1) := by decide +kernel
theorem dX7_findNear_45 : decode cX7_findNear 45 = .ok (.ishl, 1) := by decide +kernel
theorem dX7_findNear_46 : decode cX7_findNear 46 = .ok (.ior, 1) := by decide +kernel
theorem dX7_findNear_47 : decode cX7_findNear 47 = .ok (.iastore, 1) := by decide +kernel
theorem dX7_findNear_48 : decode cX7_findNear 48 = .ok (.iinc 3 1, 3) := by decide +kernel
theorem dX7_findNear_51 : decode cX7_findNear 51 = .ok (.goto (-34), 3) := by decide +kernel
theorem dX7_findNear_54 : decode cX7_findNear 54 = .ok (.iinc 2 1, 3) := by decide +kernel
theorem dX7_findNear_57 : decode cX7_findNear 57 = .ok (.goto (-55), 3) := by decide +kernel
theorem dX7_findNear_60 : decode cX7_findNear 60 = .ok (.return_, 1) := by decide +kernel
theorem okX7_findNear : ab_okM MX7_findNear 1 := ⟨by decide, ⟨by decide, by decide⟩, ab_in 1657 (by decide +kernel) (by decide +kernel), ab_in 98 (by decide +kernel) (by decide +kernel), by decide +kernel, by decide⟩
set_option maxHeartbeats 4000000 in
set_option maxRecDepth 100000 in
def lX7_findNear_17 (v1 : Int32) (v2 : Int32) (K : ab_X → Prop) (L2 : Int32 → ab_X → Prop) (L17 : Int32 → ab_X → Prop) (v3 : Int32) (x : ab_X) : Prop := ((20 ≤ v3 → L2 (v2 + 1) x) ∧ (¬ 20 ≤ v3 → wX6_walk v3 v2 x (fun r2 => ((v1 < r2 → L17 (v3 + 1) x) ∧ (¬ v1 < r2 → (vp_in v2 20 ∧ vp_in v2 20 ∧ L17 (v3 + 1) (wr x 241 (Int32.toNatClampNeg v2) ((x.1 241 (Int32.toNatClampNeg v2)) ||| (1 <<< (v3 &&& 31))))))))))
set_option maxHeartbeats 4000000 in
set_option maxRecDepth 100000 in
theorem sX7_findNear_17 (v1 : Int32) (v2 : Int32) (v3 : Int32)  (x : ab_X) (K : ab_X → Prop) (L2 : Int32 → ab_X → Prop) (d bc bs : Nat) (hdp : 2 ≤ d) (hL2 : ∀ (v2 : Int32) (x : ab_X), L2 v2 x → EW MX7_findNear 2 [(0, .ref 234), (1, .int v1), (2, .int v2)] [] (aS x) d bc bs (liV K)) (h : Lp2 (lX7_findNear_17 v1 v2 K L2) v3 x) : EW MX7_findNear 17 [(0, .ref 234), (1, .int v1), (2, .int v2), (3, .int v3)] [] (aS x) d bc bs (liV K) := by
  refine Lp2.use (P := fun v3 x => EW MX7_findNear 17 [(0, .ref 234), (1, .int v1), (2, .int v2), (3, .int v3)] [] (aS x) d bc bs (liV K)) (fun L17 v3 x hL17 h => ?_) v3 x h
  unfold lX7_findNear_17 at h
  refine EW_iload_n (pc2 := 18) rfl dX7_findNear_17 3 rfl ?_
  refine EW_bipush (pc2 := 20) (v := 20) rfl dX7_findNear_18 (by decide) ?_
  refine EW_icmp_ge (tgt := 54) (pc2 := 23) rfl dX7_findNear_20 (by decide) (fun q => ?_) (fun q => ?_)
  · replace h := h.1 q
    refine EW_iinc (v2 + 1) (pc2 := 57) rfl dX7_findNear_54 2 rfl rfl (by decide) [1, 2, 0, 3] [(0, .ref 234), (1, .int v1), (2, .int (v2 + 1)), (3, .int v3)] rfl ?_
    refine EW_goto (tgt := 2) dX7_findNear_57 (by decide) ?_
    refine EW_ls [0, 1, 2] rfl ?_
    exact hL2 (v2 + 1) x h
  · replace h := h.2 q
    refine EW_aload_n (pc2 := 24) rfl dX7_findNear_23 0 rfl ?_
    refine AW_getr (r := 1) ⟨gfRX7_36, rfl⟩ (pc2 := 27) rfl dX7_findNear_24 q234 rfl ?_
    refine EW_iload_n (pc2 := 28) rfl dX7_findNear_27 3 rfl ?_
    refine EW_iload_n (pc2 := 29) rfl dX7_findNear_28 2 rfl ?_
    refine AW_invV (M' := MX6_walk) [.int v3, .int v2] (rest := []) mlRX7_88 okX6_walk (pc2 := 32) rfl dX7_findNear_29 rfl rfl (Nat.le_of_ble_eq_true rfl) (Nat.le_of_ble_eq_true rfl) (d' := 1) (by omega) q1 ⟨by decide, rfl⟩ (EW_mono (fun _ _ hr => ?_) (sX6_walk v3 v2  x _ _ 0 0 (Nat.le_refl _) h))
    obtain ⟨r2, rfl, rfl, h⟩ := hr
    refine EW_iload_n (pc2 := 33) rfl dX7_findNear_32 1 rfl ?_
    refine EW_icmp_gt (tgt := 48) (pc2 := 36) rfl dX7_findNear_33 (by decide) (fun q => ?_) (fun q => ?_)
    · replace h := h.1 q
      refine EW_iinc (v3 + 1) (pc2 := 51) rfl dX7_findNear_48 3 rfl rfl (by decide) [1, 2, 3, 0] [(0, .ref 234), (1, .int v1), (2, .int v2), (3, .int (v3 + 1))] rfl ?_
      refine EW_goto (tgt := 17) dX7_findNear_51 (by decide) ?_
      exact hL17 (v3 + 1) x h
    · replace h := h.2 q
      refine EW_aload_n (pc2 := 37) rfl dX7_findNear_36 0 rfl ?_
      refine AW_getr (r := 241) ⟨gfRX7_30, rfl⟩ (pc2 := 40) rfl dX7_findNear_37 q234 rfl ?_
      refine EW_iload_n (pc2 := 41) rfl dX7_findNear_40 2 rfl ?_
      refine EW_dup2 (pc2 := 42) rfl dX7_findNear_41 rfl rfl ?_
      obtain ⟨b3, h⟩ := h
      refine AW_iald (pc2 := 43) rfl dX7_findNear_42 q241 b3 ?_
      refine EW_iconst (pc2 := 44) (v := 1) rfl dX7_findNear_43 (by decide) ?_
      refine EW_iload_n (pc2 := 45) rfl dX7_findNear_44 3 rfl ?_
      refine EW_ishl (pc2 := 46) rfl dX7_findNear_45 ?_
      refine EW_ior (pc2 := 47) rfl dX7_findNear_46 ?_
      obtain ⟨b4, h⟩ := h
      refine AW_iast (pc2 := 48) rfl dX7_findNear_47 q241 b4 ?_
      refine EW_iinc (v3 + 1) (pc2 := 51) rfl dX7_findNear_48 3 rfl rfl (by decide) [1, 2, 3, 0] [(0, .ref 234), (1, .int v1), (2, .int v2), (3, .int (v3 + 1))] rfl ?_
      refine EW_goto (tgt := 17) dX7_findNear_51 (by decide) ?_
      exact hL17 (v3 + 1) (wr x 241 (Int32.toNatClampNeg v2) ((x.1 241 (Int32.toNatClampNeg v2)) ||| (1 <<< (v3 &&& 31)))) h
set_option maxHeartbeats 4000000 in
set_option maxRecDepth 100000 in
def lX7_findNear_2 (v1 : Int32) (K : ab_X → Prop)  (L2 : Int32 → ab_X → Prop) (v2 : Int32) (x : ab_X) : Prop := ((20 ≤ v2 → K x) ∧ (¬ 20 ≤ v2 → (vp_in v2 20 ∧ Lp2 (lX7_findNear_17 v1 v2 K L2) 0 (wr x 241 (Int32.toNatClampNeg v2) 0))))
set_option maxHeartbeats 4000000 in
set_option maxRecDepth 100000 in
theorem sX7_findNear_2 (v1 : Int32) (v2 : Int32)  (x : ab_X) (K : ab_X → Prop)  (d bc bs : Nat) (hdp : 2 ≤ d)  (h : Lp2 (lX7_findNear_2 v1 K ) v2 x) : EW MX7_findNear 2 [(0, .ref 234), (1, .int v1), (2, .int v2)] [] (aS x) d bc bs (liV K) := by
  refine Lp2.use (P := fun v2 x => EW MX7_findNear 2 [(0, .ref 234), (1, .int v1), (2, .int v2)] [] (aS x) d bc bs (liV K)) (fun L2 v2 x hL2 h => ?_) v2 x h
  unfold lX7_findNear_2 at h
  refine EW_iload_n (pc2 := 3) rfl dX7_findNear_2 2 rfl ?_
  refine EW_bipush (pc2 := 5) (v := 20) rfl dX7_findNear_3 (by decide) ?_
  refine EW_icmp_ge (tgt := 60) (pc2 := 8) rfl dX7_findNear_5 (by decide) (fun q => ?_) (fun q => ?_)
  · replace h := h.1 q
    exact EW_vret rfl dX7_findNear_60 ⟨_, rfl, rfl, h⟩
  · replace h := h.2 q
    refine EW_aload_n (pc2 := 9) rfl dX7_findNear_8 0 rfl ?_
    refine AW_getr (r := 241) ⟨gfRX7_30, rfl⟩ (pc2 := 12) rfl dX7_findNear_9 q234 rfl ?_
    refine EW_iload_n (pc2 := 13) rfl dX7_findNear_12 2 rfl ?_
    refine EW_iconst (pc2 := 14) (v := 0) rfl dX7_findNear_13 (by decide) ?_
    obtain ⟨b1, h⟩ := h
    refine AW_iast (pc2 := 15) rfl dX7_findNear_14 q241 b1 ?_
    refine EW_iconst (pc2 := 16) (v := 0) rfl dX7_findNear_15 (by decide) ?_
    refine EW_istore_n (pc2 := 17) rfl dX7_findNear_16 (by decide) [1, 2, 3, 0] [(0, .ref 234), (1, .int v1), (2, .int v2), (3, .int 0)] rfl ?_
    exact sX7_findNear_17 v1 v2 0 (wr x 241 (Int32.toNatClampNeg v2) 0) K L2 d bc bs hdp hL2 h
set_option maxHeartbeats 4000000 in
set_option maxRecDepth 100000 in
def wX7_findNear (v1 : Int32) (x : ab_X) (K : ab_X → Prop) : Prop := Lp2 (lX7_findNear_2 v1 K ) 0 x
set_option maxHeartbeats 4000000 in
set_option maxRecDepth 100000 in
theorem sX7_findNear (v1 : Int32)  (x : ab_X) (K : ab_X → Prop) (d bc bs : Nat) (hdp : 2 ≤ d) (h : wX7_findNear v1 x K) : EW MX7_findNear 0 [(0, .ref 234), (1, .int v1)] [] (aS x) d bc bs (liV K) := by
  unfold wX7_findNear at h
  refine EW_iconst (pc2 := 1) (v := 0) rfl dX7_findNear_0 (by decide) ?_
  refine EW_istore_n (pc2 := 2) rfl dX7_findNear_1 (by decide) [1, 2, 0] [(0, .ref 234), (1, .int v1), (2, .int 0)] rfl ?_
  exact sX7_findNear_2 v1 0 x K d bc bs hdp h
theorem mlRX7_132 : Cond.methodLink RX7 132 yJ6_bitCount_0f7a4 ∈ ab_G ∧ Cond.static yJ6_bitCount_0f7a4 ∈ ab_G := ⟨ab_in 1671 (by decide +kernel) (by decide +kernel), ab_in 1672 (by decide +kernel) (by decide +kernel)⟩
abbrev MX7_pointsAt : ab_M := (yX7_pointsAt, cX7_pointsAt, 4, (some .int))
theorem dX7_pointsAt_0 : decode cX7_pointsAt 0 = .ok (.aload_n 0, 1) := by decide +kernel
theorem dX7_pointsAt_1 : decode cX7_pointsAt 1 = .ok (.getfield 30, 3) := by decide +kernel
theorem dX7_pointsAt_4 : decode cX7_pointsAt 4 = .ok (.iload_n 1, 1) := by decide +kernel
theorem dX7_pointsAt_5 : decode cX7_pointsAt 5 = .ok (.iaload, 1) := by decide +kernel
theorem dX7_pointsAt_6 : decode cX7_pointsAt 6 = .ok (.iload_n 2, 1) := by decide +kernel
theorem dX7_pointsAt_7 : decode cX7_pointsAt 7 = .ok (.iand, 1) := by decide +kernel
theorem dX7_pointsAt_8 : decode cX7_pointsAt 8 = .ok (.invokestatic 132, 3) := by decide +kernel
theorem dX7_pointsAt_11 : decode cX7_pointsAt 11 = .ok (.istore_n 3, 1) := by decide +kernel
theorem dX7_pointsAt_12 : decode cX7_pointsAt 12 = .ok (.iload_n 3, 1) := by decide +kernel
theorem dX7_pointsAt_13 : decode cX7_pointsAt 13 = .ok (.ifCond .ne 7, 3) := by decide +kernel
theorem dX7_pointsAt_16 : decode cX7_pointsAt 16 = .ok (.iconst 0, 1) := by decide +kernel
theorem dX7_pointsAt_17 : decode cX7_pointsAt 17 = .ok (.goto 13, 3) := by decide +kernel
theorem dX7_pointsAt_20 : decode cX7_pointsAt 20 = .ok (.iload_n 3, 1) := by decide +kernel
theorem dX7_pointsAt_21 : decode cX7_pointsAt 21 = .ok (.iconst 1, 1) := by decide +kernel
theorem dX7_pointsAt_22 : decode cX7_pointsAt 22 = .ok (.if_icmp .ne 7, 3) := by decide +kernel
theorem dX7_pointsAt_25 : decode cX7_pointsAt 25 = .ok (.iconst 2, 1) := by decide +kernel
theorem dX7_pointsAt_26 : decode cX7_pointsAt 26 = .ok (.goto 4, 3) := by decide +kernel
theorem dX7_pointsAt_29 : decode cX7_pointsAt 29 = .ok (.iconst 3, 1) := by decide +kernel
theorem dX7_pointsAt_30 : decode cX7_pointsAt 30 = .ok (.ireturn, 1) := by decide +kernel
theorem okX7_pointsAt : ab_okM MX7_pointsAt 2 := ⟨by decide, ⟨by decide, by decide⟩, ab_in 1670 (by decide +kernel) (by decide +kernel), ab_in 98 (by decide +kernel) (by decide +kernel), by decide +kernel, by decide⟩
set_option maxHeartbeats 4000000 in
set_option maxRecDepth 100000 in
def wX7_pointsAt (v1 : Int32) (v2 : Int32) (x : ab_X) (K : Int32 → Prop) : Prop := (vp_in v1 20 ∧ wJ6_bitCount_0f7a4 ((x.1 241 (Int32.toNatClampNeg v1)) &&& v2) x (fun r2 => ((¬ r2 = 0 → ((¬ r2 = 1 → K 3) ∧ (r2 = 1 → K 2))) ∧ (r2 = 0 → K 0))))
set_option maxHeartbeats 4000000 in
set_option maxRecDepth 100000 in
theorem sX7_pointsAt (v1 : Int32) (v2 : Int32)  (x : ab_X) (K : Int32 → Prop) (d bc bs : Nat) (hdp : 1 ≤ d) (h : wX7_pointsAt v1 v2 x K) : EW MX7_pointsAt 0 [(0, .ref 234), (1, .int v1), (2, .int v2)] [] (aS x) d bc bs (liP x K) := by
  unfold wX7_pointsAt at h
  refine EW_aload_n (pc2 := 1) rfl dX7_pointsAt_0 0 rfl ?_
  refine AW_getr (r := 241) ⟨gfRX7_30, rfl⟩ (pc2 := 4) rfl dX7_pointsAt_1 q234 rfl ?_
  refine EW_iload_n (pc2 := 5) rfl dX7_pointsAt_4 1 rfl ?_
  obtain ⟨b1, h⟩ := h
  refine AW_iald (pc2 := 6) rfl dX7_pointsAt_5 q241 b1 ?_
  refine EW_iload_n (pc2 := 7) rfl dX7_pointsAt_6 2 rfl ?_
  refine EW_iand (pc2 := 8) rfl dX7_pointsAt_7 ?_
  refine AW_invS (M' := MJ6_bitCount_0f7a4) [.int ((x.1 241 (Int32.toNatClampNeg v1)) &&& v2)] (rest := []) mlRX7_132 okJ6_bitCount_0f7a4 (pc2 := 11) rfl dX7_pointsAt_8 rfl rfl (Nat.le_of_ble_eq_true rfl) (Nat.le_of_ble_eq_true rfl) (d' := 0) (by omega) (EW_mono (fun _ _ hr => ?_) (sJ6_bitCount_0f7a4 ((x.1 241 (Int32.toNatClampNeg v1)) &&& v2)  x _ _ 0 0 (Nat.le_refl _) h))
  obtain ⟨r2, rfl, rfl, h⟩ := hr
  refine EW_istore_n (pc2 := 12) rfl dX7_pointsAt_11 (by decide) [1, 2, 3, 0] [(0, .ref 234), (1, .int v1), (2, .int v2), (3, .int r2)] rfl ?_
  refine EW_iload_n (pc2 := 13) rfl dX7_pointsAt_12 3 rfl ?_
  refine EW_if_ne (tgt := 20) (pc2 := 16) rfl dX7_pointsAt_13 (by decide) (fun q => ?_) (fun q => ?_)
  · replace h := h.1 q
    refine EW_iload_n (pc2 := 21) rfl dX7_pointsAt_20 3 rfl ?_
    refine EW_iconst (pc2 := 22) (v := 1) rfl dX7_pointsAt_21 (by decide) ?_
    refine EW_icmp_ne (tgt := 29) (pc2 := 25) rfl dX7_pointsAt_22 (by decide) (fun q => ?_) (fun q => ?_)
    · replace h := h.1 q
      refine EW_iconst (pc2 := 30) (v := 3) rfl dX7_pointsAt_29 (by decide) ?_
      exact AW_iret rfl dX7_pointsAt_30 ⟨_, rfl, rfl, h⟩
    · replace h := h.2 q
      refine EW_iconst (pc2 := 26) (v := 2) rfl dX7_pointsAt_25 (by decide) ?_
      refine EW_goto (tgt := 30) dX7_pointsAt_26 (by decide) ?_
      exact AW_iret rfl dX7_pointsAt_30 ⟨_, rfl, rfl, h⟩
  · replace h := h.2 q
    refine EW_iconst (pc2 := 17) (v := 0) rfl dX7_pointsAt_16 (by decide) ?_
    refine EW_goto (tgt := 30) dX7_pointsAt_17 (by decide) ?_
    exact AW_iret rfl dX7_pointsAt_30 ⟨_, rfl, rfl, h⟩
theorem mlRX11_517 : Cond.methodLink RX11 517 yX11_valueAt ∈ ab_G ∧ Cond.instanceMethod yX11_valueAt ∈ ab_G ∧ Cond.selects RX11 yX11_valueAt yX11_valueAt ∈ ab_G := ⟨ab_in 1723 (by decide +kernel) (by decide +kernel), ab_in 1725 (by decide +kernel) (by decide +kernel), ab_in 12 (by decide +kernel) (by decide +kernel)⟩
theorem gfRX11_55 : ab_L RX11 55 11 5 := ⟨by decide, by decide, ab_in 737 (by decide +kernel) (by decide +kernel)⟩
theorem mlRX11_521 : Cond.methodLink RX11 521 yX7_pointsAt ∈ ab_G ∧ Cond.instanceMethod yX7_pointsAt ∈ ab_G ∧ Cond.selects RX7 yX7_pointsAt yX7_pointsAt ∈ ab_G := ⟨ab_in 1729 (by decide +kernel) (by decide +kernel), ab_in 1668 (by decide +kernel) (by decide +kernel), ab_in 1669 (by decide +kernel) (by decide +kernel)⟩
theorem mlRX11_514 : Cond.methodLink RX11 514 yX7_findNear ∈ ab_G ∧ Cond.instanceMethod yX7_findNear ∈ ab_G ∧ Cond.selects RX7 yX7_findNear yX7_findNear ∈ ab_G := ⟨ab_in 1722 (by decide +kernel) (by decide +kernel), ab_in 1655 (by decide +kernel) (by decide +kernel), ab_in 1656 (by decide +kernel) (by decide +kernel)⟩
abbrev MX11_judgement : ab_M := (yX11_judgement, cX11_judgement, 7, (some .double))
theorem dX11_judgement_0 : decode cX11_judgement 0 = .ok (.aload_n 0, 1) := by decide +kernel
theorem dX11_judgement_1 : decode cX11_judgement 1 = .ok (.getfield 55, 3) := by decide +kernel
theorem dX11_judgement_4 : decode cX11_judgement 4 = .ok (.iload_n 3, 1) := by decide +kernel
theorem dX11_judgement_5 : decode cX11_judgement 5 = .ok (.invokevirtual 514, 3) := by decide +kernel
theorem dX11_judgement_8 : decode cX11_judgement 8 = .ok (.dconst 0, 1) := by decide +kernel
theorem dX11_judgement_9 : decode cX11_judgement 9 = .ok (.dstore 4, 2) := by decide +kernel
theorem dX11_judgement_11 : decode cX11_judgement 11 = .ok (.iconst 0, 1) := by decide +kernel
theorem dX11_judgement_12 : decode cX11_judgement 12 = .ok (.istore 6, 2) := by decide +kernel
theorem dX11_judgement_14 : decode cX11_judgement 14 = .ok (.iload 6, 2) := by decide +kernel
theorem dX11_judgement_16 : decode cX11_judgement 16 = .ok (.bipush 20, 2) := by decide +kernel
theorem dX11_judgement_18 : decode cX11_judgement 18 = .ok (.if_icmp .ge 33, 3) := by decide +kernel
theorem dX11_judgement_21 : decode cX11_judgement 21 = .ok (.dload 4, 2) := by decide +kernel
theorem dX11_judgement_23 : decode cX11_judgement 23 = .ok (.aload_n 0, 1) := by decide +kernel
theorem dX11_judgement_24 : decode cX11_judgement 24 = .ok (.iload_n 1, 1) := by decide +kernel
theorem dX11_judgement_25 : decode cX11_judgement 25 = .ok (.iload 6, 2) := by decide +kernel
theorem dX11_judgement_27 : decode cX11_judgement 27 = .ok (.invokevirtual 517, 3) := by decide +kernel
theorem dX11_judgement_30 : decode cX11_judgement 30 = .ok (.aload_n 0, 1) := by decide +kernel
theorem dX11_judgement_31 : decode cX11_judgement 31 = .ok (.getfield 55, 3) := by decide +kernel
theorem dX11_judgement_34 : decode cX11_judgement 34 = .ok (.iload 6, 2) := by decide +kernel
theorem dX11_judgement_36 : decode cX11_judgement 36 = .ok (.iload_n 2, 1) := by decide +kernel
theorem dX11_judgement_37 : decode cX11_judgement 37 = .ok (.invokevirtual 521, 3) := by decide +kernel
theorem dX11_judgement_40 : decode cX11_judgement 40 = .ok (.i2d, 1) := by decide +kernel
theorem dX11_judgement_41 : decode cX11_judgement 41 = .ok (.dmul, 1) := by decide +kernel
theorem dX11_judgement_42 : decode cX11_judgement 42 = .ok (.dadd, 1) := by decide +kernel
theorem dX11_judgement_43 : decode cX11_judgement 43 = .ok (.dstore 4, 2) := by decide +kernel
theorem dX11_judgement_45 : decode cX11_judgement 45 = .ok (.iinc 6 1, 3) := by decide +kernel
theorem dX11_judgement_48 : decode cX11_judgement 48 = .ok (.goto (-34), 3) := by decide +kernel
theorem dX11_judgement_51 : decode cX11_judgement 51 = .ok (.dload 4, 2) := by decide +kernel
theorem dX11_judgement_53 : decode cX11_judgement 53 = .ok (.dreturn, 1) := by decide +kernel
theorem okX11_judgement : ab_okM MX11_judgement 3 := ⟨by decide, ⟨by decide, by decide⟩, ab_in 1721 (by decide +kernel) (by decide +kernel), ab_in 86 (by decide +kernel) (by decide +kernel), by decide +kernel, by decide⟩
set_option maxHeartbeats 4000000 in
set_option maxRecDepth 100000 in
def lX11_judgement_14 (v1 : Int32) (v2 : Int32) (x : ab_X) (K : UInt64 → ab_X → Prop)  (L14 : UInt64 → Int32 → Prop) (v4 : UInt64) (v6 : Int32) : Prop := ((20 ≤ v6 → K v4 x) ∧ (¬ 20 ≤ v6 → wX11_valueAt v1 v6 x (fun r2 => wX7_pointsAt v6 v2 x (fun r3 => (∀ r4, alike64 r4 (FP.dmul r2 (FP.i2d r3)) = true → (∀ r5, alike64 r5 (FP.dadd v4 r4) = true → L14 r5 (v6 + 1)))))))
set_option maxHeartbeats 4000000 in
set_option maxRecDepth 100000 in
theorem sX11_judgement_14 (v1 : Int32) (v2 : Int32) (v4 : UInt64) (v6 : Int32)  (x : ab_X) (K : UInt64 → ab_X → Prop)  (d bc bs : Nat) (hdp : 3 ≤ d)  (h : Lp2 (lX11_judgement_14 v1 v2 x K ) v4 v6) : EW MX11_judgement 14 [(0, .ref 0), (1, .int v1), (2, .int v2), (4, .double v4), (6, .int v6)] [] (aS x) d bc bs (liDI K) := by
  refine Lp2.use (P := fun v4 v6 => EW MX11_judgement 14 [(0, .ref 0), (1, .int v1), (2, .int v2), (4, .double v4), (6, .int v6)] [] (aS x) d bc bs (liDI K)) (fun L14 v4 v6 hL14 h => ?_) v4 v6 h
  unfold lX11_judgement_14 at h
  refine EW_iload (pc2 := 16) rfl dX11_judgement_14 4 rfl ?_
  refine EW_bipush (pc2 := 18) (v := 20) rfl dX11_judgement_16 (by decide) ?_
  refine EW_icmp_ge (tgt := 51) (pc2 := 21) rfl dX11_judgement_18 (by decide) (fun q => ?_) (fun q => ?_)
  · replace h := h.1 q
    refine EW_dload (pc2 := 53) rfl dX11_judgement_51 3 rfl ?_
    exact EW_dret rfl dX11_judgement_53 ⟨_, _, rfl, rfl, h⟩
  · replace h := h.2 q
    refine EW_dload (pc2 := 23) rfl dX11_judgement_21 3 rfl ?_
    refine EW_aload_n (pc2 := 24) rfl dX11_judgement_23 0 rfl ?_
    refine EW_iload_n (pc2 := 25) rfl dX11_judgement_24 1 rfl ?_
    refine EW_iload (pc2 := 27) rfl dX11_judgement_25 4 rfl ?_
    refine AW_invV (M' := MX11_valueAt) [.int v1, .int v6] (rest := [.double v4]) mlRX11_517 okX11_valueAt (pc2 := 30) rfl dX11_judgement_27 rfl rfl (Nat.le_of_ble_eq_true rfl) (Nat.le_of_ble_eq_true rfl) (d' := 0) (by omega) q0 ⟨by decide, rfl⟩ (EW_mono (fun _ _ hr => ?_) (sX11_valueAt v1 v6  x _ _ 0 0 (Nat.le_refl _) h))
    obtain ⟨r2, rfl, rfl, h⟩ := hr
    refine EW_aload_n (pc2 := 31) rfl dX11_judgement_30 0 rfl ?_
    refine AW_getr (r := 234) ⟨gfRX11_55, rfl⟩ (pc2 := 34) rfl dX11_judgement_31 q0 rfl ?_
    refine EW_iload (pc2 := 36) rfl dX11_judgement_34 4 rfl ?_
    refine EW_iload_n (pc2 := 37) rfl dX11_judgement_36 2 rfl ?_
    refine AW_invV (M' := MX7_pointsAt) [.int v6, .int v2] (rest := [.double r2, .double v4]) mlRX11_521 okX7_pointsAt (pc2 := 40) rfl dX11_judgement_37 rfl rfl (Nat.le_of_ble_eq_true rfl) (Nat.le_of_ble_eq_true rfl) (d' := 1) (by omega) q234 ⟨by decide, rfl⟩ (EW_mono (fun _ _ hr => ?_) (sX7_pointsAt v6 v2  x _ _ 0 0 (Nat.le_refl _) h))
    obtain ⟨r3, rfl, rfl, h⟩ := hr
    refine EW_i2d (pc2 := 41) rfl dX11_judgement_40 ?_
    refine EW_dmul_any (pc2 := 42) rfl dX11_judgement_41 (fun r4 qr4 => ?_)
    replace h := h r4 qr4
    refine EW_dadd_any (pc2 := 43) rfl dX11_judgement_42 (fun r5 qr5 => ?_)
    replace h := h r5 qr5
    refine EW_dstore (pc2 := 45) rfl dX11_judgement_43 (by decide) [1, 2, 3, 0, 4] [(0, .ref 0), (1, .int v1), (2, .int v2), (4, .double r5), (6, .int v6)] rfl ?_
    refine EW_iinc (v6 + 1) (pc2 := 48) rfl dX11_judgement_45 4 rfl rfl (by decide) [1, 2, 3, 4, 0] [(0, .ref 0), (1, .int v1), (2, .int v2), (4, .double r5), (6, .int (v6 + 1))] rfl ?_
    refine EW_goto (tgt := 14) dX11_judgement_48 (by decide) ?_
    exact hL14 r5 (v6 + 1) h
set_option maxHeartbeats 4000000 in
set_option maxRecDepth 100000 in
def wX11_judgement (v1 : Int32) (v2 : Int32) (v3 : Int32) (x : ab_X) (K : UInt64 → ab_X → Prop) : Prop := wX7_findNear v3 x (fun x1 => Lp2 (lX11_judgement_14 v1 v2 x1 K ) 0 0)
set_option maxHeartbeats 4000000 in
set_option maxRecDepth 100000 in
theorem sX11_judgement (v1 : Int32) (v2 : Int32) (v3 : Int32)  (x : ab_X) (K : UInt64 → ab_X → Prop) (d bc bs : Nat) (hdp : 3 ≤ d) (h : wX11_judgement v1 v2 v3 x K) : EW MX11_judgement 0 [(0, .ref 0), (1, .int v1), (2, .int v2), (3, .int v3)] [] (aS x) d bc bs (liDI K) := by
  unfold wX11_judgement at h
  refine EW_aload_n (pc2 := 1) rfl dX11_judgement_0 0 rfl ?_
  refine AW_getr (r := 234) ⟨gfRX11_55, rfl⟩ (pc2 := 4) rfl dX11_judgement_1 q0 rfl ?_
  refine EW_iload_n (pc2 := 5) rfl dX11_judgement_4 3 rfl ?_
  refine AW_invV (M' := MX7_findNear) [.int v3] (rest := []) mlRX11_514 okX7_findNear (pc2 := 8) rfl dX11_judgement_5 rfl rfl (Nat.le_of_ble_eq_true rfl) (Nat.le_of_ble_eq_true rfl) (d' := 2) (by omega) q234 ⟨by decide, rfl⟩ (EW_mono (fun _ _ hr => ?_) (sX7_findNear v3  x _ _ 0 0 (Nat.le_refl _) h))
  obtain ⟨x1, rfl, rfl, h⟩ := hr
  refine EW_dconst0 (pc2 := 9) rfl dX11_judgement_8 ?_
  refine EW_dstore (pc2 := 11) rfl dX11_judgement_9 (by decide) [1, 2, 3, 4, 0] [(0, .ref 0), (1, .int v1), (2, .int v2), (3, .int v3), (4, .double 0)] rfl ?_
  refine EW_iconst (pc2 := 12) (v := 0) rfl dX11_judgement_11 (by decide) ?_
  refine EW_istore (pc2 := 14) rfl dX11_judgement_12 (by decide) [1, 2, 3, 4, 5, 0] [(0, .ref 0), (1, .int v1), (2, .int v2), (3, .int v3), (4, .double 0), (6, .int 0)] rfl ?_
  refine EW_ls [0, 1, 2, 4, 5] rfl ?_
  exact sX11_judgement_14 v1 v2 0 0 x1 K d bc bs hdp h
theorem mlRX11_480 : Cond.methodLink RX11 480 yX11_canJudge ∈ ab_G ∧ Cond.instanceMethod yX11_canJudge ∈ ab_G ∧ Cond.selects RX11 yX11_canJudge yX11_canJudge ∈ ab_G := ⟨ab_in 1713 (by decide +kernel) (by decide +kernel), ab_in 1715 (by decide +kernel) (by decide +kernel), ab_in 10 (by decide +kernel) (by decide +kernel)⟩
theorem cnRX11_489 : Cond.constantDouble RX11 489 9221120237041090560 ∈ ab_G := ab_in 1730 (by decide +kernel) (by decide +kernel)
theorem mlRX11_483 : Cond.methodLink RX11 483 yX11_judgement ∈ ab_G ∧ Cond.instanceMethod yX11_judgement ∈ ab_G ∧ Cond.selects RX11 yX11_judgement yX11_judgement ∈ ab_G := ⟨ab_in 1718 (by decide +kernel) (by decide +kernel), ab_in 1720 (by decide +kernel) (by decide +kernel), ab_in 11 (by decide +kernel) (by decide +kernel)⟩
abbrev MX11_judge : ab_M := (yX11_judge, cX11_judge, 4, (some .double))
theorem dX11_judge_0 : decode cX11_judge 0 = .ok (.aload_n 0, 1) := by decide +kernel
theorem dX11_judge_1 : decode cX11_judge 1 = .ok (.iload_n 1, 1) := by decide +kernel
theorem dX11_judge_2 : decode cX11_judge 2 = .ok (.iload_n 2, 1) := by decide +kernel
theorem dX11_judge_3 : decode cX11_judge 3 = .ok (.iload_n 3, 1) := by decide +kernel
theorem dX11_judge_4 : decode cX11_judge 4 = .ok (.invokevirtual 480, 3) := by decide +kernel
theorem dX11_judge_7 : decode cX11_judge 7 = .ok (.ifCond .eq 13, 3) := by decide +kernel
theorem dX11_judge_10 : decode cX11_judge 10 = .ok (.aload_n 0, 1) := by decide +kernel
theorem dX11_judge_11 : decode cX11_judge 11 = .ok (.iload_n 1, 1) := by decide +kernel
theorem dX11_judge_12 : decode cX11_judge 12 = .ok (.iload_n 2, 1) := by decide +kernel
theorem dX11_judge_13 : decode cX11_judge 13 = .ok (.iload_n 3, 1) := by decide +kernel
theorem dX11_judge_14 : decode cX11_judge 14 = .ok (.invokevirtual 483, 3) := by decide +kernel
theorem dX11_judge_17 : decode cX11_judge 17 = .ok (.goto 6, 3) := by decide +kernel
theorem dX11_judge_20 : decode cX11_judge 20 = .ok (.ldc2_w 489, 3) := by decide +kernel
theorem dX11_judge_23 : decode cX11_judge 23 = .ok (.dreturn, 1) := by decide +kernel
theorem okX11_judge : ab_okM MX11_judge 3 := ⟨by decide, ⟨by decide, by decide⟩, ab_in 1712 (by decide +kernel) (by decide +kernel), ab_in 86 (by decide +kernel) (by decide +kernel), by decide +kernel, by decide⟩
set_option maxHeartbeats 4000000 in
set_option maxRecDepth 100000 in
def wX11_judge (v1 : Int32) (v2 : Int32) (v3 : Int32) (x : ab_X) (K : UInt64 → ab_X → Prop) : Prop := wX11_canJudge v1 v2 v3 x (fun r1 => ((r1 = 0 → K 9221120237041090560 x) ∧ (¬ r1 = 0 → wX11_judgement v1 v2 v3 x (fun r2 x3 => K r2 x3))))
set_option maxHeartbeats 4000000 in
set_option maxRecDepth 100000 in
theorem sX11_judge (v1 : Int32) (v2 : Int32) (v3 : Int32)  (x : ab_X) (K : UInt64 → ab_X → Prop) (d bc bs : Nat) (hdp : 4 ≤ d) (h : wX11_judge v1 v2 v3 x K) : EW MX11_judge 0 [(0, .ref 0), (1, .int v1), (2, .int v2), (3, .int v3)] [] (aS x) d bc bs (liDI K) := by
  unfold wX11_judge at h
  refine EW_aload_n (pc2 := 1) rfl dX11_judge_0 0 rfl ?_
  refine EW_iload_n (pc2 := 2) rfl dX11_judge_1 1 rfl ?_
  refine EW_iload_n (pc2 := 3) rfl dX11_judge_2 2 rfl ?_
  refine EW_iload_n (pc2 := 4) rfl dX11_judge_3 3 rfl ?_
  refine AW_invV (M' := MX11_canJudge) [.int v1, .int v2, .int v3] (rest := []) mlRX11_480 okX11_canJudge (pc2 := 7) rfl dX11_judge_4 rfl rfl (Nat.le_of_ble_eq_true rfl) (Nat.le_of_ble_eq_true rfl) (d' := 2) (by omega) q0 ⟨by decide, rfl⟩ (EW_mono (fun _ _ hr => ?_) (sX11_canJudge v1 v2 v3  x _ _ 0 0 (Nat.le_refl _) h))
  obtain ⟨r1, rfl, rfl, h⟩ := hr
  refine EW_if_eq (tgt := 20) (pc2 := 10) rfl dX11_judge_7 (by decide) (fun q => ?_) (fun q => ?_)
  · replace h := h.1 q
    refine EW_ldc2d cnRX11_489 (pc2 := 23) rfl dX11_judge_20 ?_
    exact EW_dret rfl dX11_judge_23 ⟨_, _, rfl, rfl, h⟩
  · replace h := h.2 q
    refine EW_aload_n (pc2 := 11) rfl dX11_judge_10 0 rfl ?_
    refine EW_iload_n (pc2 := 12) rfl dX11_judge_11 1 rfl ?_
    refine EW_iload_n (pc2 := 13) rfl dX11_judge_12 2 rfl ?_
    refine EW_iload_n (pc2 := 14) rfl dX11_judge_13 3 rfl ?_
    refine AW_invV (M' := MX11_judgement) [.int v1, .int v2, .int v3] (rest := []) mlRX11_483 okX11_judgement (pc2 := 17) rfl dX11_judge_14 rfl rfl (Nat.le_of_ble_eq_true rfl) (Nat.le_of_ble_eq_true rfl) (d' := 3) (by omega) q0 ⟨by decide, rfl⟩ (EW_mono (fun _ _ hr => ?_) (sX11_judgement v1 v2 v3  x _ _ 0 0 (Nat.le_refl _) h))
    obtain ⟨r2, x3, rfl, rfl, h⟩ := hr
    refine EW_goto (tgt := 23) dX11_judge_17 (by decide) ?_
    exact EW_dret rfl dX11_judge_23 ⟨_, _, rfl, rfl, h⟩
