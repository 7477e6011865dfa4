abbrev MX12_floored : ab_M := (yX12_floored, cX12_floored, 5, (some .int))
theorem dX12_floored_0 : decode cX12_floored 0 = .ok (.aload_n 0, 1) := by decide +kernel
theorem dX12_floored_1 : decode cX12_floored 1 = .ok (.iconst 0, 1) := by decide +kernel
theorem dX12_floored_2 : decode cX12_floored 2 = .ok (.putfield 297, 3) := by decide +kernel
theorem dX12_floored_5 : decode cX12_floored 5 = .ok (.aload_n 0, 1) := by decide +kernel
theorem dX12_floored_6 : decode cX12_floored 6 = .ok (.iload_n 1, 1) := by decide +kernel
theorem dX12_floored_7 : decode cX12_floored 7 = .ok (.iload_n 2, 1) := by decide +kernel
theorem dX12_floored_8 : decode cX12_floored 8 = .ok (.invokevirtual 337, 3) := by decide +kernel
theorem dX12_floored_11 : decode cX12_floored 11 = .ok (.ifCond .ne 5, 3) := by decide +kernel
theorem dX12_floored_14 : decode cX12_floored 14 = .ok (.iconst (-1), 1) := by decide +kernel
theorem dX12_floored_15 : decode cX12_floored 15 = .ok (.ireturn, 1) := by decide +kernel
theorem dX12_floored_16 : decode cX12_floored 16 = .ok (.bipush 6, 2) := by decide +kernel
theorem dX12_floored_18 : decode cX12_floored 18 = .ok (.iload_n 1, 1) := by decide +kernel
theorem dX12_floored_19 : decode cX12_floored 19 = .ok (.imul, 1) := by decide +kernel
theorem dX12_floored_20 : decode cX12_floored 20 = .ok (.iload_n 2, 1) := by decide +kernel
theorem dX12_floored_21 : decode cX12_floored 21 = .ok (.iadd, 1) := by decide +kernel
theorem dX12_floored_22 : decode cX12_floored 22 = .ok (.istore 4, 2) := by decide +kernel
theorem dX12_floored_24 : decode cX12_floored 24 = .ok (.iload_n 3, 1) := by decide +kernel
theorem dX12_floored_25 : decode cX12_floored 25 = .ok (.tableswitch 70 0 3 #[31, 39, 55, 63], 31) := by decide +kernel
theorem dX12_floored_56 : decode cX12_floored 56 = .ok (.aload_n 0, 1) := by decide +kernel
theorem dX12_floored_57 : decode cX12_floored 57 = .ok (.getfield 83, 3) := by decide +kernel
theorem dX12_floored_60 : decode cX12_floored 60 = .ok (.iload 4, 2) := by decide +kernel
theorem dX12_floored_62 : decode cX12_floored 62 = .ok (.iaload, 1) := by decide +kernel
theorem dX12_floored_63 : decode cX12_floored 63 = .ok (.ireturn, 1) := by decide +kernel
theorem dX12_floored_64 : decode cX12_floored 64 = .ok (.aload_n 0, 1) := by decide +kernel
theorem dX12_floored_65 : decode cX12_floored 65 = .ok (.getfield 92, 3) := by decide +kernel
theorem dX12_floored_68 : decode cX12_floored 68 = .ok (.iload 4, 2) := by decide +kernel
theorem dX12_floored_70 : decode cX12_floored 70 = .ok (.baload, 1) := by decide +kernel
theorem dX12_floored_71 : decode cX12_floored 71 = .ok (.ifCond .eq 7, 3) := by decide +kernel
theorem dX12_floored_74 : decode cX12_floored 74 = .ok (.iconst 1, 1) := by decide +kernel
theorem dX12_floored_75 : decode cX12_floored 75 = .ok (.goto 4, 3) := by decide +kernel
theorem dX12_floored_78 : decode cX12_floored 78 = .ok (.iconst 0, 1) := by decide +kernel
theorem dX12_floored_79 : decode cX12_floored 79 = .ok (.ireturn, 1) := by decide +kernel
theorem dX12_floored_80 : decode cX12_floored 80 = .ok (.aload_n 0, 1) := by decide +kernel
theorem dX12_floored_81 : decode cX12_floored 81 = .ok (.getfield 86, 3) := by decide +kernel
theorem dX12_floored_84 : decode cX12_floored 84 = .ok (.iload 4, 2) := by decide +kernel
theorem dX12_floored_86 : decode cX12_floored 86 = .ok (.iaload, 1) := by decide +kernel
theorem dX12_floored_87 : decode cX12_floored 87 = .ok (.ireturn, 1) := by decide +kernel
theorem dX12_floored_88 : decode cX12_floored 88 = .ok (.aload_n 0, 1) := by decide +kernel
theorem dX12_floored_89 : decode cX12_floored 89 = .ok (.iload_n 1, 1) := by decide +kernel
theorem dX12_floored_90 : decode cX12_floored 90 = .ok (.iload_n 2, 1) := by decide +kernel
theorem dX12_floored_91 : decode cX12_floored 91 = .ok (.invokevirtual 360, 3) := by decide +kernel
theorem dX12_floored_94 : decode cX12_floored 94 = .ok (.ireturn, 1) := by decide +kernel
theorem dX12_floored_95 : decode cX12_floored 95 = .ok (.iconst (-1), 1) := by decide +kernel
theorem dX12_floored_96 : decode cX12_floored 96 = .ok (.ireturn, 1) := by decide +kernel
theorem okX12_floored : ab_okM MX12_floored 3 := ⟨by decide, ⟨by decide, by decide⟩, ab_in 2320 (by decide +kernel) (by decide +kernel), ab_in 99 (by decide +kernel) (by decide +kernel), by decide +kernel, by decide⟩
set_option maxHeartbeats 4000000 in
set_option maxRecDepth 100000 in
def wX12_floored (v1 : Int32) (v2 : Int32) (v3 : Int32) (x : ab_X) (K : Int32 → ab_X → Prop) : Prop := wX12_isFloor v1 v2 (wr x 246 0 0) (fun r1 => ((¬ r1 = 0 → (((v3.toInt < 0 ∨ 3 < v3.toInt) → K (-1) (wr x 246 0 0)) ∧ (v3 = 0 → (vp_in ((6 * v1) + v2) 72 ∧ K ((wr x 246 0 0).1 271 (Int32.toNatClampNeg ((6 * v1) + v2))) (wr x 246 0 0))) ∧ (v3 = 1 → (vp_in ((6 * v1) + v2) 72 ∧ ((((wr x 246 0 0).1 274 (Int32.toNatClampNeg ((6 * v1) + v2))) = 0 → K 0 (wr x 246 0 0)) ∧ (¬ ((wr x 246 0 0).1 274 (Int32.toNatClampNeg ((6 * v1) + v2))) = 0 → K 1 (wr x 246 0 0))))) ∧ (v3 = 2 → (vp_in ((6 * v1) + v2) 72 ∧ K ((wr x 246 0 0).1 272 (Int32.toNatClampNeg ((6 * v1) + v2))) (wr x 246 0 0))) ∧ (v3 = 3 → wX12_loadOf v1 v2 (wr x 246 0 0) (fun r5 => K r5 (wr x 246 0 0))))) ∧ (r1 = 0 → K (-1) (wr x 246 0 0))))
set_option maxHeartbeats 4000000 in
set_option maxRecDepth 100000 in
theorem sX12_floored (v1 : Int32) (v2 : Int32) (v3 : Int32)  (x : ab_X) (K : Int32 → ab_X → Prop) (d bc bs : Nat) (hdp : 2 ≤ d) (h : wX12_floored v1 v2 v3 x K) : EW MX12_floored 0 [(0, .ref 246), (1, .int v1), (2, .int v2), (3, .int v3)] [] (aS x) d bc bs (liI K) := by
  unfold wX12_floored at h
  refine EW_aload_n (pc2 := 1) rfl dX12_floored_0 0 rfl ?_
  refine EW_iconst (pc2 := 2) (v := 0) rfl dX12_floored_1 (by decide) ?_
  refine AW_puti ⟨gfRX12_297, rfl, rfl⟩ (pc2 := 5) rfl dX12_floored_2 q246 ?_
  refine EW_aload_n (pc2 := 6) rfl dX12_floored_5 0 rfl ?_
  refine EW_iload_n (pc2 := 7) rfl dX12_floored_6 1 rfl ?_
  refine EW_iload_n (pc2 := 8) rfl dX12_floored_7 2 rfl ?_
  refine AW_invV (M' := MX12_isFloor) [.int v1, .int v2] (rest := []) mlRX12_337 okX12_isFloor (pc2 := 11) rfl dX12_floored_8 rfl rfl (Nat.le_of_ble_eq_true rfl) (Nat.le_of_ble_eq_true rfl) (d' := 1) (by omega) q246 ⟨by decide, rfl⟩ (EW_mono (fun _ _ hr => ?_) (sX12_isFloor v1 v2  (wr x 246 0 0) _ _ 0 0 (Nat.le_refl _) h))
  obtain ⟨r1, rfl, rfl, h⟩ := hr
  refine EW_if_ne (tgt := 16) (pc2 := 14) rfl dX12_floored_11 (by decide) (fun q => ?_) (fun q => ?_)
  · replace h := h.1 q
    refine EW_bipush (pc2 := 18) (v := 6) rfl dX12_floored_16 (by decide) ?_
    refine EW_iload_n (pc2 := 19) rfl dX12_floored_18 1 rfl ?_
    refine EW_imul (pc2 := 20) rfl dX12_floored_19 ?_
    refine EW_iload_n (pc2 := 21) rfl dX12_floored_20 2 rfl ?_
    refine EW_iadd (pc2 := 22) rfl dX12_floored_21 ?_
    refine EW_istore (pc2 := 24) rfl dX12_floored_22 (by decide) [1, 2, 3, 4, 0] [(0, .ref 246), (1, .int v1), (2, .int v2), (3, .int v3), (4, .int ((6 * v1) + v2))] rfl ?_
    refine EW_iload_n (pc2 := 25) rfl dX12_floored_24 3 rfl ?_
    by_cases qo : Int32.toInt v3 < 0 ∨ 3 < Int32.toInt v3
    · replace h := h.1 qo
      refine EW_tabOut (tgt := 95) dX12_floored_25 qo (by decide) ?_
      refine EW_iconst (pc2 := 96) (v := (-1)) rfl dX12_floored_95 (by decide) ?_
      exact AW_iret rfl dX12_floored_96 ⟨_, _, rfl, rfl, h⟩
    · obtain ⟨kk, hkk, qk⟩ := sw_in 0 3 (by decide) qo
      match kk, hkk, qk with
      | 0, _, qk =>
        replace h := h.2.1 qk
        refine EW_tabIn (off := 31) (tgt := 56) dX12_floored_25 (by rw [qk]; decide) (by rw [qk]; decide) (by rw [qk]; decide) (by decide) ?_
        refine EW_aload_n (pc2 := 57) rfl dX12_floored_56 0 rfl ?_
        refine AW_getr (r := 271) ⟨gfRX12_83, rfl⟩ (pc2 := 60) rfl dX12_floored_57 q246 rfl ?_
        refine EW_iload (pc2 := 62) rfl dX12_floored_60 4 rfl ?_
        obtain ⟨b2, h⟩ := h
        refine AW_iald (pc2 := 63) rfl dX12_floored_62 q271 b2 ?_
        exact AW_iret rfl dX12_floored_63 ⟨_, _, rfl, rfl, h⟩
      | 1, _, qk =>
        replace h := h.2.2.1 qk
        refine EW_tabIn (off := 39) (tgt := 64) dX12_floored_25 (by rw [qk]; decide) (by rw [qk]; decide) (by rw [qk]; decide) (by decide) ?_
        refine EW_aload_n (pc2 := 65) rfl dX12_floored_64 0 rfl ?_
        refine AW_getr (r := 274) ⟨gfRX12_92, rfl⟩ (pc2 := 68) rfl dX12_floored_65 q246 rfl ?_
        refine EW_iload (pc2 := 70) rfl dX12_floored_68 4 rfl ?_
        obtain ⟨b3, h⟩ := h
        refine AW_zald (pc2 := 71) rfl dX12_floored_70 q274 b3 ?_
        refine EW_if_eq (tgt := 78) (pc2 := 74) rfl dX12_floored_71 (by decide) (fun q => ?_) (fun q => ?_)
        · replace h := h.1 q
          refine EW_iconst (pc2 := 79) (v := 0) rfl dX12_floored_78 (by decide) ?_
          exact AW_iret rfl dX12_floored_79 ⟨_, _, rfl, rfl, h⟩
        · replace h := h.2 q
          refine EW_iconst (pc2 := 75) (v := 1) rfl dX12_floored_74 (by decide) ?_
          refine EW_goto (tgt := 79) dX12_floored_75 (by decide) ?_
          exact AW_iret rfl dX12_floored_79 ⟨_, _, rfl, rfl, h⟩
      | 2, _, qk =>
        replace h := h.2.2.2.1 qk
        refine EW_tabIn (off := 55) (tgt := 80) dX12_floored_25 (by rw [qk]; decide) (by rw [qk]; decide) (by rw [qk]; decide) (by decide) ?_
        refine EW_aload_n (pc2 := 81) rfl dX12_floored_80 0 rfl ?_
        refine AW_getr (r := 272) ⟨gfRX12_86, rfl⟩ (pc2 := 84) rfl dX12_floored_81 q246 rfl ?_
        refine EW_iload (pc2 := 86) rfl dX12_floored_84 4 rfl ?_
        obtain ⟨b4, h⟩ := h
        refine AW_iald (pc2 := 87) rfl dX12_floored_86 q272 b4 ?_
        exact AW_iret rfl dX12_floored_87 ⟨_, _, rfl, rfl, h⟩
      | 3, _, qk =>
        replace h := h.2.2.2.2 qk
        refine EW_tabIn (off := 63) (tgt := 88) dX12_floored_25 (by rw [qk]; decide) (by rw [qk]; decide) (by rw [qk]; decide) (by decide) ?_
        refine EW_aload_n (pc2 := 89) rfl dX12_floored_88 0 rfl ?_
        refine EW_iload_n (pc2 := 90) rfl dX12_floored_89 1 rfl ?_
        refine EW_iload_n (pc2 := 91) rfl dX12_floored_90 2 rfl ?_
        refine AW_invV (M' := MX12_loadOf) [.int v1, .int v2] (rest := []) mlRX12_360 okX12_loadOf (pc2 := 94) rfl dX12_floored_91 rfl rfl (Nat.le_of_ble_eq_true rfl) (Nat.le_of_ble_eq_true rfl) (d' := 0) (by omega) q246 ⟨by decide, rfl⟩ (EW_mono (fun _ _ hr => ?_) (sX12_loadOf v1 v2  (wr x 246 0 0) _ _ 0 0 (Nat.le_refl _) h))
        obtain ⟨r5, rfl, rfl, h⟩ := hr
        exact AW_iret rfl dX12_floored_94 ⟨_, _, rfl, rfl, h⟩
      | n9 + 4, hkk, _ => exact absurd hkk (by omega)
  · replace h := h.2 q
    refine EW_iconst (pc2 := 15) (v := (-1)) rfl dX12_floored_14 (by decide) ?_
    exact AW_iret rfl dX12_floored_15 ⟨_, _, rfl, rfl, h⟩
abbrev MX12_force : ab_M := (yX12_force, cX12_force, 3, (some .int))
theorem dX12_force_0 : decode cX12_force 0 = .ok (.aload_n 0, 1) := by decide +kernel
theorem dX12_force_1 : decode cX12_force 1 = .ok (.iconst 0, 1) := by decide +kernel
theorem dX12_force_2 : decode cX12_force 2 = .ok (.putfield 297, 3) := by decide +kernel
theorem dX12_force_5 : decode cX12_force 5 = .ok (.aload_n 0, 1) := by decide +kernel
theorem dX12_force_6 : decode cX12_force 6 = .ok (.iload_n 1, 1) := by decide +kernel
theorem dX12_force_7 : decode cX12_force 7 = .ok (.invokevirtual 334, 3) := by decide +kernel
theorem dX12_force_10 : decode cX12_force 10 = .ok (.ifCond .eq 24, 3) := by decide +kernel
theorem dX12_force_13 : decode cX12_force 13 = .ok (.iload_n 2, 1) := by decide +kernel
theorem dX12_force_14 : decode cX12_force 14 = .ok (.iconst 0, 1) := by decide +kernel
theorem dX12_force_15 : decode cX12_force 15 = .ok (.aload_n 0, 1) := by decide +kernel
theorem dX12_force_16 : decode cX12_force 16 = .ok (.getfield 395, 3) := by decide +kernel
theorem dX12_force_19 : decode cX12_force 19 = .ok (.invokestatic 307, 3) := by decide +kernel
theorem dX12_force_22 : decode cX12_force 22 = .ok (.ifCond .eq 12, 3) := by decide +kernel
theorem dX12_force_25 : decode cX12_force 25 = .ok (.aload_n 0, 1) := by decide +kernel
theorem dX12_force_26 : decode cX12_force 26 = .ok (.iload_n 1, 1) := by decide +kernel
theorem dX12_force_27 : decode cX12_force 27 = .ok (.iload_n 2, 1) := by decide +kernel
theorem dX12_force_28 : decode cX12_force 28 = .ok (.invokevirtual 593, 3) := by decide +kernel
theorem dX12_force_31 : decode cX12_force 31 = .ok (.goto 4, 3) := by decide +kernel
theorem dX12_force_34 : decode cX12_force 34 = .ok (.iconst (-1), 1) := by decide +kernel
theorem dX12_force_35 : decode cX12_force 35 = .ok (.ireturn, 1) := by decide +kernel
theorem okX12_force : ab_okM MX12_force 2 := ⟨by decide, ⟨by decide, by decide⟩, ab_in 2610 (by decide +kernel) (by decide +kernel), ab_in 99 (by decide +kernel) (by decide +kernel), by decide +kernel, by decide⟩
set_option maxHeartbeats 4000000 in
set_option maxRecDepth 100000 in
def wX12_force (v1 : Int32) (v2 : Int32) (x : ab_X) (K : Int32 → ab_X → Prop) : Prop := wX12_isHouse v1 (wr x 246 0 0) (fun r1 => ((r1 = 0 → K (-1) (wr x 246 0 0)) ∧ (¬ r1 = 0 → wX12_isIn v2 0 ((wr x 246 0 0).1 246 1) (wr x 246 0 0) (fun r2 => ((r2 = 0 → K (-1) (wr x 246 0 0)) ∧ (¬ r2 = 0 → wX12_actFor v1 v2 (wr x 246 0 0) (fun r3 => K r3 (wr x 246 0 0))))))))
set_option maxHeartbeats 4000000 in
set_option maxRecDepth 100000 in
theorem sX12_force (v1 : Int32) (v2 : Int32)  (x : ab_X) (K : Int32 → ab_X → Prop) (d bc bs : Nat) (hdp : 1 ≤ d) (h : wX12_force v1 v2 x K) : EW MX12_force 0 [(0, .ref 246), (1, .int v1), (2, .int v2)] [] (aS x) d bc bs (liI K) := by
  unfold wX12_force at h
  refine EW_aload_n (pc2 := 1) rfl dX12_force_0 0 rfl ?_
  refine EW_iconst (pc2 := 2) (v := 0) rfl dX12_force_1 (by decide) ?_
  refine AW_puti ⟨gfRX12_297, rfl, rfl⟩ (pc2 := 5) rfl dX12_force_2 q246 ?_
  refine EW_aload_n (pc2 := 6) rfl dX12_force_5 0 rfl ?_
  refine EW_iload_n (pc2 := 7) rfl dX12_force_6 1 rfl ?_
  refine AW_invV (M' := MX12_isHouse) [.int v1] (rest := []) mlRX12_334 okX12_isHouse (pc2 := 10) rfl dX12_force_7 rfl rfl (Nat.le_of_ble_eq_true rfl) (Nat.le_of_ble_eq_true rfl) (d' := 0) (by omega) q246 ⟨by decide, rfl⟩ (EW_mono (fun _ _ hr => ?_) (sX12_isHouse v1  (wr x 246 0 0) _ _ 0 0 (Nat.le_refl _) h))
  obtain ⟨r1, rfl, rfl, h⟩ := hr
  refine EW_if_eq (tgt := 34) (pc2 := 13) rfl dX12_force_10 (by decide) (fun q => ?_) (fun q => ?_)
  · replace h := h.1 q
    refine EW_iconst (pc2 := 35) (v := (-1)) rfl dX12_force_34 (by decide) ?_
    exact AW_iret rfl dX12_force_35 ⟨_, _, rfl, rfl, h⟩
  · replace h := h.2 q
    refine EW_iload_n (pc2 := 14) rfl dX12_force_13 2 rfl ?_
    refine EW_iconst (pc2 := 15) (v := 0) rfl dX12_force_14 (by decide) ?_
    refine EW_aload_n (pc2 := 16) rfl dX12_force_15 0 rfl ?_
    refine AW_geti ⟨gfRX12_395, rfl⟩ (pc2 := 19) rfl dX12_force_16 q246 ?_
    refine AW_invS (M' := MX12_isIn) [.int v2, .int 0, .int ((wr x 246 0 0).1 246 1)] (rest := []) mlRX12_307 okX12_isIn (pc2 := 22) rfl dX12_force_19 rfl rfl (Nat.le_of_ble_eq_true rfl) (Nat.le_of_ble_eq_true rfl) (d' := 0) (by omega) (EW_mono (fun _ _ hr => ?_) (sX12_isIn v2 0 ((wr x 246 0 0).1 246 1)  (wr x 246 0 0) _ _ 0 0 (Nat.le_refl _) h))
    obtain ⟨r2, rfl, rfl, h⟩ := hr
    refine EW_if_eq (tgt := 34) (pc2 := 25) rfl dX12_force_22 (by decide) (fun q => ?_) (fun q => ?_)
    · replace h := h.1 q
      refine EW_iconst (pc2 := 35) (v := (-1)) rfl dX12_force_34 (by decide) ?_
      exact AW_iret rfl dX12_force_35 ⟨_, _, rfl, rfl, h⟩
    · replace h := h.2 q
      refine EW_aload_n (pc2 := 26) rfl dX12_force_25 0 rfl ?_
      refine EW_iload_n (pc2 := 27) rfl dX12_force_26 1 rfl ?_
      refine EW_iload_n (pc2 := 28) rfl dX12_force_27 2 rfl ?_
      refine AW_invV (M' := MX12_actFor) [.int v1, .int v2] (rest := []) mlRX12_593 okX12_actFor (pc2 := 31) rfl dX12_force_28 rfl rfl (Nat.le_of_ble_eq_true rfl) (Nat.le_of_ble_eq_true rfl) (d' := 0) (by omega) q246 ⟨by decide, rfl⟩ (EW_mono (fun _ _ hr => ?_) (sX12_actFor v1 v2  (wr x 246 0 0) _ _ 0 0 (Nat.le_refl _) h))
      obtain ⟨r3, rfl, rfl, h⟩ := hr
      refine EW_goto (tgt := 35) dX12_force_31 (by decide) ?_
      exact AW_iret rfl dX12_force_35 ⟨_, _, rfl, rfl, h⟩
abbrev MX12_gear : ab_M := (yX12_gear, cX12_gear, 6, (some .boolean))
theorem dX12_gear_0 : decode cX12_gear 0 = .ok (.aload_n 0, 1) := by decide +kernel
theorem dX12_gear_1 : decode cX12_gear 1 = .ok (.iconst 0, 1) := by decide +kernel
theorem dX12_gear_2 : decode cX12_gear 2 = .ok (.putfield 297, 3) := by decide +kernel
theorem dX12_gear_5 : decode cX12_gear 5 = .ok (.aload_n 0, 1) := by decide +kernel
theorem dX12_gear_6 : decode cX12_gear 6 = .ok (.iload_n 1, 1) := by decide +kernel
theorem dX12_gear_7 : decode cX12_gear 7 = .ok (.invokevirtual 392, 3) := by decide +kernel
theorem dX12_gear_10 : decode cX12_gear 10 = .ok (.ifCond .eq 13, 3) := by decide +kernel
theorem dX12_gear_13 : decode cX12_gear 13 = .ok (.aload_n 0, 1) := by decide +kernel
theorem dX12_gear_14 : decode cX12_gear 14 = .ok (.getfield 128, 3) := by decide +kernel
theorem dX12_gear_17 : decode cX12_gear 17 = .ok (.iload_n 1, 1) := by decide +kernel
theorem dX12_gear_18 : decode cX12_gear 18 = .ok (.iaload, 1) := by decide +kernel
theorem dX12_gear_19 : decode cX12_gear 19 = .ok (.iconst 2, 1) := by decide +kernel
theorem dX12_gear_20 : decode cX12_gear 20 = .ok (.if_icmp .ne 5, 3) := by decide +kernel
theorem dX12_gear_23 : decode cX12_gear 23 = .ok (.iconst 0, 1) := by decide +kernel
theorem dX12_gear_24 : decode cX12_gear 24 = .ok (.ireturn, 1) := by decide +kernel
theorem dX12_gear_25 : decode cX12_gear 25 = .ok (.iload_n 2, 1) := by decide +kernel
theorem dX12_gear_26 : decode cX12_gear 26 = .ok (.ifCond .ne 16, 3) := by decide +kernel
theorem dX12_gear_29 : decode cX12_gear 29 = .ok (.iload_n 3, 1) := by decide +kernel
theorem dX12_gear_30 : decode cX12_gear 30 = .ok (.ifCond .ne 12, 3) := by decide +kernel
theorem dX12_gear_33 : decode cX12_gear 33 = .ok (.iload 4, 2) := by decide +kernel
theorem dX12_gear_35 : decode cX12_gear 35 = .ok (.ifCond .ne 7, 3) := by decide +kernel
theorem dX12_gear_38 : decode cX12_gear 38 = .ok (.iconst 1, 1) := by decide +kernel
theorem dX12_gear_39 : decode cX12_gear 39 = .ok (.goto 4, 3) := by decide +kernel
theorem dX12_gear_42 : decode cX12_gear 42 = .ok (.iconst 0, 1) := by decide +kernel
theorem dX12_gear_43 : decode cX12_gear 43 = .ok (.istore 5, 2) := by decide +kernel
theorem dX12_gear_45 : decode cX12_gear 45 = .ok (.aload_n 0, 1) := by decide +kernel
theorem dX12_gear_46 : decode cX12_gear 46 = .ok (.getfield 107, 3) := by decide +kernel
theorem dX12_gear_49 : decode cX12_gear 49 = .ok (.iload_n 1, 1) := by decide +kernel
theorem dX12_gear_50 : decode cX12_gear 50 = .ok (.iaload, 1) := by decide +kernel
theorem dX12_gear_51 : decode cX12_gear 51 = .ok (.iconst 2, 1) := by decide +kernel
theorem dX12_gear_52 : decode cX12_gear 52 = .ok (.if_icmp .ne 29, 3) := by decide +kernel
theorem dX12_gear_55 : decode cX12_gear 55 = .ok (.iload_n 2, 1) := by decide +kernel
theorem dX12_gear_56 : decode cX12_gear 56 = .ok (.iconst 1, 1) := by decide +kernel
theorem dX12_gear_57 : decode cX12_gear 57 = .ok (.bipush 6, 2) := by decide +kernel
theorem dX12_gear_59 : decode cX12_gear 59 = .ok (.invokestatic 307, 3) := by decide +kernel
theorem dX12_gear_62 : decode cX12_gear 62 = .ok (.ifCond .eq 16, 3) := by decide +kernel
theorem dX12_gear_65 : decode cX12_gear 65 = .ok (.iload_n 3, 1) := by decide +kernel
theorem dX12_gear_66 : decode cX12_gear 66 = .ok (.ifCond .ne 12, 3) := by decide +kernel
theorem dX12_gear_69 : decode cX12_gear 69 = .ok (.iload 4, 2) := by decide +kernel
theorem dX12_gear_71 : decode cX12_gear 71 = .ok (.ifCond .ne 7, 3) := by decide +kernel
theorem dX12_gear_74 : decode cX12_gear 74 = .ok (.iconst 1, 1) := by decide +kernel
theorem dX12_gear_75 : decode cX12_gear 75 = .ok (.goto 4, 3) := by decide +kernel
theorem dX12_gear_78 : decode cX12_gear 78 = .ok (.iconst 0, 1) := by decide +kernel
theorem dX12_gear_79 : decode cX12_gear 79 = .ok (.istore 5, 2) := by decide +kernel
theorem dX12_gear_81 : decode cX12_gear 81 = .ok (.aload_n 0, 1) := by decide +kernel
theorem dX12_gear_82 : decode cX12_gear 82 = .ok (.getfield 107, 3) := by decide +kernel
theorem dX12_gear_85 : decode cX12_gear 85 = .ok (.iload_n 1, 1) := by decide +kernel
theorem dX12_gear_86 : decode cX12_gear 86 = .ok (.iaload, 1) := by decide +kernel
theorem dX12_gear_87 : decode cX12_gear 87 = .ok (.iconst 2, 1) := by decide +kernel
theorem dX12_gear_88 : decode cX12_gear 88 = .ok (.if_icmp .ge 62, 3) := by decide +kernel
theorem dX12_gear_91 : decode cX12_gear 91 = .ok (.iload_n 2, 1) := by decide +kernel
theorem dX12_gear_92 : decode cX12_gear 92 = .ok (.bipush 100, 2) := by decide +kernel
theorem dX12_gear_94 : decode cX12_gear 94 = .ok (.sipush 3000, 3) := by decide +kernel
theorem dX12_gear_97 : decode cX12_gear 97 = .ok (.invokestatic 307, 3) := by decide +kernel
theorem dX12_gear_100 : decode cX12_gear 100 = .ok (.ifCond .eq 47, 3) := by decide +kernel
theorem dX12_gear_103 : decode cX12_gear 103 = .ok (.iload_n 3, 1) := by decide +kernel
theorem dX12_gear_104 : decode cX12_gear 104 = .ok (.bipush 10, 2) := by decide +kernel
theorem dX12_gear_106 : decode cX12_gear 106 = .ok (.sipush 500, 3) := by decide +kernel
theorem dX12_gear_109 : decode cX12_gear 109 = .ok (.invokestatic 307, 3) := by decide +kernel
theorem dX12_gear_112 : decode cX12_gear 112 = .ok (.ifCond .eq 35, 3) := by decide +kernel
theorem dX12_gear_115 : decode cX12_gear 115 = .ok (.aload_n 0, 1) := by decide +kernel
theorem dX12_gear_116 : decode cX12_gear 116 = .ok (.getfield 107, 3) := by decide +kernel
theorem dX12_gear_119 : decode cX12_gear 119 = .ok (.iload_n 1, 1) := by decide +kernel
theorem dX12_gear_120 : decode cX12_gear 120 = .ok (.iaload, 1) := by decide +kernel
theorem dX12_gear_121 : decode cX12_gear 121 = .ok (.ifCond .ne 11, 3) := by decide +kernel
theorem dX12_gear_124 : decode cX12_gear 124 = .ok (.iload 4, 2) := by decide +kernel
theorem dX12_gear_126 : decode cX12_gear 126 = .ok (.ifCond .ne 21, 3) := by decide +kernel
theorem dX12_gear_129 : decode cX12_gear 129 = .ok (.goto 14, 3) := by decide +kernel
theorem dX12_gear_132 : decode cX12_gear 132 = .ok (.iload 4, 2) := by decide +kernel
theorem dX12_gear_134 : decode cX12_gear 134 = .ok (.iconst 1, 1) := by decide +kernel
theorem dX12_gear_135 : decode cX12_gear 135 = .ok (.bipush 30, 2) := by decide +kernel
theorem dX12_gear_137 : decode cX12_gear 137 = .ok (.invokestatic 307, 3) := by decide +kernel
theorem dX12_gear_140 : decode cX12_gear 140 = .ok (.ifCond .eq 7, 3) := by decide +kernel
theorem dX12_gear_143 : decode cX12_gear 143 = .ok (.iconst 1, 1) := by decide +kernel
theorem dX12_gear_144 : decode cX12_gear 144 = .ok (.goto 4, 3) := by decide +kernel
theorem dX12_gear_147 : decode cX12_gear 147 = .ok (.iconst 0, 1) := by decide +kernel
theorem dX12_gear_148 : decode cX12_gear 148 = .ok (.istore 5, 2) := by decide +kernel
theorem dX12_gear_150 : decode cX12_gear 150 = .ok (.iload 5, 2) := by decide +kernel
theorem dX12_gear_152 : decode cX12_gear 152 = .ok (.ifCond .ne 5, 3) := by decide +kernel
theorem dX12_gear_155 : decode cX12_gear 155 = .ok (.iconst 0, 1) := by decide +kernel
theorem dX12_gear_156 : decode cX12_gear 156 = .ok (.ireturn, 1) := by decide +kernel
theorem dX12_gear_157 : decode cX12_gear 157 = .ok (.aload_n 0, 1) := by decide +kernel
theorem dX12_gear_158 : decode cX12_gear 158 = .ok (.getfield 119, 3) := by decide +kernel
theorem dX12_gear_161 : decode cX12_gear 161 = .ok (.iload_n 1, 1) := by decide +kernel
theorem dX12_gear_162 : decode cX12_gear 162 = .ok (.iload_n 2, 1) := by decide +kernel
theorem dX12_gear_163 : decode cX12_gear 163 = .ok (.iastore, 1) := by decide +kernel
theorem dX12_gear_164 : decode cX12_gear 164 = .ok (.aload_n 0, 1) := by decide +kernel
theorem dX12_gear_165 : decode cX12_gear 165 = .ok (.getfield 122, 3) := by decide +kernel
theorem dX12_gear_168 : decode cX12_gear 168 = .ok (.iload_n 1, 1) := by decide +kernel
theorem dX12_gear_169 : decode cX12_gear 169 = .ok (.iload_n 3, 1) := by decide +kernel
theorem dX12_gear_170 : decode cX12_gear 170 = .ok (.iastore, 1) := by decide +kernel
theorem dX12_gear_171 : decode cX12_gear 171 = .ok (.aload_n 0, 1) := by decide +kernel
theorem dX12_gear_172 : decode cX12_gear 172 = .ok (.getfield 125, 3) := by decide +kernel
theorem dX12_gear_175 : decode cX12_gear 175 = .ok (.iload_n 1, 1) := by decide +kernel
theorem dX12_gear_176 : decode cX12_gear 176 = .ok (.iload 4, 2) := by decide +kernel
theorem dX12_gear_178 : decode cX12_gear 178 = .ok (.iastore, 1) := by decide +kernel
theorem dX12_gear_179 : decode cX12_gear 179 = .ok (.iconst 1, 1) := by decide +kernel
theorem dX12_gear_180 : decode cX12_gear 180 = .ok (.ireturn, 1) := by decide +kernel
theorem okX12_gear : ab_okM MX12_gear 4 := ⟨by decide, ⟨by decide, by decide⟩, ab_in 2348 (by decide +kernel) (by decide +kernel), ab_in 99 (by decide +kernel) (by decide +kernel), by decide +kernel, by decide⟩
set_option maxHeartbeats 4000000 in
set_option maxRecDepth 100000 in
def wX12_gear_150 (v1 : Int32) (v2 : Int32) (v3 : Int32) (v4 : Int32) (v5 : Int32) (x : ab_X) (K : Int32 → ab_X → Prop)  : Prop := ((¬ v5 = 0 → (vp_in v1 16 ∧ vp_in v1 16 ∧ vp_in v1 16 ∧ K 1 (wr (wr (wr x 283 (Int32.toNatClampNeg v1) v2) 284 (Int32.toNatClampNeg v1) v3) 285 (Int32.toNatClampNeg v1) v4))) ∧ (v5 = 0 → K 0 x))
set_option maxHeartbeats 4000000 in
set_option maxRecDepth 100000 in
theorem sX12_gear_150 (v1 : Int32) (v2 : Int32) (v3 : Int32) (v4 : Int32) (v5 : Int32)  (x : ab_X) (K : Int32 → ab_X → Prop)  (d bc bs : Nat) (hdp : 1 ≤ d)  (h : wX12_gear_150 v1 v2 v3 v4 v5 x K ) : EW MX12_gear 150 [(0, .ref 246), (1, .int v1), (2, .int v2), (3, .int v3), (4, .int v4), (5, .int v5)] [] (aS x) d bc bs (liI K) := by
  unfold wX12_gear_150 at h
  refine EW_iload (pc2 := 152) rfl dX12_gear_150 5 rfl ?_
  refine EW_if_ne (tgt := 157) (pc2 := 155) rfl dX12_gear_152 (by decide) (fun q => ?_) (fun q => ?_)
  · replace h := h.1 q
    refine EW_aload_n (pc2 := 158) rfl dX12_gear_157 0 rfl ?_
    refine AW_getr (r := 283) ⟨gfRX12_119, rfl⟩ (pc2 := 161) rfl dX12_gear_158 q246 rfl ?_
    refine EW_iload_n (pc2 := 162) rfl dX12_gear_161 1 rfl ?_
    refine EW_iload_n (pc2 := 163) rfl dX12_gear_162 2 rfl ?_
    obtain ⟨b10, h⟩ := h
    refine AW_iast (pc2 := 164) rfl dX12_gear_163 q283 b10 ?_
    refine EW_aload_n (pc2 := 165) rfl dX12_gear_164 0 rfl ?_
    refine AW_getr (r := 284) ⟨gfRX12_122, rfl⟩ (pc2 := 168) rfl dX12_gear_165 q246 rfl ?_
    refine EW_iload_n (pc2 := 169) rfl dX12_gear_168 1 rfl ?_
    refine EW_iload_n (pc2 := 170) rfl dX12_gear_169 3 rfl ?_
    obtain ⟨b11, h⟩ := h
    refine AW_iast (pc2 := 171) rfl dX12_gear_170 q284 b11 ?_
    refine EW_aload_n (pc2 := 172) rfl dX12_gear_171 0 rfl ?_
    refine AW_getr (r := 285) ⟨gfRX12_125, rfl⟩ (pc2 := 175) rfl dX12_gear_172 q246 rfl ?_
    refine EW_iload_n (pc2 := 176) rfl dX12_gear_175 1 rfl ?_
    refine EW_iload (pc2 := 178) rfl dX12_gear_176 4 rfl ?_
    obtain ⟨b12, h⟩ := h
    refine AW_iast (pc2 := 179) rfl dX12_gear_178 q285 b12 ?_
    refine EW_iconst (pc2 := 180) (v := 1) rfl dX12_gear_179 (by decide) ?_
    exact AW_zret rfl isB1 dX12_gear_180 ⟨_, _, rfl, rfl, h⟩
  · replace h := h.2 q
    refine EW_iconst (pc2 := 156) (v := 0) rfl dX12_gear_155 (by decide) ?_
    exact AW_zret rfl isB0 dX12_gear_156 ⟨_, _, rfl, rfl, h⟩
set_option maxHeartbeats 4000000 in
set_option maxRecDepth 100000 in
def wX12_gear_148 (v1 : Int32) (v2 : Int32) (v3 : Int32) (v4 : Int32) (s0 : Int32) (x : ab_X) (K : Int32 → ab_X → Prop)  : Prop := wX12_gear_150 v1 v2 v3 v4 s0 x K
set_option maxHeartbeats 4000000 in
set_option maxRecDepth 100000 in
theorem sX12_gear_148 (v1 : Int32) (v2 : Int32) (v3 : Int32) (v4 : Int32) (s0 : Int32)  (x : ab_X) (K : Int32 → ab_X → Prop)  (d bc bs : Nat) (hdp : 1 ≤ d)  (h : wX12_gear_148 v1 v2 v3 v4 s0 x K ) : EW MX12_gear 148 [(0, .ref 246), (1, .int v1), (2, .int v2), (3, .int v3), (4, .int v4)] [.int s0] (aS x) d bc bs (liI K) := by
  unfold wX12_gear_148 at h
  refine EW_istore (pc2 := 150) rfl dX12_gear_148 (by decide) [1, 2, 3, 4, 5, 0] [(0, .ref 246), (1, .int v1), (2, .int v2), (3, .int v3), (4, .int v4), (5, .int s0)] rfl ?_
  exact sX12_gear_150 v1 v2 v3 v4 s0 x K d bc bs hdp h
set_option maxHeartbeats 4000000 in
set_option maxRecDepth 100000 in
def wX12_gear_147 (v1 : Int32) (v2 : Int32) (v3 : Int32) (v4 : Int32) (x : ab_X) (K : Int32 → ab_X → Prop)  : Prop := wX12_gear_148 v1 v2 v3 v4 0 x K
set_option maxHeartbeats 4000000 in
set_option maxRecDepth 100000 in
theorem sX12_gear_147 (v1 : Int32) (v2 : Int32) (v3 : Int32) (v4 : Int32)  (x : ab_X) (K : Int32 → ab_X → Prop)  (d bc bs : Nat) (hdp : 1 ≤ d)  (h : wX12_gear_147 v1 v2 v3 v4 x K ) : EW MX12_gear 147 [(0, .ref 246), (1, .int v1), (2, .int v2), (3, .int v3), (4, .int v4)] [] (aS x) d bc bs (liI K) := by
  unfold wX12_gear_147 at h
  refine EW_iconst (pc2 := 148) (v := 0) rfl dX12_gear_147 (by decide) ?_
  exact sX12_gear_148 v1 v2 v3 v4 0 x K d bc bs hdp h
set_option maxHeartbeats 4000000 in
set_option maxRecDepth 100000 in
def wX12_gear_143 (v1 : Int32) (v2 : Int32) (v3 : Int32) (v4 : Int32) (x : ab_X) (K : Int32 → ab_X → Prop)  : Prop := wX12_gear_148 v1 v2 v3 v4 1 x K
set_option maxHeartbeats 4000000 in
set_option maxRecDepth 100000 in
theorem sX12_gear_143 (v1 : Int32) (v2 : Int32) (v3 : Int32) (v4 : Int32)  (x : ab_X) (K : Int32 → ab_X → Prop)  (d bc bs : Nat) (hdp : 1 ≤ d)  (h : wX12_gear_143 v1 v2 v3 v4 x K ) : EW MX12_gear 143 [(0, .ref 246), (1, .int v1), (2, .int v2), (3, .int v3), (4, .int v4)] [] (aS x) d bc bs (liI K) := by
  unfold wX12_gear_143 at h
  refine EW_iconst (pc2 := 144) (v := 1) rfl dX12_gear_143 (by decide) ?_
  refine EW_goto (tgt := 148) dX12_gear_144 (by decide) ?_
  exact sX12_gear_148 v1 v2 v3 v4 1 x K d bc bs hdp h
set_option maxHeartbeats 4000000 in
set_option maxRecDepth 100000 in
def wX12_gear_81 (v1 : Int32) (v2 : Int32) (v3 : Int32) (v4 : Int32) (v5 : Int32) (x : ab_X) (K : Int32 → ab_X → Prop)  : Prop := (vp_in v1 16 ∧ ((2 ≤ (x.1 279 (Int32.toNatClampNeg v1)) → wX12_gear_150 v1 v2 v3 v4 v5 x K) ∧ (¬ 2 ≤ (x.1 279 (Int32.toNatClampNeg v1)) → wX12_isIn v2 100 3000 x (fun r6 => ((r6 = 0 → wX12_gear_147 v1 v2 v3 v4 x K) ∧ (¬ r6 = 0 → wX12_isIn v3 10 500 x (fun r7 => ((r7 = 0 → wX12_gear_147 v1 v2 v3 v4 x K) ∧ (¬ r7 = 0 → (vp_in v1 16 ∧ ((¬ (x.1 279 (Int32.toNatClampNeg v1)) = 0 → wX12_isIn v4 1 30 x (fun r9 => ((r9 = 0 → wX12_gear_147 v1 v2 v3 v4 x K) ∧ (¬ r9 = 0 → wX12_gear_143 v1 v2 v3 v4 x K)))) ∧ ((x.1 279 (Int32.toNatClampNeg v1)) = 0 → ((¬ v4 = 0 → wX12_gear_147 v1 v2 v3 v4 x K) ∧ (v4 = 0 → wX12_gear_143 v1 v2 v3 v4 x K))))))))))))))
set_option maxHeartbeats 4000000 in
set_option maxRecDepth 100000 in
theorem sX12_gear_81 (v1 : Int32) (v2 : Int32) (v3 : Int32) (v4 : Int32) (v5 : Int32)  (x : ab_X) (K : Int32 → ab_X → Prop)  (d bc bs : Nat) (hdp : 1 ≤ d)  (h : wX12_gear_81 v1 v2 v3 v4 v5 x K ) : EW MX12_gear 81 [(0, .ref 246), (1, .int v1), (2, .int v2), (3, .int v3), (4, .int v4), (5, .int v5)] [] (aS x) d bc bs (liI K) := by
  unfold wX12_gear_81 at h
  refine EW_aload_n (pc2 := 82) rfl dX12_gear_81 0 rfl ?_
  refine AW_getr (r := 279) ⟨gfRX12_107, rfl⟩ (pc2 := 85) rfl dX12_gear_82 q246 rfl ?_
  refine EW_iload_n (pc2 := 86) rfl dX12_gear_85 1 rfl ?_
  obtain ⟨b5, h⟩ := h
  refine AW_iald (pc2 := 87) rfl dX12_gear_86 q279 b5 ?_
  refine EW_iconst (pc2 := 88) (v := 2) rfl dX12_gear_87 (by decide) ?_
  refine EW_icmp_ge (tgt := 150) (pc2 := 91) rfl dX12_gear_88 (by decide) (fun q => ?_) (fun q => ?_)
  · replace h := h.1 q
    exact sX12_gear_150 v1 v2 v3 v4 v5 x K d bc bs hdp h
  · replace h := h.2 q
    refine EW_iload_n (pc2 := 92) rfl dX12_gear_91 2 rfl ?_
    refine EW_bipush (pc2 := 94) (v := 100) rfl dX12_gear_92 (by decide) ?_
    refine EW_sipush (pc2 := 97) (v := 3000) rfl dX12_gear_94 (by decide) ?_
    refine AW_invS (M' := MX12_isIn) [.int v2, .int 100, .int 3000] (rest := []) mlRX12_307 okX12_isIn (pc2 := 100) rfl dX12_gear_97 rfl rfl (Nat.le_of_ble_eq_true rfl) (Nat.le_of_ble_eq_true rfl) (d' := 0) (by omega) (EW_mono (fun _ _ hr => ?_) (sX12_isIn v2 100 3000  x _ _ 0 0 (Nat.le_refl _) h))
    obtain ⟨r6, rfl, rfl, h⟩ := hr
    refine EW_if_eq (tgt := 147) (pc2 := 103) rfl dX12_gear_100 (by decide) (fun q => ?_) (fun q => ?_)
    · replace h := h.1 q
      refine EW_ls [0, 1, 2, 3, 4] rfl ?_
      exact sX12_gear_147 v1 v2 v3 v4 x K d bc bs hdp h
    · replace h := h.2 q
      refine EW_iload_n (pc2 := 104) rfl dX12_gear_103 3 rfl ?_
      refine EW_bipush (pc2 := 106) (v := 10) rfl dX12_gear_104 (by decide) ?_
      refine EW_sipush (pc2 := 109) (v := 500) rfl dX12_gear_106 (by decide) ?_
      refine AW_invS (M' := MX12_isIn) [.int v3, .int 10, .int 500] (rest := []) mlRX12_307 okX12_isIn (pc2 := 112) rfl dX12_gear_109 rfl rfl (Nat.le_of_ble_eq_true rfl) (Nat.le_of_ble_eq_true rfl) (d' := 0) (by omega) (EW_mono (fun _ _ hr => ?_) (sX12_isIn v3 10 500  x _ _ 0 0 (Nat.le_refl _) h))
      obtain ⟨r7, rfl, rfl, h⟩ := hr
      refine EW_if_eq (tgt := 147) (pc2 := 115) rfl dX12_gear_112 (by decide) (fun q => ?_) (fun q => ?_)
      · replace h := h.1 q
        refine EW_ls [0, 1, 2, 3, 4] rfl ?_
        exact sX12_gear_147 v1 v2 v3 v4 x K d bc bs hdp h
      · replace h := h.2 q
        refine EW_aload_n (pc2 := 116) rfl dX12_gear_115 0 rfl ?_
        refine AW_getr (r := 279) ⟨gfRX12_107, rfl⟩ (pc2 := 119) rfl dX12_gear_116 q246 rfl ?_
        refine EW_iload_n (pc2 := 120) rfl dX12_gear_119 1 rfl ?_
        obtain ⟨b8, h⟩ := h
        refine AW_iald (pc2 := 121) rfl dX12_gear_120 q279 b8 ?_
        refine EW_if_ne (tgt := 132) (pc2 := 124) rfl dX12_gear_121 (by decide) (fun q => ?_) (fun q => ?_)
        · replace h := h.1 q
          refine EW_iload (pc2 := 134) rfl dX12_gear_132 4 rfl ?_
          refine EW_iconst (pc2 := 135) (v := 1) rfl dX12_gear_134 (by decide) ?_
          refine EW_bipush (pc2 := 137) (v := 30) rfl dX12_gear_135 (by decide) ?_
          refine AW_invS (M' := MX12_isIn) [.int v4, .int 1, .int 30] (rest := []) mlRX12_307 okX12_isIn (pc2 := 140) rfl dX12_gear_137 rfl rfl (Nat.le_of_ble_eq_true rfl) (Nat.le_of_ble_eq_true rfl) (d' := 0) (by omega) (EW_mono (fun _ _ hr => ?_) (sX12_isIn v4 1 30  x _ _ 0 0 (Nat.le_refl _) h))
          obtain ⟨r9, rfl, rfl, h⟩ := hr
          refine EW_if_eq (tgt := 147) (pc2 := 143) rfl dX12_gear_140 (by decide) (fun q => ?_) (fun q => ?_)
          · replace h := h.1 q
            refine EW_ls [0, 1, 2, 3, 4] rfl ?_
            exact sX12_gear_147 v1 v2 v3 v4 x K d bc bs hdp h
          · replace h := h.2 q
            refine EW_ls [0, 1, 2, 3, 4] rfl ?_
            exact sX12_gear_143 v1 v2 v3 v4 x K d bc bs hdp h
        · replace h := h.2 q
          refine EW_iload (pc2 := 126) rfl dX12_gear_124 4 rfl ?_
          refine EW_if_ne (tgt := 147) (pc2 := 129) rfl dX12_gear_126 (by decide) (fun q => ?_) (fun q => ?_)
          · replace h := h.1 q
            refine EW_ls [0, 1, 2, 3, 4] rfl ?_
            exact sX12_gear_147 v1 v2 v3 v4 x K d bc bs hdp h
          · replace h := h.2 q
            refine EW_goto (tgt := 143) dX12_gear_129 (by decide) ?_
            refine EW_ls [0, 1, 2, 3, 4] rfl ?_
            exact sX12_gear_143 v1 v2 v3 v4 x K d bc bs hdp h
set_option maxHeartbeats 4000000 in
set_option maxRecDepth 100000 in
def wX12_gear_79 (v1 : Int32) (v2 : Int32) (v3 : Int32) (v4 : Int32) (s0 : Int32) (x : ab_X) (K : Int32 → ab_X → Prop)  : Prop := wX12_gear_81 v1 v2 v3 v4 s0 x K
set_option maxHeartbeats 4000000 in
set_option maxRecDepth 100000 in
theorem sX12_gear_79 (v1 : Int32) (v2 : Int32) (v3 : Int32) (v4 : Int32) (s0 : Int32)  (x : ab_X) (K : Int32 → ab_X → Prop)  (d bc bs : Nat) (hdp : 1 ≤ d)  (h : wX12_gear_79 v1 v2 v3 v4 s0 x K ) : EW MX12_gear 79 [(0, .ref 246), (1, .int v1), (2, .int v2), (3, .int v3), (4, .int v4)] [.int s0] (aS x) d bc bs (liI K) := by
  unfold wX12_gear_79 at h
  refine EW_istore (pc2 := 81) rfl dX12_gear_79 (by decide) [1, 2, 3, 4, 5, 0] [(0, .ref 246), (1, .int v1), (2, .int v2), (3, .int v3), (4, .int v4), (5, .int s0)] rfl ?_
  exact sX12_gear_81 v1 v2 v3 v4 s0 x K d bc bs hdp h
set_option maxHeartbeats 4000000 in
set_option maxRecDepth 100000 in
def wX12_gear_78 (v1 : Int32) (v2 : Int32) (v3 : Int32) (v4 : Int32) (x : ab_X) (K : Int32 → ab_X → Prop)  : Prop := wX12_gear_79 v1 v2 v3 v4 0 x K
set_option maxHeartbeats 4000000 in
set_option maxRecDepth 100000 in
theorem sX12_gear_78 (v1 : Int32) (v2 : Int32) (v3 : Int32) (v4 : Int32)  (x : ab_X) (K : Int32 → ab_X → Prop)  (d bc bs : Nat) (hdp : 1 ≤ d)  (h : wX12_gear_78 v1 v2 v3 v4 x K ) : EW MX12_gear 78 [(0, .ref 246), (1, .int v1), (2, .int v2), (3, .int v3), (4, .int v4)] [] (aS x) d bc bs (liI K) := by
  unfold wX12_gear_78 at h
  refine EW_iconst (pc2 := 79) (v := 0) rfl dX12_gear_78 (by decide) ?_
  exact sX12_gear_79 v1 v2 v3 v4 0 x K d bc bs hdp h
set_option maxHeartbeats 4000000 in
set_option maxRecDepth 100000 in
def wX12_gear_43 (v1 : Int32) (v2 : Int32) (v3 : Int32) (v4 : Int32) (s0 : Int32) (x : ab_X) (K : Int32 → ab_X → Prop)  : Prop := (vp_in v1 16 ∧ ((¬ (x.1 279 (Int32.toNatClampNeg v1)) = 2 → wX12_gear_81 v1 v2 v3 v4 s0 x K) ∧ ((x.1 279 (Int32.toNatClampNeg v1)) = 2 → wX12_isIn v2 1 6 x (fun r4 => ((r4 = 0 → wX12_gear_78 v1 v2 v3 v4 x K) ∧ (¬ r4 = 0 → ((¬ v3 = 0 → wX12_gear_78 v1 v2 v3 v4 x K) ∧ (v3 = 0 → ((¬ v4 = 0 → wX12_gear_78 v1 v2 v3 v4 x K) ∧ (v4 = 0 → wX12_gear_79 v1 v2 v3 v4 1 x K))))))))))
set_option maxHeartbeats 4000000 in
set_option maxRecDepth 100000 in
theorem sX12_gear_43 (v1 : Int32) (v2 : Int32) (v3 : Int32) (v4 : Int32) (s0 : Int32)  (x : ab_X) (K : Int32 → ab_X → Prop)  (d bc bs : Nat) (hdp : 1 ≤ d)  (h : wX12_gear_43 v1 v2 v3 v4 s0 x K ) : EW MX12_gear 43 [(0, .ref 246), (1, .int v1), (2, .int v2), (3, .int v3), (4, .int v4)] [.int s0] (aS x) d bc bs (liI K) := by
  unfold wX12_gear_43 at h
  refine EW_istore (pc2 := 45) rfl dX12_gear_43 (by decide) [1, 2, 3, 4, 5, 0] [(0, .ref 246), (1, .int v1), (2, .int v2), (3, .int v3), (4, .int v4), (5, .int s0)] rfl ?_
  refine EW_aload_n (pc2 := 46) rfl dX12_gear_45 0 rfl ?_
  refine AW_getr (r := 279) ⟨gfRX12_107, rfl⟩ (pc2 := 49) rfl dX12_gear_46 q246 rfl ?_
  refine EW_iload_n (pc2 := 50) rfl dX12_gear_49 1 rfl ?_
  obtain ⟨b3, h⟩ := h
  refine AW_iald (pc2 := 51) rfl dX12_gear_50 q279 b3 ?_
  refine EW_iconst (pc2 := 52) (v := 2) rfl dX12_gear_51 (by decide) ?_
  refine EW_icmp_ne (tgt := 81) (pc2 := 55) rfl dX12_gear_52 (by decide) (fun q => ?_) (fun q => ?_)
  · replace h := h.1 q
    exact sX12_gear_81 v1 v2 v3 v4 s0 x K d bc bs hdp h
  · replace h := h.2 q
    refine EW_iload_n (pc2 := 56) rfl dX12_gear_55 2 rfl ?_
    refine EW_iconst (pc2 := 57) (v := 1) rfl dX12_gear_56 (by decide) ?_
    refine EW_bipush (pc2 := 59) (v := 6) rfl dX12_gear_57 (by decide) ?_
    refine AW_invS (M' := MX12_isIn) [.int v2, .int 1, .int 6] (rest := []) mlRX12_307 okX12_isIn (pc2 := 62) rfl dX12_gear_59 rfl rfl (Nat.le_of_ble_eq_true rfl) (Nat.le_of_ble_eq_true rfl) (d' := 0) (by omega) (EW_mono (fun _ _ hr => ?_) (sX12_isIn v2 1 6  x _ _ 0 0 (Nat.le_refl _) h))
    obtain ⟨r4, rfl, rfl, h⟩ := hr
    refine EW_if_eq (tgt := 78) (pc2 := 65) rfl dX12_gear_62 (by decide) (fun q => ?_) (fun q => ?_)
    · replace h := h.1 q
      refine EW_ls [0, 1, 2, 3, 4] rfl ?_
      exact sX12_gear_78 v1 v2 v3 v4 x K d bc bs hdp h
    · replace h := h.2 q
      refine EW_iload_n (pc2 := 66) rfl dX12_gear_65 3 rfl ?_
      refine EW_if_ne (tgt := 78) (pc2 := 69) rfl dX12_gear_66 (by decide) (fun q => ?_) (fun q => ?_)
      · replace h := h.1 q
        refine EW_ls [0, 1, 2, 3, 4] rfl ?_
        exact sX12_gear_78 v1 v2 v3 v4 x K d bc bs hdp h
      · replace h := h.2 q
        refine EW_iload (pc2 := 71) rfl dX12_gear_69 4 rfl ?_
        refine EW_if_ne (tgt := 78) (pc2 := 74) rfl dX12_gear_71 (by decide) (fun q => ?_) (fun q => ?_)
        · replace h := h.1 q
          refine EW_ls [0, 1, 2, 3, 4] rfl ?_
          exact sX12_gear_78 v1 v2 v3 v4 x K d bc bs hdp h
        · replace h := h.2 q
          refine EW_iconst (pc2 := 75) (v := 1) rfl dX12_gear_74 (by decide) ?_
          refine EW_goto (tgt := 79) dX12_gear_75 (by decide) ?_
          refine EW_ls [0, 1, 2, 3, 4] rfl ?_
          exact sX12_gear_79 v1 v2 v3 v4 1 x K d bc bs hdp h
set_option maxHeartbeats 4000000 in
set_option maxRecDepth 100000 in
def wX12_gear_42 (v1 : Int32) (v2 : Int32) (v3 : Int32) (v4 : Int32) (x : ab_X) (K : Int32 → ab_X → Prop)  : Prop := wX12_gear_43 v1 v2 v3 v4 0 x K
set_option maxHeartbeats 4000000 in
set_option maxRecDepth 100000 in
theorem sX12_gear_42 (v1 : Int32) (v2 : Int32) (v3 : Int32) (v4 : Int32)  (x : ab_X) (K : Int32 → ab_X → Prop)  (d bc bs : Nat) (hdp : 1 ≤ d)  (h : wX12_gear_42 v1 v2 v3 v4 x K ) : EW MX12_gear 42 [(0, .ref 246), (1, .int v1), (2, .int v2), (3, .int v3), (4, .int v4)] [] (aS x) d bc bs (liI K) := by
  unfold wX12_gear_42 at h
  refine EW_iconst (pc2 := 43) (v := 0) rfl dX12_gear_42 (by decide) ?_
  exact sX12_gear_43 v1 v2 v3 v4 0 x K d bc bs hdp h
set_option maxHeartbeats 4000000 in
set_option maxRecDepth 100000 in
def wX12_gear (v1 : Int32) (v2 : Int32) (v3 : Int32) (v4 : Int32) (x : ab_X) (K : Int32 → ab_X → Prop) : Prop := wX12_isCrew v1 (wr x 246 0 0) (fun r1 => ((r1 = 0 → K 0 (wr x 246 0 0)) ∧ (¬ r1 = 0 → (vp_in v1 16 ∧ ((¬ ((wr x 246 0 0).1 286 (Int32.toNatClampNeg v1)) = 2 → ((¬ v2 = 0 → wX12_gear_42 v1 v2 v3 v4 (wr x 246 0 0) K) ∧ (v2 = 0 → ((¬ v3 = 0 → wX12_gear_42 v1 v2 v3 v4 (wr x 246 0 0) K) ∧ (v3 = 0 → ((¬ v4 = 0 → wX12_gear_42 v1 v2 v3 v4 (wr x 246 0 0) K) ∧ (v4 = 0 → wX12_gear_43 v1 v2 v3 v4 1 (wr x 246 0 0) K))))))) ∧ (((wr x 246 0 0).1 286 (Int32.toNatClampNeg v1)) = 2 → K 0 (wr x 246 0 0)))))))
set_option maxHeartbeats 4000000 in
set_option maxRecDepth 100000 in
theorem sX12_gear (v1 : Int32) (v2 : Int32) (v3 : Int32) (v4 : Int32)  (x : ab_X) (K : Int32 → ab_X → Prop) (d bc bs : Nat) (hdp : 1 ≤ d) (h : wX12_gear v1 v2 v3 v4 x K) : EW MX12_gear 0 [(0, .ref 246), (1, .int v1), (2, .int v2), (3, .int v3), (4, .int v4)] [] (aS x) d bc bs (liI K) := by
  unfold wX12_gear at h
  refine EW_aload_n (pc2 := 1) rfl dX12_gear_0 0 rfl ?_
  refine EW_iconst (pc2 := 2) (v := 0) rfl dX12_gear_1 (by decide) ?_
  refine AW_puti ⟨gfRX12_297, rfl, rfl⟩ (pc2 := 5) rfl dX12_gear_2 q246 ?_
  refine EW_aload_n (pc2 := 6) rfl dX12_gear_5 0 rfl ?_
  refine EW_iload_n (pc2 := 7) rfl dX12_gear_6 1 rfl ?_
  refine AW_invV (M' := MX12_isCrew) [.int v1] (rest := []) mlRX12_392 okX12_isCrew (pc2 := 10) rfl dX12_gear_7 rfl rfl (Nat.le_of_ble_eq_true rfl) (Nat.le_of_ble_eq_true rfl) (d' := 0) (by omega) q246 ⟨by decide, rfl⟩ (EW_mono (fun _ _ hr => ?_) (sX12_isCrew v1  (wr x 246 0 0) _ _ 0 0 (Nat.le_refl _) h))
  obtain ⟨r1, rfl, rfl, h⟩ := hr
  refine EW_if_eq (tgt := 23) (pc2 := 13) rfl dX12_gear_10 (by decide) (fun q => ?_) (fun q => ?_)
  · replace h := h.1 q
    refine EW_iconst (pc2 := 24) (v := 0) rfl dX12_gear_23 (by decide) ?_
    exact AW_zret rfl isB0 dX12_gear_24 ⟨_, _, rfl, rfl, h⟩
  · replace h := h.2 q
    refine EW_aload_n (pc2 := 14) rfl dX12_gear_13 0 rfl ?_
    refine AW_getr (r := 286) ⟨gfRX12_128, rfl⟩ (pc2 := 17) rfl dX12_gear_14 q246 rfl ?_
    refine EW_iload_n (pc2 := 18) rfl dX12_gear_17 1 rfl ?_
    obtain ⟨b2, h⟩ := h
    refine AW_iald (pc2 := 19) rfl dX12_gear_18 q286 b2 ?_
    refine EW_iconst (pc2 := 20) (v := 2) rfl dX12_gear_19 (by decide) ?_
    refine EW_icmp_ne (tgt := 25) (pc2 := 23) rfl dX12_gear_20 (by decide) (fun q => ?_) (fun q => ?_)
    · replace h := h.1 q
      refine EW_iload_n (pc2 := 26) rfl dX12_gear_25 2 rfl ?_
      refine EW_if_ne (tgt := 42) (pc2 := 29) rfl dX12_gear_26 (by decide) (fun q => ?_) (fun q => ?_)
      · replace h := h.1 q
        exact sX12_gear_42 v1 v2 v3 v4 (wr x 246 0 0) K d bc bs hdp h
      · replace h := h.2 q
        refine EW_iload_n (pc2 := 30) rfl dX12_gear_29 3 rfl ?_
        refine EW_if_ne (tgt := 42) (pc2 := 33) rfl dX12_gear_30 (by decide) (fun q => ?_) (fun q => ?_)
        · replace h := h.1 q
          exact sX12_gear_42 v1 v2 v3 v4 (wr x 246 0 0) K d bc bs hdp h
        · replace h := h.2 q
          refine EW_iload (pc2 := 35) rfl dX12_gear_33 4 rfl ?_
          refine EW_if_ne (tgt := 42) (pc2 := 38) rfl dX12_gear_35 (by decide) (fun q => ?_) (fun q => ?_)
          · replace h := h.1 q
            exact sX12_gear_42 v1 v2 v3 v4 (wr x 246 0 0) K d bc bs hdp h
          · replace h := h.2 q
            refine EW_iconst (pc2 := 39) (v := 1) rfl dX12_gear_38 (by decide) ?_
            refine EW_goto (tgt := 43) dX12_gear_39 (by decide) ?_
            exact sX12_gear_43 v1 v2 v3 v4 1 (wr x 246 0 0) K d bc bs hdp h
    · replace h := h.2 q
      refine EW_iconst (pc2 := 24) (v := 0) rfl dX12_gear_23 (by decide) ?_
      exact AW_zret rfl isB0 dX12_gear_24 ⟨_, _, rfl, rfl, h⟩
abbrev MX12_hasChief : ab_M := (yX12_hasChief, cX12_hasChief, 3, (some .boolean))
theorem dX12_hasChief_0 : decode cX12_hasChief 0 = .ok (.iconst 0, 1) := by decide +kernel
theorem dX12_hasChief_1 : decode cX12_hasChief 1 = .ok (.istore_n 2, 1) := by decide +kernel
theorem dX12_hasChief_2 : decode cX12_hasChief 2 = .ok (.iload_n 2, 1) := by decide +kernel
theorem dX12_hasChief_3 : decode cX12_hasChief 3 = .ok (.aload_n 0, 1) := by decide +kernel
theorem dX12_hasChief_4 : decode cX12_hasChief 4 = .ok (.getfield 366, 3) := by decide +kernel
theorem dX12_hasChief_7 : decode cX12_hasChief 7 = .ok (.if_icmp .ge 41, 3) := by decide +kernel
theorem dX12_hasChief_10 : decode cX12_hasChief 10 = .ok (.aload_n 0, 1) := by decide +kernel
theorem dX12_hasChief_11 : decode cX12_hasChief 11 = .ok (.getfield 107, 3) := by decide +kernel
theorem dX12_hasChief_14 : decode cX12_hasChief 14 = .ok (.iload_n 2, 1) := by decide +kernel
theorem dX12_hasChief_15 : decode cX12_hasChief 15 = .ok (.iaload, 1) := by decide +kernel
theorem dX12_hasChief_16 : decode cX12_hasChief 16 = .ok (.iconst 3, 1) := by decide +kernel
theorem dX12_hasChief_17 : decode cX12_hasChief 17 = .ok (.if_icmp .ne 25, 3) := by decide +kernel
theorem dX12_hasChief_20 : decode cX12_hasChief 20 = .ok (.aload_n 0, 1) := by decide +kernel
theorem dX12_hasChief_21 : decode cX12_hasChief 21 = .ok (.getfield 128, 3) := by decide +kernel
theorem dX12_hasChief_24 : decode cX12_hasChief 24 = .ok (.iload_n 2, 1) := by decide +kernel
theorem dX12_hasChief_25 : decode cX12_hasChief 25 = .ok (.iaload, 1) := by decide +kernel
theorem dX12_hasChief_26 : decode cX12_hasChief 26 = .ok (.iconst 2, 1) := by decide +kernel
theorem dX12_hasChief_27 : decode cX12_hasChief 27 = .ok (.if_icmp .ne 15, 3) := by decide +kernel
theorem dX12_hasChief_30 : decode cX12_hasChief 30 = .ok (.aload_n 0, 1) := by decide +kernel
theorem dX12_hasChief_31 : decode cX12_hasChief 31 = .ok (.getfield 140, 3) := by decide +kernel
theorem dX12_hasChief_34 : decode cX12_hasChief 34 = .ok (.iload_n 2, 1) := by decide +kernel
theorem dX12_hasChief_35 : decode cX12_hasChief 35 = .ok (.iaload, 1) := by decide +kernel
theorem dX12_hasChief_36 : decode cX12_hasChief 36 = .ok (.iload_n 1, 1) := by decide +kernel
theorem dX12_hasChief_37 : decode cX12_hasChief 37 = .ok (.if_icmp .ne 5, 3) := by decide +kernel
theorem dX12_hasChief_40 : decode cX12_hasChief 40 = .ok (.iconst 1, 1) := by decide +kernel
theorem dX12_hasChief_41 : decode cX12_hasChief 41 = .ok (.ireturn, 1) := by decide +kernel
theorem dX12_hasChief_42 : decode cX12_hasChief 42 = .ok (.iinc 2 1, 3) := by decide +kernel
theorem dX12_hasChief_45 : decode cX12_hasChief 45 = .ok (.goto (-43), 3) := by decide +kernel
theorem dX12_hasChief_48 : decode cX12_hasChief 48 = .ok (.iconst 0, 1) := by decide +kernel
theorem dX12_hasChief_49 : decode cX12_hasChief 49 = .ok (.ireturn, 1) := by decide +kernel
theorem okX12_hasChief : ab_okM MX12_hasChief 1 := ⟨by decide, ⟨by decide, by decide⟩, ab_in 2574 (by decide +kernel) (by decide +kernel), ab_in 99 (by decide +kernel) (by decide +kernel), by decide +kernel, by decide⟩
set_option maxHeartbeats 4000000 in
set_option maxRecDepth 100000 in
def lX12_hasChief_2 (v1 : Int32) (x : ab_X) (K : Int32 → Prop)  (L2 : Int32 → Prop) (v2 : Int32) : Prop := (((x.1 246 58) ≤ v2 → K 0) ∧ (¬ (x.1 246 58) ≤ v2 → (vp_in v2 16 ∧ ((¬ (x.1 279 (Int32.toNatClampNeg v2)) = 3 → L2 (v2 + 1)) ∧ ((x.1 279 (Int32.toNatClampNeg v2)) = 3 → (vp_in v2 16 ∧ ((¬ (x.1 286 (Int32.toNatClampNeg v2)) = 2 → L2 (v2 + 1)) ∧ ((x.1 286 (Int32.toNatClampNeg v2)) = 2 → (vp_in v2 16 ∧ ((¬ (x.1 290 (Int32.toNatClampNeg v2)) = v1 → L2 (v2 + 1)) ∧ ((x.1 290 (Int32.toNatClampNeg v2)) = v1 → K 1)))))))))))
set_option maxHeartbeats 4000000 in
set_option maxRecDepth 100000 in
theorem sX12_hasChief_2 (v1 : Int32) (v2 : Int32)  (x : ab_X) (K : Int32 → Prop)  (d bc bs : Nat) (hdp : 0 ≤ d)  (h : Lp1 (lX12_hasChief_2 v1 x K ) v2) : EW MX12_hasChief 2 [(0, .ref 246), (1, .int v1), (2, .int v2)] [] (aS x) d bc bs (liP x K) := by
  refine Lp1.use (P := fun v2 => EW MX12_hasChief 2 [(0, .ref 246), (1, .int v1), (2, .int v2)] [] (aS x) d bc bs (liP x K)) (fun L2 v2 hL2 h => ?_) v2 h
  unfold lX12_hasChief_2 at h
  refine EW_iload_n (pc2 := 3) rfl dX12_hasChief_2 2 rfl ?_
  refine EW_aload_n (pc2 := 4) rfl dX12_hasChief_3 0 rfl ?_
  refine AW_geti ⟨gfRX12_366, rfl⟩ (pc2 := 7) rfl dX12_hasChief_4 q246 ?_
  refine EW_icmp_ge (tgt := 48) (pc2 := 10) rfl dX12_hasChief_7 (by decide) (fun q => ?_) (fun q => ?_)
  · replace h := h.1 q
    refine EW_iconst (pc2 := 49) (v := 0) rfl dX12_hasChief_48 (by decide) ?_
    exact AW_zret rfl isB0 dX12_hasChief_49 ⟨_, rfl, rfl, h⟩
  · replace h := h.2 q
    refine EW_aload_n (pc2 := 11) rfl dX12_hasChief_10 0 rfl ?_
    refine AW_getr (r := 279) ⟨gfRX12_107, rfl⟩ (pc2 := 14) rfl dX12_hasChief_11 q246 rfl ?_
    refine EW_iload_n (pc2 := 15) rfl dX12_hasChief_14 2 rfl ?_
    obtain ⟨b1, h⟩ := h
    refine AW_iald (pc2 := 16) rfl dX12_hasChief_15 q279 b1 ?_
    refine EW_iconst (pc2 := 17) (v := 3) rfl dX12_hasChief_16 (by decide) ?_
    refine EW_icmp_ne (tgt := 42) (pc2 := 20) rfl dX12_hasChief_17 (by decide) (fun q => ?_) (fun q => ?_)
    · replace h := h.1 q
      refine EW_iinc (v2 + 1) (pc2 := 45) rfl dX12_hasChief_42 2 rfl rfl (by decide) [1, 2, 0] [(0, .ref 246), (1, .int v1), (2, .int (v2 + 1))] rfl ?_
      refine EW_goto (tgt := 2) dX12_hasChief_45 (by decide) ?_
      exact hL2 (v2 + 1) h
    · replace h := h.2 q
      refine EW_aload_n (pc2 := 21) rfl dX12_hasChief_20 0 rfl ?_
      refine AW_getr (r := 286) ⟨gfRX12_128, rfl⟩ (pc2 := 24) rfl dX12_hasChief_21 q246 rfl ?_
      refine EW_iload_n (pc2 := 25) rfl dX12_hasChief_24 2 rfl ?_
      obtain ⟨b2, h⟩ := h
      refine AW_iald (pc2 := 26) rfl dX12_hasChief_25 q286 b2 ?_
      refine EW_iconst (pc2 := 27) (v := 2) rfl dX12_hasChief_26 (by decide) ?_
      refine EW_icmp_ne (tgt := 42) (pc2 := 30) rfl dX12_hasChief_27 (by decide) (fun q => ?_) (fun q => ?_)
      · replace h := h.1 q
        refine EW_iinc (v2 + 1) (pc2 := 45) rfl dX12_hasChief_42 2 rfl rfl (by decide) [1, 2, 0] [(0, .ref 246), (1, .int v1), (2, .int (v2 + 1))] rfl ?_
        refine EW_goto (tgt := 2) dX12_hasChief_45 (by decide) ?_
        exact hL2 (v2 + 1) h
      · replace h := h.2 q
        refine EW_aload_n (pc2 := 31) rfl dX12_hasChief_30 0 rfl ?_
        refine AW_getr (r := 290) ⟨gfRX12_140, rfl⟩ (pc2 := 34) rfl dX12_hasChief_31 q246 rfl ?_
        refine EW_iload_n (pc2 := 35) rfl dX12_hasChief_34 2 rfl ?_
        obtain ⟨b3, h⟩ := h
        refine AW_iald (pc2 := 36) rfl dX12_hasChief_35 q290 b3 ?_
        refine EW_iload_n (pc2 := 37) rfl dX12_hasChief_36 1 rfl ?_
        refine EW_icmp_ne (tgt := 42) (pc2 := 40) rfl dX12_hasChief_37 (by decide) (fun q => ?_) (fun q => ?_)
        · replace h := h.1 q
          refine EW_iinc (v2 + 1) (pc2 := 45) rfl dX12_hasChief_42 2 rfl rfl (by decide) [1, 2, 0] [(0, .ref 246), (1, .int v1), (2, .int (v2 + 1))] rfl ?_
          refine EW_goto (tgt := 2) dX12_hasChief_45 (by decide) ?_
          exact hL2 (v2 + 1) h
        · replace h := h.2 q
          refine EW_iconst (pc2 := 41) (v := 1) rfl dX12_hasChief_40 (by decide) ?_
          exact AW_zret rfl isB1 dX12_hasChief_41 ⟨_, rfl, rfl, h⟩
set_option maxHeartbeats 4000000 in
set_option maxRecDepth 100000 in
def wX12_hasChief (v1 : Int32) (x : ab_X) (K : Int32 → Prop) : Prop := Lp1 (lX12_hasChief_2 v1 x K ) 0
set_option maxHeartbeats 4000000 in
set_option maxRecDepth 100000 in
theorem sX12_hasChief (v1 : Int32)  (x : ab_X) (K : Int32 → Prop) (d bc bs : Nat) (hdp : 0 ≤ d) (h : wX12_hasChief v1 x K) : EW MX12_hasChief 0 [(0, .ref 246), (1, .int v1)] [] (aS x) d bc bs (liP x K) := by
  unfold wX12_hasChief at h
  refine EW_iconst (pc2 := 1) (v := 0) rfl dX12_hasChief_0 (by decide) ?_
  refine EW_istore_n (pc2 := 2) rfl dX12_hasChief_1 (by decide) [1, 2, 0] [(0, .ref 246), (1, .int v1), (2, .int 0)] rfl ?_
  exact sX12_hasChief_2 v1 0 x K d bc bs hdp h
