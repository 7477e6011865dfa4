theorem mlRX2_47 : Cond.methodLinkNest RX2 47 yX11_within "CityBrigade" ∈ tables_1.filter ab_isN ∧ Cond.static yX11_within ∈ ab_G := ⟨List.mem_filter.mpr ⟨List.mem_of_getElem? (i := 903) (by decide +kernel), rfl⟩, ab_in 771 (by decide +kernel) (by decide +kernel)⟩
abbrev MX2_fits : ab_M := (yX2_fits, cX2_fits, 5, (some .boolean))
theorem dX2_fits_0 : decode cX2_fits 0 = .ok (.aload_n 0, 1) := by decide +kernel
theorem dX2_fits_1 : decode cX2_fits 1 = .ok (.invokevirtual 43, 3) := by decide +kernel
theorem dX2_fits_4 : decode cX2_fits 4 = .ok (.ifCond .eq 66, 3) := by decide +kernel
theorem dX2_fits_7 : decode cX2_fits 7 = .ok (.aload_n 0, 1) := by decide +kernel
theorem dX2_fits_8 : decode cX2_fits 8 = .ok (.getfield 30, 3) := by decide +kernel
theorem dX2_fits_11 : decode cX2_fits 11 = .ok (.ifCond .ne 15, 3) := by decide +kernel
theorem dX2_fits_14 : decode cX2_fits 14 = .ok (.iload_n 3, 1) := by decide +kernel
theorem dX2_fits_15 : decode cX2_fits 15 = .ok (.ifCond .ne 7, 3) := by decide +kernel
theorem dX2_fits_18 : decode cX2_fits 18 = .ok (.iconst 1, 1) := by decide +kernel
theorem dX2_fits_19 : decode cX2_fits 19 = .ok (.goto 14, 3) := by decide +kernel
theorem dX2_fits_22 : decode cX2_fits 22 = .ok (.iconst 0, 1) := by decide +kernel
theorem dX2_fits_23 : decode cX2_fits 23 = .ok (.goto 10, 3) := by decide +kernel
theorem dX2_fits_26 : decode cX2_fits 26 = .ok (.iload_n 3, 1) := by decide +kernel
theorem dX2_fits_27 : decode cX2_fits 27 = .ok (.iconst 1, 1) := by decide +kernel
theorem dX2_fits_28 : decode cX2_fits 28 = .ok (.bipush 30, 2) := by decide +kernel
theorem dX2_fits_30 : decode cX2_fits 30 = .ok (.invokestatic 47, 3) := by decide +kernel
theorem dX2_fits_33 : decode cX2_fits 33 = .ok (.istore 4, 2) := by decide +kernel
theorem dX2_fits_35 : decode cX2_fits 35 = .ok (.iload_n 1, 1) := by decide +kernel
theorem dX2_fits_36 : decode cX2_fits 36 = .ok (.bipush 100, 2) := by decide +kernel
theorem dX2_fits_38 : decode cX2_fits 38 = .ok (.sipush 3000, 3) := by decide +kernel
theorem dX2_fits_41 : decode cX2_fits 41 = .ok (.invokestatic 47, 3) := by decide +kernel
theorem dX2_fits_44 : decode cX2_fits 44 = .ok (.ifCond .eq 24, 3) := by decide +kernel
theorem dX2_fits_47 : decode cX2_fits 47 = .ok (.iload_n 2, 1) := by decide +kernel
theorem dX2_fits_48 : decode cX2_fits 48 = .ok (.bipush 10, 2) := by decide +kernel
theorem dX2_fits_50 : decode cX2_fits 50 = .ok (.sipush 500, 3) := by decide +kernel
theorem dX2_fits_53 : decode cX2_fits 53 = .ok (.invokestatic 47, 3) := by decide +kernel
theorem dX2_fits_56 : decode cX2_fits 56 = .ok (.ifCond .eq 12, 3) := by decide +kernel
theorem dX2_fits_59 : decode cX2_fits 59 = .ok (.iload 4, 2) := by decide +kernel
theorem dX2_fits_61 : decode cX2_fits 61 = .ok (.ifCond .eq 7, 3) := by decide +kernel
theorem dX2_fits_64 : decode cX2_fits 64 = .ok (.iconst 1, 1) := by decide +kernel
theorem dX2_fits_65 : decode cX2_fits 65 = .ok (.goto 4, 3) := by decide +kernel
theorem dX2_fits_68 : decode cX2_fits 68 = .ok (.iconst 0, 1) := by decide +kernel
theorem dX2_fits_69 : decode cX2_fits 69 = .ok (.ireturn, 1) := by decide +kernel
theorem dX2_fits_70 : decode cX2_fits 70 = .ok (.aload_n 0, 1) := by decide +kernel
theorem dX2_fits_71 : decode cX2_fits 71 = .ok (.getfield 30, 3) := by decide +kernel
theorem dX2_fits_74 : decode cX2_fits 74 = .ok (.iconst 2, 1) := by decide +kernel
theorem dX2_fits_75 : decode cX2_fits 75 = .ok (.if_icmp .ne 16, 3) := by decide +kernel
theorem dX2_fits_78 : decode cX2_fits 78 = .ok (.iload_n 1, 1) := by decide +kernel
theorem dX2_fits_79 : decode cX2_fits 79 = .ok (.iconst 1, 1) := by decide +kernel
theorem dX2_fits_80 : decode cX2_fits 80 = .ok (.bipush 6, 2) := by decide +kernel
theorem dX2_fits_82 : decode cX2_fits 82 = .ok (.invokestatic 47, 3) := by decide +kernel
theorem dX2_fits_85 : decode cX2_fits 85 = .ok (.ifCond .eq 22, 3) := by decide +kernel
theorem dX2_fits_88 : decode cX2_fits 88 = .ok (.goto 7, 3) := by decide +kernel
theorem dX2_fits_91 : decode cX2_fits 91 = .ok (.iload_n 1, 1) := by decide +kernel
theorem dX2_fits_92 : decode cX2_fits 92 = .ok (.ifCond .ne 15, 3) := by decide +kernel
theorem dX2_fits_95 : decode cX2_fits 95 = .ok (.iload_n 2, 1) := by decide +kernel
theorem dX2_fits_96 : decode cX2_fits 96 = .ok (.ifCond .ne 11, 3) := by decide +kernel
theorem dX2_fits_99 : decode cX2_fits 99 = .ok (.iload_n 3, 1) := by decide +kernel
theorem dX2_fits_100 : decode cX2_fits 100 = .ok (.ifCond .ne 7, 3) := by decide +kernel
theorem dX2_fits_103 : decode cX2_fits 103 = .ok (.iconst 1, 1) := by decide +kernel
theorem dX2_fits_104 : decode cX2_fits 104 = .ok (.goto 4, 3) := by decide +kernel
theorem dX2_fits_107 : decode cX2_fits 107 = .ok (.iconst 0, 1) := by decide +kernel
theorem dX2_fits_108 : decode cX2_fits 108 = .ok (.ireturn, 1) := by decide +kernel
theorem okX2_fits : ab_okM MX2_fits 3 := ⟨by decide, ⟨by decide, by decide⟩, ab_in 987 (by decide +kernel) (by decide +kernel), ab_in 94 (by decide +kernel) (by decide +kernel), by decide +kernel, by decide⟩
set_option maxHeartbeats 4000000 in
set_option maxRecDepth 100000 in
theorem sX2_fits_95 (v2 : Int32) (v3 : Int32)  (x : ab_X) (K : Int32 → Prop)  (d bc bs : Nat) (hdp : 1 ≤ d)  (h : wX2_fits_95 v2 v3 x K ) : EW MX2_fits 95 [(2, .int v2), (3, .int v3)] [] (aS x) d bc bs (liP x K) := by
  unfold wX2_fits_95 at h
  refine EW_iload_n (pc2 := 96) rfl dX2_fits_95 0 rfl ?_
  refine EW_if_ne (tgt := 107) (pc2 := 99) rfl dX2_fits_96 (by decide) (fun q => ?_) (fun q => ?_)
  · replace h := h.1 q
    refine EW_iconst (pc2 := 108) (v := 0) rfl dX2_fits_107 (by decide) ?_
    exact AW_zret rfl isB0 dX2_fits_108 ⟨_, rfl, rfl, h⟩
  · replace h := h.2 q
    refine EW_iload_n (pc2 := 100) rfl dX2_fits_99 1 rfl ?_
    refine EW_if_ne (tgt := 107) (pc2 := 103) rfl dX2_fits_100 (by decide) (fun q => ?_) (fun q => ?_)
    · replace h := h.1 q
      refine EW_iconst (pc2 := 108) (v := 0) rfl dX2_fits_107 (by decide) ?_
      exact AW_zret rfl isB0 dX2_fits_108 ⟨_, rfl, rfl, h⟩
    · replace h := h.2 q
      refine EW_iconst (pc2 := 104) (v := 1) rfl dX2_fits_103 (by decide) ?_
      refine EW_goto (tgt := 108) dX2_fits_104 (by decide) ?_
      exact AW_zret rfl isB1 dX2_fits_108 ⟨_, rfl, rfl, h⟩
set_option maxHeartbeats 4000000 in
set_option maxRecDepth 100000 in
theorem sX2_fits_33 (v1 : Int32) (v2 : Int32) (s0 : Int32)  (x : ab_X) (K : Int32 → Prop)  (d bc bs : Nat) (hdp : 1 ≤ d)  (h : wX2_fits_33 v1 v2 s0 x K ) : EW MX2_fits 33 [(1, .int v1), (2, .int v2)] [.int s0] (aS x) d bc bs (liP x K) := by
  unfold wX2_fits_33 at h
  refine EW_istore (pc2 := 35) rfl dX2_fits_33 (by decide) [1, 2, 0] [(1, .int v1), (2, .int v2), (4, .int s0)] rfl ?_
  refine EW_iload_n (pc2 := 36) rfl dX2_fits_35 0 rfl ?_
  refine EW_bipush (pc2 := 38) (v := 100) rfl dX2_fits_36 (by decide) ?_
  refine EW_sipush (pc2 := 41) (v := 3000) rfl dX2_fits_38 (by decide) ?_
  refine AW_invSN (M' := MX11_within) [.int v1, .int 100, .int 3000] (rest := []) mlRX2_47 okX11_within (pc2 := 44) rfl dX2_fits_41 rfl rfl (Nat.le_of_ble_eq_true rfl) (Nat.le_of_ble_eq_true rfl) (d' := 0) (by omega) (EW_mono (fun _ _ hr => ?_) (sX11_within v1 100 3000  x _ _ 0 0 (Nat.le_refl _) h))
  obtain ⟨r4, rfl, rfl, h⟩ := hr
  refine EW_if_eq (tgt := 68) (pc2 := 47) rfl dX2_fits_44 (by decide) (fun q => ?_) (fun q => ?_)
  · replace h := h.1 q
    refine EW_iconst (pc2 := 69) (v := 0) rfl dX2_fits_68 (by decide) ?_
    exact AW_zret rfl isB0 dX2_fits_69 ⟨_, rfl, rfl, h⟩
  · replace h := h.2 q
    refine EW_iload_n (pc2 := 48) rfl dX2_fits_47 1 rfl ?_
    refine EW_bipush (pc2 := 50) (v := 10) rfl dX2_fits_48 (by decide) ?_
    refine EW_sipush (pc2 := 53) (v := 500) rfl dX2_fits_50 (by decide) ?_
    refine AW_invSN (M' := MX11_within) [.int v2, .int 10, .int 500] (rest := []) mlRX2_47 okX11_within (pc2 := 56) rfl dX2_fits_53 rfl rfl (Nat.le_of_ble_eq_true rfl) (Nat.le_of_ble_eq_true rfl) (d' := 0) (by omega) (EW_mono (fun _ _ hr => ?_) (sX11_within v2 10 500  x _ _ 0 0 (Nat.le_refl _) h))
    obtain ⟨r5, rfl, rfl, h⟩ := hr
    refine EW_if_eq (tgt := 68) (pc2 := 59) rfl dX2_fits_56 (by decide) (fun q => ?_) (fun q => ?_)
    · replace h := h.1 q
      refine EW_iconst (pc2 := 69) (v := 0) rfl dX2_fits_68 (by decide) ?_
      exact AW_zret rfl isB0 dX2_fits_69 ⟨_, rfl, rfl, h⟩
    · replace h := h.2 q
      refine EW_iload (pc2 := 61) rfl dX2_fits_59 2 rfl ?_
      refine EW_if_eq (tgt := 68) (pc2 := 64) rfl dX2_fits_61 (by decide) (fun q => ?_) (fun q => ?_)
      · replace h := h.1 q
        refine EW_iconst (pc2 := 69) (v := 0) rfl dX2_fits_68 (by decide) ?_
        exact AW_zret rfl isB0 dX2_fits_69 ⟨_, rfl, rfl, h⟩
      · replace h := h.2 q
        refine EW_iconst (pc2 := 65) (v := 1) rfl dX2_fits_64 (by decide) ?_
        refine EW_goto (tgt := 69) dX2_fits_65 (by decide) ?_
        exact AW_zret rfl isB1 dX2_fits_69 ⟨_, rfl, rfl, h⟩
set_option maxHeartbeats 4000000 in
set_option maxRecDepth 100000 in
theorem sX2_fits (v0 : Nat) (v1 : Int32) (v2 : Int32) (v3 : Int32) (hv0 : isW v0) (x : ab_X) (K : Int32 → Prop) (d bc bs : Nat) (hdp : 1 ≤ d) (h : wX2_fits v0 v1 v2 v3 x K) : EW MX2_fits 0 [(0, .ref v0), (1, .int v1), (2, .int v2), (3, .int v3)] [] (aS x) d bc bs (liP x K) := by
  unfold wX2_fits at h
  refine EW_aload_n (pc2 := 1) rfl dX2_fits_0 0 rfl ?_
  refine AW_invV (M' := MX2_hasHose) [] (rest := []) mlRX2_43 okX2_hasHose (pc2 := 4) rfl dX2_fits_1 rfl rfl (Nat.le_of_ble_eq_true rfl) (Nat.le_of_ble_eq_true rfl) (d' := 0) (by omega) (isW.o hv0) ⟨by decide, rfl⟩ (EW_mono (fun _ _ hr => ?_) (sX2_hasHose v0 hv0 x _ _ 0 0 (Nat.le_refl _) h))
  obtain ⟨r1, rfl, rfl, h⟩ := hr
  refine EW_if_eq (tgt := 70) (pc2 := 7) rfl dX2_fits_4 (by decide) (fun q => ?_) (fun q => ?_)
  · replace h := h.1 q
    refine EW_aload_n (pc2 := 71) rfl dX2_fits_70 0 rfl ?_
    refine AW_geti ⟨gfRX2_30, rfl⟩ (pc2 := 74) rfl dX2_fits_71 (isW.o hv0) ?_
    refine EW_iconst (pc2 := 75) (v := 2) rfl dX2_fits_74 (by decide) ?_
    refine EW_icmp_ne (tgt := 91) (pc2 := 78) rfl dX2_fits_75 (by decide) (fun q => ?_) (fun q => ?_)
    · replace h := h.1 q
      refine EW_iload_n (pc2 := 92) rfl dX2_fits_91 1 rfl ?_
      refine EW_if_ne (tgt := 107) (pc2 := 95) rfl dX2_fits_92 (by decide) (fun q => ?_) (fun q => ?_)
      · replace h := h.1 q
        refine EW_iconst (pc2 := 108) (v := 0) rfl dX2_fits_107 (by decide) ?_
        exact AW_zret rfl isB0 dX2_fits_108 ⟨_, rfl, rfl, h⟩
      · replace h := h.2 q
        refine EW_ls [2, 3] rfl ?_
        exact sX2_fits_95 v2 v3 x K d bc bs hdp h
    · replace h := h.2 q
      refine EW_iload_n (pc2 := 79) rfl dX2_fits_78 1 rfl ?_
      refine EW_iconst (pc2 := 80) (v := 1) rfl dX2_fits_79 (by decide) ?_
      refine EW_bipush (pc2 := 82) (v := 6) rfl dX2_fits_80 (by decide) ?_
      refine AW_invSN (M' := MX11_within) [.int v1, .int 1, .int 6] (rest := []) mlRX2_47 okX11_within (pc2 := 85) rfl dX2_fits_82 rfl rfl (Nat.le_of_ble_eq_true rfl) (Nat.le_of_ble_eq_true rfl) (d' := 0) (by omega) (EW_mono (fun _ _ hr => ?_) (sX11_within v1 1 6  x _ _ 0 0 (Nat.le_refl _) h))
      obtain ⟨r2, rfl, rfl, h⟩ := hr
      refine EW_if_eq (tgt := 107) (pc2 := 88) rfl dX2_fits_85 (by decide) (fun q => ?_) (fun q => ?_)
      · replace h := h.1 q
        refine EW_iconst (pc2 := 108) (v := 0) rfl dX2_fits_107 (by decide) ?_
        exact AW_zret rfl isB0 dX2_fits_108 ⟨_, rfl, rfl, h⟩
      · replace h := h.2 q
        refine EW_goto (tgt := 95) dX2_fits_88 (by decide) ?_
        refine EW_ls [2, 3] rfl ?_
        exact sX2_fits_95 v2 v3 x K d bc bs hdp h
  · replace h := h.2 q
    refine EW_aload_n (pc2 := 8) rfl dX2_fits_7 0 rfl ?_
    refine AW_geti ⟨gfRX2_30, rfl⟩ (pc2 := 11) rfl dX2_fits_8 (isW.o hv0) ?_
    refine EW_if_ne (tgt := 26) (pc2 := 14) rfl dX2_fits_11 (by decide) (fun q => ?_) (fun q => ?_)
    · replace h := h.1 q
      refine EW_iload_n (pc2 := 27) rfl dX2_fits_26 3 rfl ?_
      refine EW_iconst (pc2 := 28) (v := 1) rfl dX2_fits_27 (by decide) ?_
      refine EW_bipush (pc2 := 30) (v := 30) rfl dX2_fits_28 (by decide) ?_
      refine AW_invSN (M' := MX11_within) [.int v3, .int 1, .int 30] (rest := []) mlRX2_47 okX11_within (pc2 := 33) rfl dX2_fits_30 rfl rfl (Nat.le_of_ble_eq_true rfl) (Nat.le_of_ble_eq_true rfl) (d' := 0) (by omega) (EW_mono (fun _ _ hr => ?_) (sX11_within v3 1 30  x _ _ 0 0 (Nat.le_refl _) h))
      obtain ⟨r3, rfl, rfl, h⟩ := hr
      refine EW_ls [1, 2] rfl ?_
      exact sX2_fits_33 v1 v2 r3 x K d bc bs hdp h
    · replace h := h.2 q
      refine EW_iload_n (pc2 := 15) rfl dX2_fits_14 3 rfl ?_
      refine EW_if_ne (tgt := 22) (pc2 := 18) rfl dX2_fits_15 (by decide) (fun q => ?_) (fun q => ?_)
      · replace h := h.1 q
        refine EW_iconst (pc2 := 23) (v := 0) rfl dX2_fits_22 (by decide) ?_
        refine EW_goto (tgt := 33) dX2_fits_23 (by decide) ?_
        refine EW_ls [1, 2] rfl ?_
        exact sX2_fits_33 v1 v2 0 x K d bc bs hdp h
      · replace h := h.2 q
        refine EW_iconst (pc2 := 19) (v := 1) rfl dX2_fits_18 (by decide) ?_
        refine EW_goto (tgt := 33) dX2_fits_19 (by decide) ?_
        refine EW_ls [1, 2] rfl ?_
        exact sX2_fits_33 v1 v2 1 x K d bc bs hdp h
theorem mlRX11_256 : Cond.methodLink RX11 256 yX0_has ∈ ab_G ∧ Cond.instanceMethod yX0_has ∈ ab_G ∧ Cond.selects RX0 yX0_has yX0_has ∈ ab_G := ⟨ab_in 979 (by decide +kernel) (by decide +kernel), ab_in 980 (by decide +kernel) (by decide +kernel), ab_in 981 (by decide +kernel) (by decide +kernel)⟩
theorem gfRX11_257 : ab_L RX11 257 2 8 := ⟨by decide, by decide, ab_in 430 (by decide +kernel) (by decide +kernel)⟩
theorem mlRX11_260 : Cond.methodLink RX11 260 yX2_fits ∈ ab_G ∧ Cond.instanceMethod yX2_fits ∈ ab_G ∧ Cond.selects RX2 yX2_fits yX2_fits ∈ ab_G := ⟨ab_in 984 (by decide +kernel) (by decide +kernel), ab_in 985 (by decide +kernel) (by decide +kernel), ab_in 986 (by decide +kernel) (by decide +kernel)⟩
theorem gfRX11_263 : ab_L RX11 263 2 5 := ⟨by decide, by decide, ab_in 420 (by decide +kernel) (by decide +kernel)⟩
theorem gfRX11_266 : ab_L RX11 266 2 6 := ⟨by decide, by decide, ab_in 423 (by decide +kernel) (by decide +kernel)⟩
theorem gfRX11_269 : ab_L RX11 269 2 7 := ⟨by decide, by decide, ab_in 426 (by decide +kernel) (by decide +kernel)⟩
abbrev MX11_gear : ab_M := (yX11_gear, cX11_gear, 6, (some .boolean))
theorem dX11_gear_0 : decode cX11_gear 0 = .ok (.aload_n 0, 1) := by decide +kernel
theorem dX11_gear_1 : decode cX11_gear 1 = .ok (.getfield 30, 3) := by decide +kernel
theorem dX11_gear_4 : decode cX11_gear 4 = .ok (.iload_n 1, 1) := by decide +kernel
theorem dX11_gear_5 : decode cX11_gear 5 = .ok (.invokevirtual 256, 3) := by decide +kernel
theorem dX11_gear_8 : decode cX11_gear 8 = .ok (.ifCond .ne 5, 3) := by decide +kernel
theorem dX11_gear_11 : decode cX11_gear 11 = .ok (.iconst 0, 1) := by decide +kernel
theorem dX11_gear_12 : decode cX11_gear 12 = .ok (.ireturn, 1) := by decide +kernel
theorem dX11_gear_13 : decode cX11_gear 13 = .ok (.aload_n 0, 1) := by decide +kernel
theorem dX11_gear_14 : decode cX11_gear 14 = .ok (.getfield 30, 3) := by decide +kernel
theorem dX11_gear_17 : decode cX11_gear 17 = .ok (.getfield 241, 3) := by decide +kernel
theorem dX11_gear_20 : decode cX11_gear 20 = .ok (.iload_n 1, 1) := by decide +kernel
theorem dX11_gear_21 : decode cX11_gear 21 = .ok (.aaload, 1) := by decide +kernel
theorem dX11_gear_22 : decode cX11_gear 22 = .ok (.astore 5, 2) := by decide +kernel
theorem dX11_gear_24 : decode cX11_gear 24 = .ok (.aload 5, 2) := by decide +kernel
theorem dX11_gear_26 : decode cX11_gear 26 = .ok (.getfield 257, 3) := by decide +kernel
theorem dX11_gear_29 : decode cX11_gear 29 = .ok (.iconst 2, 1) := by decide +kernel
theorem dX11_gear_30 : decode cX11_gear 30 = .ok (.if_icmp .eq 15, 3) := by decide +kernel
theorem dX11_gear_33 : decode cX11_gear 33 = .ok (.aload 5, 2) := by decide +kernel
theorem dX11_gear_35 : decode cX11_gear 35 = .ok (.iload_n 2, 1) := by decide +kernel
theorem dX11_gear_36 : decode cX11_gear 36 = .ok (.iload_n 3, 1) := by decide +kernel
theorem dX11_gear_37 : decode cX11_gear 37 = .ok (.iload 4, 2) := by decide +kernel
theorem dX11_gear_39 : decode cX11_gear 39 = .ok (.invokevirtual 260, 3) := by decide +kernel
theorem dX11_gear_42 : decode cX11_gear 42 = .ok (.ifCond .ne 5, 3) := by decide +kernel
theorem dX11_gear_45 : decode cX11_gear 45 = .ok (.iconst 0, 1) := by decide +kernel
theorem dX11_gear_46 : decode cX11_gear 46 = .ok (.ireturn, 1) := by decide +kernel
theorem dX11_gear_47 : decode cX11_gear 47 = .ok (.aload 5, 2) := by decide +kernel
theorem dX11_gear_49 : decode cX11_gear 49 = .ok (.iload_n 2, 1) := by decide +kernel
theorem dX11_gear_50 : decode cX11_gear 50 = .ok (.putfield 263, 3) := by decide +kernel
theorem dX11_gear_53 : decode cX11_gear 53 = .ok (.aload 5, 2) := by decide +kernel
theorem dX11_gear_55 : decode cX11_gear 55 = .ok (.iload_n 3, 1) := by decide +kernel
theorem dX11_gear_56 : decode cX11_gear 56 = .ok (.putfield 266, 3) := by decide +kernel
theorem dX11_gear_59 : decode cX11_gear 59 = .ok (.aload 5, 2) := by decide +kernel
theorem dX11_gear_61 : decode cX11_gear 61 = .ok (.iload 4, 2) := by decide +kernel
theorem dX11_gear_63 : decode cX11_gear 63 = .ok (.putfield 269, 3) := by decide +kernel
theorem dX11_gear_66 : decode cX11_gear 66 = .ok (.iconst 1, 1) := by decide +kernel
theorem dX11_gear_67 : decode cX11_gear 67 = .ok (.ireturn, 1) := by decide +kernel
theorem okX11_gear : ab_okM MX11_gear 4 := ⟨by decide, ⟨by decide, by decide⟩, ab_in 978 (by decide +kernel) (by decide +kernel), ab_in 86 (by decide +kernel) (by decide +kernel), by decide +kernel, by decide⟩
set_option maxHeartbeats 4000000 in
set_option maxRecDepth 100000 in
theorem sX11_gear (v1 : Int32) (v2 : Int32) (v3 : Int32) (v4 : Int32)  (x : ab_X) (K : Int32 → ab_X → Prop) (d bc bs : Nat) (hdp : 2 ≤ d) (h : wX11_gear v1 v2 v3 v4 x K) : EW MX11_gear 0 [(0, .ref 0), (1, .int v1), (2, .int v2), (3, .int v3), (4, .int v4)] [] (aS x) d bc bs (liI K) := by
  unfold wX11_gear at h
  refine EW_aload_n (pc2 := 1) rfl dX11_gear_0 0 rfl ?_
  refine AW_getr (r := 66) ⟨gfRX11_30, rfl⟩ (pc2 := 4) rfl dX11_gear_1 q0 rfl ?_
  refine EW_iload_n (pc2 := 5) rfl dX11_gear_4 1 rfl ?_
  refine AW_invV (M' := MX0_has) [.int v1] (rest := []) mlRX11_256 okX0_has (pc2 := 8) rfl dX11_gear_5 rfl rfl (Nat.le_of_ble_eq_true rfl) (Nat.le_of_ble_eq_true rfl) (d' := 1) (by omega) q66 ⟨by decide, rfl⟩ (EW_mono (fun _ _ hr => ?_) (sX0_has v1  x _ _ 0 0 (Nat.le_refl _) h))
  obtain ⟨r1, rfl, rfl, h⟩ := hr
  refine EW_if_ne (tgt := 13) (pc2 := 11) rfl dX11_gear_8 (by decide) (fun q => ?_) (fun q => ?_)
  · replace h := h.1 q
    refine EW_aload_n (pc2 := 14) rfl dX11_gear_13 0 rfl ?_
    refine AW_getr (r := 66) ⟨gfRX11_30, rfl⟩ (pc2 := 17) rfl dX11_gear_14 q0 rfl ?_
    refine AW_getr (r := 67) ⟨gfRX11_241, rfl⟩ (pc2 := 20) rfl dX11_gear_17 q66 rfl ?_
    refine EW_iload_n (pc2 := 21) rfl dX11_gear_20 1 rfl ?_
    obtain ⟨b2, h⟩ := h
    refine AW_aald6 (pc2 := 22) rfl dX11_gear_21 b2 ?_
    refine EW_astore (pc2 := 24) rfl dX11_gear_22 (by decide) [1, 2, 3, 4, 5, 0] [(0, .ref 0), (1, .int v1), (2, .int v2), (3, .int v3), (4, .int v4), (5, .ref (82 + Int32.toNatClampNeg v1))] rfl ?_
    refine EW_aload (pc2 := 26) rfl dX11_gear_24 5 rfl ?_
    refine AW_geti ⟨gfRX11_257, rfl⟩ (pc2 := 29) rfl dX11_gear_26 (isW.o (isW_of b2)) ?_
    refine EW_iconst (pc2 := 30) (v := 2) rfl dX11_gear_29 (by decide) ?_
    refine EW_icmp_eq (tgt := 45) (pc2 := 33) rfl dX11_gear_30 (by decide) (fun q => ?_) (fun q => ?_)
    · replace h := h.1 q
      refine EW_iconst (pc2 := 46) (v := 0) rfl dX11_gear_45 (by decide) ?_
      exact AW_zret rfl isB0 dX11_gear_46 ⟨_, _, rfl, rfl, h⟩
    · replace h := h.2 q
      refine EW_aload (pc2 := 35) rfl dX11_gear_33 5 rfl ?_
      refine EW_iload_n (pc2 := 36) rfl dX11_gear_35 2 rfl ?_
      refine EW_iload_n (pc2 := 37) rfl dX11_gear_36 3 rfl ?_
      refine EW_iload (pc2 := 39) rfl dX11_gear_37 4 rfl ?_
      refine AW_invV (M' := MX2_fits) [.int v2, .int v3, .int v4] (rest := []) mlRX11_260 okX2_fits (pc2 := 42) rfl dX11_gear_39 rfl rfl (Nat.le_of_ble_eq_true rfl) (Nat.le_of_ble_eq_true rfl) (d' := 1) (by omega) (isW.o (isW_of b2)) ⟨by decide, rfl⟩ (EW_mono (fun _ _ hr => ?_) (sX2_fits (82 + Int32.toNatClampNeg v1) v2 v3 v4 (isW_of b2) x _ _ 0 0 (Nat.le_refl _) h))
      obtain ⟨r3, rfl, rfl, h⟩ := hr
      refine EW_if_ne (tgt := 47) (pc2 := 45) rfl dX11_gear_42 (by decide) (fun q => ?_) (fun q => ?_)
      · replace h := h.1 q
        refine EW_aload (pc2 := 49) rfl dX11_gear_47 5 rfl ?_
        refine EW_iload_n (pc2 := 50) rfl dX11_gear_49 2 rfl ?_
        refine AW_puti ⟨gfRX11_263, rfl, rfl⟩ (pc2 := 53) rfl dX11_gear_50 (isW.o (isW_of b2)) ?_
        refine EW_aload (pc2 := 55) rfl dX11_gear_53 5 rfl ?_
        refine EW_iload_n (pc2 := 56) rfl dX11_gear_55 3 rfl ?_
        refine AW_puti ⟨gfRX11_266, rfl, rfl⟩ (pc2 := 59) rfl dX11_gear_56 (isW.o (isW_of b2)) ?_
        refine EW_aload (pc2 := 61) rfl dX11_gear_59 5 rfl ?_
        refine EW_iload (pc2 := 63) rfl dX11_gear_61 4 rfl ?_
        refine AW_puti ⟨gfRX11_269, rfl, rfl⟩ (pc2 := 66) rfl dX11_gear_63 (isW.o (isW_of b2)) ?_
        refine EW_iconst (pc2 := 67) (v := 1) rfl dX11_gear_66 (by decide) ?_
        exact AW_zret rfl isB1 dX11_gear_67 ⟨_, _, rfl, rfl, h⟩
      · replace h := h.2 q
        refine EW_iconst (pc2 := 46) (v := 0) rfl dX11_gear_45 (by decide) ?_
        exact AW_zret rfl isB0 dX11_gear_46 ⟨_, _, rfl, rfl, h⟩
  · replace h := h.2 q
    refine EW_iconst (pc2 := 12) (v := 0) rfl dX11_gear_11 (by decide) ?_
    exact AW_zret rfl isB0 dX11_gear_12 ⟨_, _, rfl, rfl, h⟩
theorem mlRX11_234 : Cond.methodLink RX11 234 yX10_addHead ∈ ab_G ∧ Cond.instanceMethod yX10_addHead ∈ ab_G ∧ Cond.selects RX10 yX10_addHead yX10_addHead ∈ ab_G := ⟨ab_in 955 (by decide +kernel) (by decide +kernel), ab_in 956 (by decide +kernel) (by decide +kernel), ab_in 957 (by decide +kernel) (by decide +kernel)⟩
abbrev MX11_head : ab_M := (yX11_head, cX11_head, 3, (some .int))
theorem dX11_head_0 : decode cX11_head 0 = .ok (.iload_n 1, 1) := by decide +kernel
theorem dX11_head_1 : decode cX11_head 1 = .ok (.invokestatic 70, 3) := by decide +kernel
theorem dX11_head_4 : decode cX11_head 4 = .ok (.ifCond .eq 29, 3) := by decide +kernel
theorem dX11_head_7 : decode cX11_head 7 = .ok (.iload_n 2, 1) := by decide +kernel
theorem dX11_head_8 : decode cX11_head 8 = .ok (.aload_n 0, 1) := by decide +kernel
theorem dX11_head_9 : decode cX11_head 9 = .ok (.getfield 21, 3) := by decide +kernel
theorem dX11_head_12 : decode cX11_head 12 = .ok (.getfield 231, 3) := by decide +kernel
theorem dX11_head_15 : decode cX11_head 15 = .ok (.invokestatic 86, 3) := by decide +kernel
theorem dX11_head_18 : decode cX11_head 18 = .ok (.ifCond .eq 15, 3) := by decide +kernel
theorem dX11_head_21 : decode cX11_head 21 = .ok (.aload_n 0, 1) := by decide +kernel
theorem dX11_head_22 : decode cX11_head 22 = .ok (.getfield 21, 3) := by decide +kernel
theorem dX11_head_25 : decode cX11_head 25 = .ok (.iload_n 1, 1) := by decide +kernel
theorem dX11_head_26 : decode cX11_head 26 = .ok (.iload_n 2, 1) := by decide +kernel
theorem dX11_head_27 : decode cX11_head 27 = .ok (.invokevirtual 234, 3) := by decide +kernel
theorem dX11_head_30 : decode cX11_head 30 = .ok (.goto 4, 3) := by decide +kernel
theorem dX11_head_33 : decode cX11_head 33 = .ok (.iconst (-1), 1) := by decide +kernel
theorem dX11_head_34 : decode cX11_head 34 = .ok (.ireturn, 1) := by decide +kernel
theorem okX11_head : ab_okM MX11_head 2 := ⟨by decide, ⟨by decide, by decide⟩, ab_in 954 (by decide +kernel) (by decide +kernel), ab_in 86 (by decide +kernel) (by decide +kernel), by decide +kernel, by decide⟩
set_option maxHeartbeats 4000000 in
set_option maxRecDepth 100000 in
theorem sX11_head (v1 : Int32) (v2 : Int32)  (x : ab_X) (K : Int32 → ab_X → Prop) (d bc bs : Nat) (hdp : 1 ≤ d) (h : wX11_head v1 v2 x K) : EW MX11_head 0 [(0, .ref 0), (1, .int v1), (2, .int v2)] [] (aS x) d bc bs (liI K) := by
  unfold wX11_head at h
  refine EW_iload_n (pc2 := 1) rfl dX11_head_0 1 rfl ?_
  refine AW_invS (M' := MX11_isCorner) [.int v1] (rest := []) mlRX11_70 okX11_isCorner (pc2 := 4) rfl dX11_head_1 rfl rfl (Nat.le_of_ble_eq_true rfl) (Nat.le_of_ble_eq_true rfl) (d' := 0) (by omega) (EW_mono (fun _ _ hr => ?_) (sX11_isCorner v1  x _ _ 0 0 (Nat.le_refl _) h))
  obtain ⟨r1, rfl, rfl, h⟩ := hr
  refine EW_if_eq (tgt := 33) (pc2 := 7) rfl dX11_head_4 (by decide) (fun q => ?_) (fun q => ?_)
  · replace h := h.1 q
    refine EW_iconst (pc2 := 34) (v := (-1)) rfl dX11_head_33 (by decide) ?_
    exact AW_iret rfl dX11_head_34 ⟨_, _, rfl, rfl, h⟩
  · replace h := h.2 q
    refine EW_iload_n (pc2 := 8) rfl dX11_head_7 2 rfl ?_
    refine EW_aload_n (pc2 := 9) rfl dX11_head_8 0 rfl ?_
    refine AW_getr (r := 9) ⟨gfRX11_21, rfl⟩ (pc2 := 12) rfl dX11_head_9 q0 rfl ?_
    refine AW_geti ⟨gfRX11_231, rfl⟩ (pc2 := 15) rfl dX11_head_12 q9 ?_
    refine AW_invS (M' := MX11_below) [.int v2, .int (x.1 9 6)] (rest := []) mlRX11_86 okX11_below (pc2 := 18) rfl dX11_head_15 rfl rfl (Nat.le_of_ble_eq_true rfl) (Nat.le_of_ble_eq_true rfl) (d' := 0) (by omega) (EW_mono (fun _ _ hr => ?_) (sX11_below v2 (x.1 9 6)  x _ _ 0 0 (Nat.le_refl _) h))
    obtain ⟨r2, rfl, rfl, h⟩ := hr
    refine EW_if_eq (tgt := 33) (pc2 := 21) rfl dX11_head_18 (by decide) (fun q => ?_) (fun q => ?_)
    · replace h := h.1 q
      refine EW_iconst (pc2 := 34) (v := (-1)) rfl dX11_head_33 (by decide) ?_
      exact AW_iret rfl dX11_head_34 ⟨_, _, rfl, rfl, h⟩
    · replace h := h.2 q
      refine EW_aload_n (pc2 := 22) rfl dX11_head_21 0 rfl ?_
      refine AW_getr (r := 9) ⟨gfRX11_21, rfl⟩ (pc2 := 25) rfl dX11_head_22 q0 rfl ?_
      refine EW_iload_n (pc2 := 26) rfl dX11_head_25 1 rfl ?_
      refine EW_iload_n (pc2 := 27) rfl dX11_head_26 2 rfl ?_
      refine AW_invV (M' := MX10_addHead) [.int v1, .int v2] (rest := []) mlRX11_234 okX10_addHead (pc2 := 30) rfl dX11_head_27 rfl rfl (Nat.le_of_ble_eq_true rfl) (Nat.le_of_ble_eq_true rfl) (d' := 0) (by omega) q9 ⟨by decide, rfl⟩ (EW_mono (fun _ _ hr => ?_) (sX10_addHead v1 v2  x _ _ 0 0 (Nat.le_refl _) h))
      obtain ⟨r3, x4, rfl, rfl, h⟩ := hr
      refine EW_goto (tgt := 34) dX11_head_30 (by decide) ?_
      exact AW_iret rfl dX11_head_34 ⟨_, _, rfl, rfl, h⟩
theorem gfRX11_272 : ab_L RX11 272 2 1 := ⟨by decide, by decide, ab_in 412 (by decide +kernel) (by decide +kernel)⟩
theorem mlRX11_275 : Cond.methodLink RX11 275 yX2_rest ∈ ab_G ∧ Cond.instanceMethod yX2_rest ∈ ab_G ∧ Cond.selects RX2 yX2_rest yX2_rest ∈ ab_G := ⟨ab_in 993 (by decide +kernel) (by decide +kernel), ab_in 994 (by decide +kernel) (by decide +kernel), ab_in 995 (by decide +kernel) (by decide +kernel)⟩
abbrev MX11_heal : ab_M := (yX11_heal, cX11_heal, 2, (some .boolean))
theorem dX11_heal_0 : decode cX11_heal 0 = .ok (.aload_n 0, 1) := by decide +kernel
theorem dX11_heal_1 : decode cX11_heal 1 = .ok (.getfield 30, 3) := by decide +kernel
theorem dX11_heal_4 : decode cX11_heal 4 = .ok (.iload_n 1, 1) := by decide +kernel
theorem dX11_heal_5 : decode cX11_heal 5 = .ok (.invokevirtual 256, 3) := by decide +kernel
theorem dX11_heal_8 : decode cX11_heal 8 = .ok (.ifCond .eq 19, 3) := by decide +kernel
theorem dX11_heal_11 : decode cX11_heal 11 = .ok (.aload_n 0, 1) := by decide +kernel
theorem dX11_heal_12 : decode cX11_heal 12 = .ok (.getfield 30, 3) := by decide +kernel
theorem dX11_heal_15 : decode cX11_heal 15 = .ok (.getfield 241, 3) := by decide +kernel
theorem dX11_heal_18 : decode cX11_heal 18 = .ok (.iload_n 1, 1) := by decide +kernel
theorem dX11_heal_19 : decode cX11_heal 19 = .ok (.aaload, 1) := by decide +kernel
theorem dX11_heal_20 : decode cX11_heal 20 = .ok (.getfield 257, 3) := by decide +kernel
theorem dX11_heal_23 : decode cX11_heal 23 = .ok (.iconst 4, 1) := by decide +kernel
theorem dX11_heal_24 : decode cX11_heal 24 = .ok (.if_icmp .eq 5, 3) := by decide +kernel
theorem dX11_heal_27 : decode cX11_heal 27 = .ok (.iconst 0, 1) := by decide +kernel
theorem dX11_heal_28 : decode cX11_heal 28 = .ok (.ireturn, 1) := by decide +kernel
theorem dX11_heal_29 : decode cX11_heal 29 = .ok (.aload_n 0, 1) := by decide +kernel
theorem dX11_heal_30 : decode cX11_heal 30 = .ok (.getfield 30, 3) := by decide +kernel
theorem dX11_heal_33 : decode cX11_heal 33 = .ok (.getfield 241, 3) := by decide +kernel
theorem dX11_heal_36 : decode cX11_heal 36 = .ok (.iload_n 1, 1) := by decide +kernel
theorem dX11_heal_37 : decode cX11_heal 37 = .ok (.aaload, 1) := by decide +kernel
theorem dX11_heal_38 : decode cX11_heal 38 = .ok (.aload_n 0, 1) := by decide +kernel
theorem dX11_heal_39 : decode cX11_heal 39 = .ok (.getfield 30, 3) := by decide +kernel
theorem dX11_heal_42 : decode cX11_heal 42 = .ok (.getfield 241, 3) := by decide +kernel
theorem dX11_heal_45 : decode cX11_heal 45 = .ok (.iload_n 1, 1) := by decide +kernel
theorem dX11_heal_46 : decode cX11_heal 46 = .ok (.aaload, 1) := by decide +kernel
theorem dX11_heal_47 : decode cX11_heal 47 = .ok (.getfield 272, 3) := by decide +kernel
theorem dX11_heal_50 : decode cX11_heal 50 = .ok (.invokevirtual 275, 3) := by decide +kernel
theorem dX11_heal_53 : decode cX11_heal 53 = .ok (.iconst 1, 1) := by decide +kernel
theorem dX11_heal_54 : decode cX11_heal 54 = .ok (.ireturn, 1) := by decide +kernel
theorem okX11_heal : ab_okM MX11_heal 1 := ⟨by decide, ⟨by decide, by decide⟩, ab_in 992 (by decide +kernel) (by decide +kernel), ab_in 86 (by decide +kernel) (by decide +kernel), by decide +kernel, by decide⟩
set_option maxHeartbeats 4000000 in
set_option maxRecDepth 100000 in
theorem sX11_heal (v1 : Int32)  (x : ab_X) (K : Int32 → ab_X → Prop) (d bc bs : Nat) (hdp : 2 ≤ d) (h : wX11_heal v1 x K) : EW MX11_heal 0 [(0, .ref 0), (1, .int v1)] [] (aS x) d bc bs (liI K) := by
  unfold wX11_heal at h
  refine EW_aload_n (pc2 := 1) rfl dX11_heal_0 0 rfl ?_
  refine AW_getr (r := 66) ⟨gfRX11_30, rfl⟩ (pc2 := 4) rfl dX11_heal_1 q0 rfl ?_
  refine EW_iload_n (pc2 := 5) rfl dX11_heal_4 1 rfl ?_
  refine AW_invV (M' := MX0_has) [.int v1] (rest := []) mlRX11_256 okX0_has (pc2 := 8) rfl dX11_heal_5 rfl rfl (Nat.le_of_ble_eq_true rfl) (Nat.le_of_ble_eq_true rfl) (d' := 1) (by omega) q66 ⟨by decide, rfl⟩ (EW_mono (fun _ _ hr => ?_) (sX0_has v1  x _ _ 0 0 (Nat.le_refl _) h))
  obtain ⟨r1, rfl, rfl, h⟩ := hr
  refine EW_if_eq (tgt := 27) (pc2 := 11) rfl dX11_heal_8 (by decide) (fun q => ?_) (fun q => ?_)
  · replace h := h.1 q
    refine EW_iconst (pc2 := 28) (v := 0) rfl dX11_heal_27 (by decide) ?_
    exact AW_zret rfl isB0 dX11_heal_28 ⟨_, _, rfl, rfl, h⟩
  · replace h := h.2 q
    refine EW_aload_n (pc2 := 12) rfl dX11_heal_11 0 rfl ?_
    refine AW_getr (r := 66) ⟨gfRX11_30, rfl⟩ (pc2 := 15) rfl dX11_heal_12 q0 rfl ?_
    refine AW_getr (r := 67) ⟨gfRX11_241, rfl⟩ (pc2 := 18) rfl dX11_heal_15 q66 rfl ?_
    refine EW_iload_n (pc2 := 19) rfl dX11_heal_18 1 rfl ?_
    obtain ⟨b2, h⟩ := h
    refine AW_aald6 (pc2 := 20) rfl dX11_heal_19 b2 ?_
    refine AW_geti ⟨gfRX11_257, rfl⟩ (pc2 := 23) rfl dX11_heal_20 (isW.o (isW_of b2)) ?_
    refine EW_iconst (pc2 := 24) (v := 4) rfl dX11_heal_23 (by decide) ?_
    refine EW_icmp_eq (tgt := 29) (pc2 := 27) rfl dX11_heal_24 (by decide) (fun q => ?_) (fun q => ?_)
    · replace h := h.1 q
      refine EW_aload_n (pc2 := 30) rfl dX11_heal_29 0 rfl ?_
      refine AW_getr (r := 66) ⟨gfRX11_30, rfl⟩ (pc2 := 33) rfl dX11_heal_30 q0 rfl ?_
      refine AW_getr (r := 67) ⟨gfRX11_241, rfl⟩ (pc2 := 36) rfl dX11_heal_33 q66 rfl ?_
      refine EW_iload_n (pc2 := 37) rfl dX11_heal_36 1 rfl ?_
      obtain ⟨b3, h⟩ := h
      refine AW_aald6 (pc2 := 38) rfl dX11_heal_37 b3 ?_
      refine EW_aload_n (pc2 := 39) rfl dX11_heal_38 0 rfl ?_
      refine AW_getr (r := 66) ⟨gfRX11_30, rfl⟩ (pc2 := 42) rfl dX11_heal_39 q0 rfl ?_
      refine AW_getr (r := 67) ⟨gfRX11_241, rfl⟩ (pc2 := 45) rfl dX11_heal_42 q66 rfl ?_
      refine EW_iload_n (pc2 := 46) rfl dX11_heal_45 1 rfl ?_
      obtain ⟨b4, h⟩ := h
      refine AW_aald6 (pc2 := 47) rfl dX11_heal_46 b4 ?_
      refine AW_geti ⟨gfRX11_272, rfl⟩ (pc2 := 50) rfl dX11_heal_47 (isW.o (isW_of b4)) ?_
      refine AW_invV (M' := MX2_rest) [.int (x.1 (82 + Int32.toNatClampNeg v1) 1)] (rest := []) mlRX11_275 okX2_rest (pc2 := 53) rfl dX11_heal_50 rfl rfl (Nat.le_of_ble_eq_true rfl) (Nat.le_of_ble_eq_true rfl) (d' := 1) (by omega) (isW.o (isW_of b3)) ⟨by decide, rfl⟩ (EW_mono (fun _ _ hr => ?_) (sX2_rest (82 + Int32.toNatClampNeg v1) (x.1 (82 + Int32.toNatClampNeg v1) 1) (isW_of b3) x _ _ 0 0 (Nat.le_refl _) h))
      obtain ⟨x5, rfl, rfl, h⟩ := hr
      refine EW_iconst (pc2 := 54) (v := 1) rfl dX11_heal_53 (by decide) ?_
      exact AW_zret rfl isB1 dX11_heal_54 ⟨_, _, rfl, rfl, h⟩
    · replace h := h.2 q
      refine EW_iconst (pc2 := 28) (v := 0) rfl dX11_heal_27 (by decide) ?_
      exact AW_zret rfl isB0 dX11_heal_28 ⟨_, _, rfl, rfl, h⟩
theorem mlRX11_106 : Cond.methodLink RX11 106 yX10_add ∈ ab_G ∧ Cond.instanceMethod yX10_add ∈ ab_G ∧ Cond.selects RX10 yX10_add yX10_add ∈ ab_G := ⟨ab_in 829 (by decide +kernel) (by decide +kernel), ab_in 830 (by decide +kernel) (by decide +kernel), ab_in 831 (by decide +kernel) (by decide +kernel)⟩
theorem gfRX11_109 : ab_L RX11 109 4 2 := ⟨by decide, by decide, ab_in 222 (by decide +kernel) (by decide +kernel)⟩
theorem gfRX11_114 : ab_L RX11 114 4 3 := ⟨by decide, by decide, ab_in 227 (by decide +kernel) (by decide +kernel)⟩
theorem gfRX11_117 : ab_L RX11 117 4 4 := ⟨by decide, by decide, ab_in 233 (by decide +kernel) (by decide +kernel)⟩
theorem gfRX11_120 : ab_L RX11 120 4 5 := ⟨by decide, by decide, ab_in 237 (by decide +kernel) (by decide +kernel)⟩
theorem gfRX11_123 : ab_L RX11 123 4 0 := ⟨by decide, by decide, ab_in 214 (by decide +kernel) (by decide +kernel)⟩
abbrev MX11_house : ab_M := (yX11_house, cX11_house, 8, (some .int))
theorem dX11_house_0 : decode cX11_house 0 = .ok (.iload_n 1, 1) := by decide +kernel
theorem dX11_house_1 : decode cX11_house 1 = .ok (.invokestatic 70, 3) := by decide +kernel
theorem dX11_house_4 : decode cX11_house 4 = .ok (.ifCond .eq 52, 3) := by decide +kernel
theorem dX11_house_7 : decode cX11_house 7 = .ok (.iload_n 2, 1) := by decide +kernel
theorem dX11_house_8 : decode cX11_house 8 = .ok (.iconst 0, 1) := by decide +kernel
theorem dX11_house_9 : decode cX11_house 9 = .ok (.iconst 2, 1) := by decide +kernel
theorem dX11_house_10 : decode cX11_house 10 = .ok (.invokestatic 74, 3) := by decide +kernel
theorem dX11_house_13 : decode cX11_house 13 = .ok (.ifCond .eq 43, 3) := by decide +kernel
theorem dX11_house_16 : decode cX11_house 16 = .ok (.iload_n 3, 1) := by decide +kernel
theorem dX11_house_17 : decode cX11_house 17 = .ok (.iconst 1, 1) := by decide +kernel
theorem dX11_house_18 : decode cX11_house 18 = .ok (.bipush 6, 2) := by decide +kernel
theorem dX11_house_20 : decode cX11_house 20 = .ok (.invokestatic 74, 3) := by decide +kernel
theorem dX11_house_23 : decode cX11_house 23 = .ok (.ifCond .eq 33, 3) := by decide +kernel
theorem dX11_house_26 : decode cX11_house 26 = .ok (.iload 4, 2) := by decide +kernel
theorem dX11_house_28 : decode cX11_house 28 = .ok (.iconst 1, 1) := by decide +kernel
theorem dX11_house_29 : decode cX11_house 29 = .ok (.iconst 4, 1) := by decide +kernel
theorem dX11_house_30 : decode cX11_house 30 = .ok (.invokestatic 74, 3) := by decide +kernel
theorem dX11_house_33 : decode cX11_house 33 = .ok (.ifCond .eq 23, 3) := by decide +kernel
theorem dX11_house_36 : decode cX11_house 36 = .ok (.iload 5, 2) := by decide +kernel
theorem dX11_house_38 : decode cX11_house 38 = .ok (.iconst (-1), 1) := by decide +kernel
theorem dX11_house_39 : decode cX11_house 39 = .ok (.if_icmp .eq 13, 3) := by decide +kernel
theorem dX11_house_42 : decode cX11_house 42 = .ok (.iload 5, 2) := by decide +kernel
theorem dX11_house_44 : decode cX11_house 44 = .ok (.iload 4, 2) := by decide +kernel
theorem dX11_house_46 : decode cX11_house 46 = .ok (.invokestatic 86, 3) := by decide +kernel
theorem dX11_house_49 : decode cX11_house 49 = .ok (.ifCond .eq 7, 3) := by decide +kernel
theorem dX11_house_52 : decode cX11_house 52 = .ok (.iconst 1, 1) := by decide +kernel
theorem dX11_house_53 : decode cX11_house 53 = .ok (.goto 4, 3) := by decide +kernel
theorem dX11_house_56 : decode cX11_house 56 = .ok (.iconst 0, 1) := by decide +kernel
theorem dX11_house_57 : decode cX11_house 57 = .ok (.istore 6, 2) := by decide +kernel
theorem dX11_house_59 : decode cX11_house 59 = .ok (.iload 6, 2) := by decide +kernel
theorem dX11_house_61 : decode cX11_house 61 = .ok (.ifCond .eq 15, 3) := by decide +kernel
theorem dX11_house_64 : decode cX11_house 64 = .ok (.aload_n 0, 1) := by decide +kernel
theorem dX11_house_65 : decode cX11_house 65 = .ok (.getfield 21, 3) := by decide +kernel
theorem dX11_house_68 : decode cX11_house 68 = .ok (.getfield 105, 3) := by decide +kernel
theorem dX11_house_71 : decode cX11_house 71 = .ok (.bipush 12, 2) := by decide +kernel
theorem dX11_house_73 : decode cX11_house 73 = .ok (.if_icmp .lt 5, 3) := by decide +kernel
theorem dX11_house_76 : decode cX11_house 76 = .ok (.iconst (-1), 1) := by decide +kernel
theorem dX11_house_77 : decode cX11_house 77 = .ok (.ireturn, 1) := by decide +kernel
theorem dX11_house_78 : decode cX11_house 78 = .ok (.aload_n 0, 1) := by decide +kernel
theorem dX11_house_79 : decode cX11_house 79 = .ok (.getfield 21, 3) := by decide +kernel
theorem dX11_house_82 : decode cX11_house 82 = .ok (.iload_n 1, 1) := by decide +kernel
theorem dX11_house_83 : decode cX11_house 83 = .ok (.invokevirtual 106, 3) := by decide +kernel
theorem dX11_house_86 : decode cX11_house 86 = .ok (.astore 7, 2) := by decide +kernel
theorem dX11_house_88 : decode cX11_house 88 = .ok (.aload 7, 2) := by decide +kernel
theorem dX11_house_90 : decode cX11_house 90 = .ok (.iload_n 2, 1) := by decide +kernel
theorem dX11_house_91 : decode cX11_house 91 = .ok (.putfield 109, 3) := by decide +kernel
theorem dX11_house_94 : decode cX11_house 94 = .ok (.aload 7, 2) := by decide +kernel
theorem dX11_house_96 : decode cX11_house 96 = .ok (.iload_n 3, 1) := by decide +kernel
theorem dX11_house_97 : decode cX11_house 97 = .ok (.putfield 114, 3) := by decide +kernel
theorem dX11_house_100 : decode cX11_house 100 = .ok (.aload 7, 2) := by decide +kernel
theorem dX11_house_102 : decode cX11_house 102 = .ok (.iload 4, 2) := by decide +kernel
theorem dX11_house_104 : decode cX11_house 104 = .ok (.putfield 117, 3) := by decide +kernel
theorem dX11_house_107 : decode cX11_house 107 = .ok (.aload 7, 2) := by decide +kernel
theorem dX11_house_109 : decode cX11_house 109 = .ok (.iload 5, 2) := by decide +kernel
theorem dX11_house_111 : decode cX11_house 111 = .ok (.putfield 120, 3) := by decide +kernel
theorem dX11_house_114 : decode cX11_house 114 = .ok (.aload 7, 2) := by decide +kernel
theorem dX11_house_116 : decode cX11_house 116 = .ok (.getfield 123, 3) := by decide +kernel
theorem dX11_house_119 : decode cX11_house 119 = .ok (.ireturn, 1) := by decide +kernel
theorem okX11_house : ab_okM MX11_house 5 := ⟨by decide, ⟨by decide, by decide⟩, ab_in 828 (by decide +kernel) (by decide +kernel), ab_in 86 (by decide +kernel) (by decide +kernel), by decide +kernel, by decide⟩
set_option maxHeartbeats 4000000 in
set_option maxRecDepth 100000 in
theorem sX11_house_57 (v1 : Int32) (v2 : Int32) (v3 : Int32) (v4 : Int32) (v5 : Int32) (s0 : Int32)  (x : ab_X) (K : Int32 → ab_X → Prop)  (d bc bs : Nat) (hdp : 3 ≤ d)  (h : wX11_house_57 v1 v2 v3 v4 v5 s0 x K ) : EW MX11_house 57 [(0, .ref 0), (1, .int v1), (2, .int v2), (3, .int v3), (4, .int v4), (5, .int v5)] [.int s0] (aS x) d bc bs (liI K) := by
  unfold wX11_house_57 at h
  refine EW_istore (pc2 := 59) rfl dX11_house_57 (by decide) [1, 2, 3, 4, 5, 6, 0] [(0, .ref 0), (1, .int v1), (2, .int v2), (3, .int v3), (4, .int v4), (5, .int v5), (6, .int s0)] rfl ?_
  refine EW_iload (pc2 := 61) rfl dX11_house_59 6 rfl ?_
  refine EW_if_eq (tgt := 76) (pc2 := 64) rfl dX11_house_61 (by decide) (fun q => ?_) (fun q => ?_)
  · replace h := h.1 q
    refine EW_iconst (pc2 := 77) (v := (-1)) rfl dX11_house_76 (by decide) ?_
    exact AW_iret rfl dX11_house_77 ⟨_, _, rfl, rfl, h⟩
  · replace h := h.2 q
    refine EW_aload_n (pc2 := 65) rfl dX11_house_64 0 rfl ?_
    refine AW_getr (r := 9) ⟨gfRX11_21, rfl⟩ (pc2 := 68) rfl dX11_house_65 q0 rfl ?_
    refine AW_geti ⟨gfRX11_105, rfl⟩ (pc2 := 71) rfl dX11_house_68 q9 ?_
    refine EW_bipush (pc2 := 73) (v := 12) rfl dX11_house_71 (by decide) ?_
    refine EW_icmp_lt (tgt := 78) (pc2 := 76) rfl dX11_house_73 (by decide) (fun q => ?_) (fun q => ?_)
    · replace h := h.1 q
      refine EW_aload_n (pc2 := 79) rfl dX11_house_78 0 rfl ?_
      refine AW_getr (r := 9) ⟨gfRX11_21, rfl⟩ (pc2 := 82) rfl dX11_house_79 q0 rfl ?_
      refine EW_iload_n (pc2 := 83) rfl dX11_house_82 1 rfl ?_
      refine AW_invV (M' := MX10_add) [.int v1] (rest := []) mlRX11_106 okX10_add (pc2 := 86) rfl dX11_house_83 rfl rfl (Nat.le_of_ble_eq_true rfl) (Nat.le_of_ble_eq_true rfl) (d' := 2) (by omega) q9 ⟨by decide, rfl⟩ (EW_mono (fun _ _ hr => ?_) (sX10_add v1  x _ _ 0 0 (Nat.le_refl _) h))
      obtain ⟨r6, x7, rfl, rfl, h⟩ := hr
      obtain ⟨hr6, h⟩ := h
      refine EW_astore (pc2 := 88) rfl dX11_house_86 (by decide) [1, 2, 3, 4, 5, 6, 7, 0] [(0, .ref 0), (1, .int v1), (2, .int v2), (3, .int v3), (4, .int v4), (5, .int v5), (6, .int s0), (7, .ref r6)] rfl ?_
      refine EW_aload (pc2 := 90) rfl dX11_house_88 7 rfl ?_
      refine EW_iload_n (pc2 := 91) rfl dX11_house_90 2 rfl ?_
      refine AW_puti ⟨gfRX11_109, rfl, rfl⟩ (pc2 := 94) rfl dX11_house_91 (isH.o hr6) ?_
      refine EW_aload (pc2 := 96) rfl dX11_house_94 7 rfl ?_
      refine EW_iload_n (pc2 := 97) rfl dX11_house_96 3 rfl ?_
      refine AW_puti ⟨gfRX11_114, rfl, rfl⟩ (pc2 := 100) rfl dX11_house_97 (isH.o hr6) ?_
      refine EW_aload (pc2 := 102) rfl dX11_house_100 7 rfl ?_
      refine EW_iload (pc2 := 104) rfl dX11_house_102 4 rfl ?_
      refine AW_puti ⟨gfRX11_117, rfl, rfl⟩ (pc2 := 107) rfl dX11_house_104 (isH.o hr6) ?_
      refine EW_aload (pc2 := 109) rfl dX11_house_107 7 rfl ?_
      refine EW_iload (pc2 := 111) rfl dX11_house_109 5 rfl ?_
      refine AW_puti ⟨gfRX11_120, rfl, rfl⟩ (pc2 := 114) rfl dX11_house_111 (isH.o hr6) ?_
      refine EW_aload (pc2 := 116) rfl dX11_house_114 7 rfl ?_
      refine AW_geti ⟨gfRX11_123, rfl⟩ (pc2 := 119) rfl dX11_house_116 (isH.o hr6) ?_
      exact AW_iret rfl dX11_house_119 ⟨_, _, rfl, rfl, h⟩
    · replace h := h.2 q
      refine EW_iconst (pc2 := 77) (v := (-1)) rfl dX11_house_76 (by decide) ?_
      exact AW_iret rfl dX11_house_77 ⟨_, _, rfl, rfl, h⟩
set_option maxHeartbeats 4000000 in
set_option maxRecDepth 100000 in
theorem sX11_house_56 (v1 : Int32) (v2 : Int32) (v3 : Int32) (v4 : Int32) (v5 : Int32)  (x : ab_X) (K : Int32 → ab_X → Prop)  (d bc bs : Nat) (hdp : 3 ≤ d)  (h : wX11_house_56 v1 v2 v3 v4 v5 x K ) : EW MX11_house 56 [(0, .ref 0), (1, .int v1), (2, .int v2), (3, .int v3), (4, .int v4), (5, .int v5)] [] (aS x) d bc bs (liI K) := by
  unfold wX11_house_56 at h
  refine EW_iconst (pc2 := 57) (v := 0) rfl dX11_house_56 (by decide) ?_
  exact sX11_house_57 v1 v2 v3 v4 v5 0 x K d bc bs hdp h
set_option maxHeartbeats 4000000 in
set_option maxRecDepth 100000 in
theorem sX11_house_52 (v1 : Int32) (v2 : Int32) (v3 : Int32) (v4 : Int32) (v5 : Int32)  (x : ab_X) (K : Int32 → ab_X → Prop)  (d bc bs : Nat) (hdp : 3 ≤ d)  (h : wX11_house_52 v1 v2 v3 v4 v5 x K ) : EW MX11_house 52 [(0, .ref 0), (1, .int v1), (2, .int v2), (3, .int v3), (4, .int v4), (5, .int v5)] [] (aS x) d bc bs (liI K) := by
  unfold wX11_house_52 at h
  refine EW_iconst (pc2 := 53) (v := 1) rfl dX11_house_52 (by decide) ?_
  refine EW_goto (tgt := 57) dX11_house_53 (by decide) ?_
  exact sX11_house_57 v1 v2 v3 v4 v5 1 x K d bc bs hdp h
set_option maxHeartbeats 4000000 in
set_option maxRecDepth 100000 in
theorem sX11_house (v1 : Int32) (v2 : Int32) (v3 : Int32) (v4 : Int32) (v5 : Int32)  (x : ab_X) (K : Int32 → ab_X → Prop) (d bc bs : Nat) (hdp : 3 ≤ d) (h : wX11_house v1 v2 v3 v4 v5 x K) : EW MX11_house 0 [(0, .ref 0), (1, .int v1), (2, .int v2), (3, .int v3), (4, .int v4), (5, .int v5)] [] (aS x) d bc bs (liI K) := by
  unfold wX11_house at h
  refine EW_iload_n (pc2 := 1) rfl dX11_house_0 1 rfl ?_
  refine AW_invS (M' := MX11_isCorner) [.int v1] (rest := []) mlRX11_70 okX11_isCorner (pc2 := 4) rfl dX11_house_1 rfl rfl (Nat.le_of_ble_eq_true rfl) (Nat.le_of_ble_eq_true rfl) (d' := 0) (by omega) (EW_mono (fun _ _ hr => ?_) (sX11_isCorner v1  x _ _ 0 0 (Nat.le_refl _) h))
  obtain ⟨r1, rfl, rfl, h⟩ := hr
  refine EW_if_eq (tgt := 56) (pc2 := 7) rfl dX11_house_4 (by decide) (fun q => ?_) (fun q => ?_)
  · replace h := h.1 q
    exact sX11_house_56 v1 v2 v3 v4 v5 x K d bc bs hdp h
  · replace h := h.2 q
    refine EW_iload_n (pc2 := 8) rfl dX11_house_7 2 rfl ?_
    refine EW_iconst (pc2 := 9) (v := 0) rfl dX11_house_8 (by decide) ?_
    refine EW_iconst (pc2 := 10) (v := 2) rfl dX11_house_9 (by decide) ?_
    refine AW_invS (M' := MX11_within) [.int v2, .int 0, .int 2] (rest := []) mlRX11_74 okX11_within (pc2 := 13) rfl dX11_house_10 rfl rfl (Nat.le_of_ble_eq_true rfl) (Nat.le_of_ble_eq_true rfl) (d' := 0) (by omega) (EW_mono (fun _ _ hr => ?_) (sX11_within v2 0 2  x _ _ 0 0 (Nat.le_refl _) h))
    obtain ⟨r2, rfl, rfl, h⟩ := hr
    refine EW_if_eq (tgt := 56) (pc2 := 16) rfl dX11_house_13 (by decide) (fun q => ?_) (fun q => ?_)
    · replace h := h.1 q
      exact sX11_house_56 v1 v2 v3 v4 v5 x K d bc bs hdp h
    · replace h := h.2 q
      refine EW_iload_n (pc2 := 17) rfl dX11_house_16 3 rfl ?_
      refine EW_iconst (pc2 := 18) (v := 1) rfl dX11_house_17 (by decide) ?_
      refine EW_bipush (pc2 := 20) (v := 6) rfl dX11_house_18 (by decide) ?_
      refine AW_invS (M' := MX11_within) [.int v3, .int 1, .int 6] (rest := []) mlRX11_74 okX11_within (pc2 := 23) rfl dX11_house_20 rfl rfl (Nat.le_of_ble_eq_true rfl) (Nat.le_of_ble_eq_true rfl) (d' := 0) (by omega) (EW_mono (fun _ _ hr => ?_) (sX11_within v3 1 6  x _ _ 0 0 (Nat.le_refl _) h))
      obtain ⟨r3, rfl, rfl, h⟩ := hr
      refine EW_if_eq (tgt := 56) (pc2 := 26) rfl dX11_house_23 (by decide) (fun q => ?_) (fun q => ?_)
      · replace h := h.1 q
        exact sX11_house_56 v1 v2 v3 v4 v5 x K d bc bs hdp h
      · replace h := h.2 q
        refine EW_iload (pc2 := 28) rfl dX11_house_26 4 rfl ?_
        refine EW_iconst (pc2 := 29) (v := 1) rfl dX11_house_28 (by decide) ?_
        refine EW_iconst (pc2 := 30) (v := 4) rfl dX11_house_29 (by decide) ?_
        refine AW_invS (M' := MX11_within) [.int v4, .int 1, .int 4] (rest := []) mlRX11_74 okX11_within (pc2 := 33) rfl dX11_house_30 rfl rfl (Nat.le_of_ble_eq_true rfl) (Nat.le_of_ble_eq_true rfl) (d' := 0) (by omega) (EW_mono (fun _ _ hr => ?_) (sX11_within v4 1 4  x _ _ 0 0 (Nat.le_refl _) h))
        obtain ⟨r4, rfl, rfl, h⟩ := hr
        refine EW_if_eq (tgt := 56) (pc2 := 36) rfl dX11_house_33 (by decide) (fun q => ?_) (fun q => ?_)
        · replace h := h.1 q
          exact sX11_house_56 v1 v2 v3 v4 v5 x K d bc bs hdp h
        · replace h := h.2 q
          refine EW_iload (pc2 := 38) rfl dX11_house_36 5 rfl ?_
          refine EW_iconst (pc2 := 39) (v := (-1)) rfl dX11_house_38 (by decide) ?_
          refine EW_icmp_eq (tgt := 52) (pc2 := 42) rfl dX11_house_39 (by decide) (fun q => ?_) (fun q => ?_)
          · replace h := h.1 q
            exact sX11_house_52 v1 v2 v3 v4 v5 x K d bc bs hdp h
          · replace h := h.2 q
            refine EW_iload (pc2 := 44) rfl dX11_house_42 5 rfl ?_
            refine EW_iload (pc2 := 46) rfl dX11_house_44 4 rfl ?_
            refine AW_invS (M' := MX11_below) [.int v5, .int v4] (rest := []) mlRX11_86 okX11_below (pc2 := 49) rfl dX11_house_46 rfl rfl (Nat.le_of_ble_eq_true rfl) (Nat.le_of_ble_eq_true rfl) (d' := 0) (by omega) (EW_mono (fun _ _ hr => ?_) (sX11_below v5 v4  x _ _ 0 0 (Nat.le_refl _) h))
            obtain ⟨r5, rfl, rfl, h⟩ := hr
            refine EW_if_eq (tgt := 56) (pc2 := 52) rfl dX11_house_49 (by decide) (fun q => ?_) (fun q => ?_)
            · replace h := h.1 q
              exact sX11_house_56 v1 v2 v3 v4 v5 x K d bc bs hdp h
            · replace h := h.2 q
              exact sX11_house_52 v1 v2 v3 v4 v5 x K d bc bs hdp h
abbrev MX3_fallenOf : ab_M := (yX3_fallenOf, cX3_fallenOf, 4, (some .int))
theorem dX3_fallenOf_0 : decode cX3_fallenOf 0 = .ok (.iconst 0, 1) := by decide +kernel
theorem dX3_fallenOf_1 : decode cX3_fallenOf 1 = .ok (.istore_n 2, 1) := by decide +kernel
theorem dX3_fallenOf_2 : decode cX3_fallenOf 2 = .ok (.iconst 0, 1) := by decide +kernel
theorem dX3_fallenOf_3 : decode cX3_fallenOf 3 = .ok (.istore_n 3, 1) := by decide +kernel
theorem dX3_fallenOf_4 : decode cX3_fallenOf 4 = .ok (.iload_n 3, 1) := by decide +kernel
theorem dX3_fallenOf_5 : decode cX3_fallenOf 5 = .ok (.aload_n 1, 1) := by decide +kernel
theorem dX3_fallenOf_6 : decode cX3_fallenOf 6 = .ok (.getfield 56, 3) := by decide +kernel
theorem dX3_fallenOf_9 : decode cX3_fallenOf 9 = .ok (.if_icmp .ge 26, 3) := by decide +kernel
theorem dX3_fallenOf_12 : decode cX3_fallenOf 12 = .ok (.iload_n 2, 1) := by decide +kernel
theorem dX3_fallenOf_13 : decode cX3_fallenOf 13 = .ok (.aload_n 0, 1) := by decide +kernel
theorem dX3_fallenOf_14 : decode cX3_fallenOf 14 = .ok (.aload_n 1, 1) := by decide +kernel
theorem dX3_fallenOf_15 : decode cX3_fallenOf 15 = .ok (.iload_n 3, 1) := by decide +kernel
theorem dX3_fallenOf_16 : decode cX3_fallenOf 16 = .ok (.invokevirtual 70, 3) := by decide +kernel
theorem dX3_fallenOf_19 : decode cX3_fallenOf 19 = .ok (.ifCond .eq 7, 3) := by decide +kernel
theorem dX3_fallenOf_22 : decode cX3_fallenOf 22 = .ok (.iconst 1, 1) := by decide +kernel
theorem dX3_fallenOf_23 : decode cX3_fallenOf 23 = .ok (.goto 4, 3) := by decide +kernel
theorem dX3_fallenOf_26 : decode cX3_fallenOf 26 = .ok (.iconst 0, 1) := by decide +kernel
theorem dX3_fallenOf_27 : decode cX3_fallenOf 27 = .ok (.iadd, 1) := by decide +kernel
theorem dX3_fallenOf_28 : decode cX3_fallenOf 28 = .ok (.istore_n 2, 1) := by decide +kernel
theorem dX3_fallenOf_29 : decode cX3_fallenOf 29 = .ok (.iinc 3 1, 3) := by decide +kernel
theorem dX3_fallenOf_32 : decode cX3_fallenOf 32 = .ok (.goto (-28), 3) := by decide +kernel
theorem dX3_fallenOf_35 : decode cX3_fallenOf 35 = .ok (.iload_n 2, 1) := by decide +kernel
theorem dX3_fallenOf_36 : decode cX3_fallenOf 36 = .ok (.ireturn, 1) := by decide +kernel
theorem okX3_fallenOf : ab_okM MX3_fallenOf 1 := ⟨by decide, ⟨by decide, by decide⟩, ab_in 937 (by decide +kernel) (by decide +kernel), ab_in 90 (by decide +kernel) (by decide +kernel), by decide +kernel, by decide⟩
set_option maxHeartbeats 4000000 in
set_option maxRecDepth 100000 in
theorem sX3_fallenOf_27 (v0 : Nat) (v1 : Nat) (v3 : Int32) (s0 : Int32) (s1 : Int32) (hv0 : isF v0) (hv1 : isH v1) (x : ab_X) (K : Int32 → Prop) (L4 : Int32 → Int32 → Prop) (d bc bs : Nat) (hdp : 2 ≤ d) (hL4 : ∀ (v2 : Int32) (v3 : Int32), L4 v2 v3 → EW MX3_fallenOf 4 [(0, .ref v0), (1, .ref v1), (2, .int v2), (3, .int v3)] [] (aS x) d bc bs (liP x K)) (h : wX3_fallenOf_27 v0 v1 v3 s0 s1 x K L4) : EW MX3_fallenOf 27 [(0, .ref v0), (1, .ref v1), (3, .int v3)] [.int s1, .int s0] (aS x) d bc bs (liP x K) := by
  unfold wX3_fallenOf_27 at h
  refine EW_iadd (pc2 := 28) rfl dX3_fallenOf_27 ?_
  refine EW_istore_n (pc2 := 29) rfl dX3_fallenOf_28 (by decide) [1, 2, 0, 3] [(0, .ref v0), (1, .ref v1), (2, .int (s0 + s1)), (3, .int v3)] rfl ?_
  refine EW_iinc (v3 + 1) (pc2 := 32) rfl dX3_fallenOf_29 3 rfl rfl (by decide) [1, 2, 3, 0] [(0, .ref v0), (1, .ref v1), (2, .int (s0 + s1)), (3, .int (v3 + 1))] rfl ?_
  refine EW_goto (tgt := 4) dX3_fallenOf_32 (by decide) ?_
  exact hL4 (s0 + s1) (v3 + 1) h
set_option maxHeartbeats 4000000 in
set_option maxRecDepth 100000 in
theorem sX3_fallenOf_4 (v0 : Nat) (v1 : Nat) (v2 : Int32) (v3 : Int32) (hv0 : isF v0) (hv1 : isH v1) (x : ab_X) (K : Int32 → Prop)  (d bc bs : Nat) (hdp : 2 ≤ d)  (h : Lp2 (lX3_fallenOf_4 v0 v1 x K ) v2 v3) : EW MX3_fallenOf 4 [(0, .ref v0), (1, .ref v1), (2, .int v2), (3, .int v3)] [] (aS x) d bc bs (liP x K) := by
  refine Lp2.use (P := fun v2 v3 => EW MX3_fallenOf 4 [(0, .ref v0), (1, .ref v1), (2, .int v2), (3, .int v3)] [] (aS x) d bc bs (liP x K)) (fun L4 v2 v3 hL4 h => ?_) v2 v3 h
  unfold lX3_fallenOf_4 at h
  refine EW_iload_n (pc2 := 5) rfl dX3_fallenOf_4 3 rfl ?_
  refine EW_aload_n (pc2 := 6) rfl dX3_fallenOf_5 1 rfl ?_
  refine AW_geti ⟨gfRX3_56, rfl⟩ (pc2 := 9) rfl dX3_fallenOf_6 (isH.o hv1) ?_
  refine EW_icmp_ge (tgt := 35) (pc2 := 12) rfl dX3_fallenOf_9 (by decide) (fun q => ?_) (fun q => ?_)
  · replace h := h.1 q
    refine EW_iload_n (pc2 := 36) rfl dX3_fallenOf_35 2 rfl ?_
    exact AW_iret rfl dX3_fallenOf_36 ⟨_, rfl, rfl, h⟩
  · replace h := h.2 q
    refine EW_iload_n (pc2 := 13) rfl dX3_fallenOf_12 2 rfl ?_
    refine EW_aload_n (pc2 := 14) rfl dX3_fallenOf_13 0 rfl ?_
    refine EW_aload_n (pc2 := 15) rfl dX3_fallenOf_14 1 rfl ?_
    refine EW_iload_n (pc2 := 16) rfl dX3_fallenOf_15 3 rfl ?_
    refine AW_invV (M' := MX3_hasFallen) [.ref v1, .int v3] (rest := [.int v2]) mlRX3_70 okX3_hasFallen (pc2 := 19) rfl dX3_fallenOf_16 rfl rfl (Nat.le_of_ble_eq_true rfl) (Nat.le_of_ble_eq_true rfl) (d' := 1) (by omega) (isF.o hv0) ⟨by decide, rfl⟩ (EW_mono (fun _ _ hr => ?_) (sX3_hasFallen v0 v1 v3 hv0 hv1 x _ _ 0 0 (Nat.le_refl _) h))
    obtain ⟨r1, rfl, rfl, h⟩ := hr
    refine EW_if_eq (tgt := 26) (pc2 := 22) rfl dX3_fallenOf_19 (by decide) (fun q => ?_) (fun q => ?_)
    · replace h := h.1 q
      refine EW_iconst (pc2 := 27) (v := 0) rfl dX3_fallenOf_26 (by decide) ?_
      refine EW_ls [0, 1, 3] rfl ?_
      exact sX3_fallenOf_27 v0 v1 v3 v2 0 hv0 hv1 x K L4 d bc bs hdp hL4 h
    · replace h := h.2 q
      refine EW_iconst (pc2 := 23) (v := 1) rfl dX3_fallenOf_22 (by decide) ?_
      refine EW_goto (tgt := 27) dX3_fallenOf_23 (by decide) ?_
      refine EW_ls [0, 1, 3] rfl ?_
      exact sX3_fallenOf_27 v0 v1 v3 v2 1 hv0 hv1 x K L4 d bc bs hdp hL4 h
set_option maxHeartbeats 4000000 in
set_option maxRecDepth 100000 in
theorem sX3_fallenOf (v0 : Nat) (v1 : Nat) (hv0 : isF v0) (hv1 : isH v1) (x : ab_X) (K : Int32 → Prop) (d bc bs : Nat) (hdp : 2 ≤ d) (h : wX3_fallenOf v0 v1 x K) : EW MX3_fallenOf 0 [(0, .ref v0), (1, .ref v1)] [] (aS x) d bc bs (liP x K) := by
  unfold wX3_fallenOf at h
  refine EW_iconst (pc2 := 1) (v := 0) rfl dX3_fallenOf_0 (by decide) ?_
  refine EW_istore_n (pc2 := 2) rfl dX3_fallenOf_1 (by decide) [1, 2, 0] [(0, .ref v0), (1, .ref v1), (2, .int 0)] rfl ?_
  refine EW_iconst (pc2 := 3) (v := 0) rfl dX3_fallenOf_2 (by decide) ?_
  refine EW_istore_n (pc2 := 4) rfl dX3_fallenOf_3 (by decide) [1, 2, 3, 0] [(0, .ref v0), (1, .ref v1), (2, .int 0), (3, .int 0)] rfl ?_
  exact sX3_fallenOf_4 v0 v1 0 0 hv0 hv1 x K d bc bs hdp h
theorem mlRX11_206 : Cond.methodLink RX11 206 yX3_burningRooms ∈ ab_G ∧ Cond.instanceMethod yX3_burningRooms ∈ ab_G ∧ Cond.selects RX3 yX3_burningRooms yX3_burningRooms ∈ ab_G := ⟨ab_in 929 (by decide +kernel) (by decide +kernel), ab_in 884 (by decide +kernel) (by decide +kernel), ab_in 885 (by decide +kernel) (by decide +kernel)⟩
theorem mlRX11_210 : Cond.methodLink RX11 210 yX3_burntOf ∈ ab_G ∧ Cond.instanceMethod yX3_burntOf ∈ ab_G ∧ Cond.selects RX3 yX3_burntOf yX3_burntOf ∈ ab_G := ⟨ab_in 930 (by decide +kernel) (by decide +kernel), ab_in 931 (by decide +kernel) (by decide +kernel), ab_in 932 (by decide +kernel) (by decide +kernel)⟩
theorem gfRX11_213 : ab_L RX11 213 4 14 := ⟨by decide, by decide, ab_in 265 (by decide +kernel) (by decide +kernel)⟩
theorem gfRX11_216 : ab_L RX11 216 4 15 := ⟨by decide, by decide, ab_in 268 (by decide +kernel) (by decide +kernel)⟩
theorem mlRX11_219 : Cond.methodLink RX11 219 yX3_fallenOf ∈ ab_G ∧ Cond.instanceMethod yX3_fallenOf ∈ ab_G ∧ Cond.selects RX3 yX3_fallenOf yX3_fallenOf ∈ ab_G := ⟨ab_in 934 (by decide +kernel) (by decide +kernel), ab_in 935 (by decide +kernel) (by decide +kernel), ab_in 936 (by decide +kernel) (by decide +kernel)⟩
theorem mlRX11_222 : Cond.methodLink RX11 222 yX0_workersIn ∈ ab_G ∧ Cond.instanceMethod yX0_workersIn ∈ ab_G ∧ Cond.selects RX0 yX0_workersIn yX0_workersIn ∈ ab_G := ⟨ab_in 939 (by decide +kernel) (by decide +kernel), ab_in 940 (by decide +kernel) (by decide +kernel), ab_in 941 (by decide +kernel) (by decide +kernel)⟩
theorem gfRX11_225 : ab_L RX11 225 4 16 := ⟨by decide, by decide, ab_in 270 (by decide +kernel) (by decide +kernel)⟩
abbrev MX11_housed : ab_M := (yX11_housed, cX11_housed, 4, (some .int))
theorem dX11_housed_0 : decode cX11_housed 0 = .ok (.aload_n 0, 1) := by decide +kernel
theorem dX11_housed_1 : decode cX11_housed 1 = .ok (.getfield 21, 3) := by decide +kernel
theorem dX11_housed_4 : decode cX11_housed 4 = .ok (.iload_n 1, 1) := by decide +kernel
theorem dX11_housed_5 : decode cX11_housed 5 = .ok (.invokevirtual 124, 3) := by decide +kernel
theorem dX11_housed_8 : decode cX11_housed 8 = .ok (.ifCond .ne 5, 3) := by decide +kernel
theorem dX11_housed_11 : decode cX11_housed 11 = .ok (.iconst (-1), 1) := by decide +kernel
theorem dX11_housed_12 : decode cX11_housed 12 = .ok (.ireturn, 1) := by decide +kernel
theorem dX11_housed_13 : decode cX11_housed 13 = .ok (.aload_n 0, 1) := by decide +kernel
theorem dX11_housed_14 : decode cX11_housed 14 = .ok (.getfield 21, 3) := by decide +kernel
theorem dX11_housed_17 : decode cX11_housed 17 = .ok (.getfield 127, 3) := by decide +kernel
theorem dX11_housed_20 : decode cX11_housed 20 = .ok (.iload_n 1, 1) := by decide +kernel
theorem dX11_housed_21 : decode cX11_housed 21 = .ok (.aaload, 1) := by decide +kernel
theorem dX11_housed_22 : decode cX11_housed 22 = .ok (.astore_n 3, 1) := by decide +kernel
theorem dX11_housed_23 : decode cX11_housed 23 = .ok (.iload_n 2, 1) := by decide +kernel
theorem dX11_housed_24 : decode cX11_housed 24 = .ok (.tableswitch 104 0 6 #[44, 56, 68, 73, 78, 90, 99], 44) := by decide +kernel
theorem dX11_housed_68 : decode cX11_housed 68 = .ok (.aload_n 0, 1) := by decide +kernel
theorem dX11_housed_69 : decode cX11_housed 69 = .ok (.getfield 21, 3) := by decide +kernel
theorem dX11_housed_72 : decode cX11_housed 72 = .ok (.getfield 150, 3) := by decide +kernel
theorem dX11_housed_75 : decode cX11_housed 75 = .ok (.aload_n 3, 1) := by decide +kernel
theorem dX11_housed_76 : decode cX11_housed 76 = .ok (.invokevirtual 206, 3) := by decide +kernel
theorem dX11_housed_79 : decode cX11_housed 79 = .ok (.ireturn, 1) := by decide +kernel
theorem dX11_housed_80 : decode cX11_housed 80 = .ok (.aload_n 0, 1) := by decide +kernel
theorem dX11_housed_81 : decode cX11_housed 81 = .ok (.getfield 21, 3) := by decide +kernel
theorem dX11_housed_84 : decode cX11_housed 84 = .ok (.getfield 150, 3) := by decide +kernel
theorem dX11_housed_87 : decode cX11_housed 87 = .ok (.aload_n 3, 1) := by decide +kernel
theorem dX11_housed_88 : decode cX11_housed 88 = .ok (.invokevirtual 210, 3) := by decide +kernel
theorem dX11_housed_91 : decode cX11_housed 91 = .ok (.ireturn, 1) := by decide +kernel
theorem dX11_housed_92 : decode cX11_housed 92 = .ok (.aload_n 3, 1) := by decide +kernel
theorem dX11_housed_93 : decode cX11_housed 93 = .ok (.getfield 213, 3) := by decide +kernel
theorem dX11_housed_96 : decode cX11_housed 96 = .ok (.ireturn, 1) := by decide +kernel
theorem dX11_housed_97 : decode cX11_housed 97 = .ok (.aload_n 3, 1) := by decide +kernel
theorem dX11_housed_98 : decode cX11_housed 98 = .ok (.getfield 216, 3) := by decide +kernel
theorem dX11_housed_101 : decode cX11_housed 101 = .ok (.ireturn, 1) := by decide +kernel
theorem dX11_housed_102 : decode cX11_housed 102 = .ok (.aload_n 0, 1) := by decide +kernel
theorem dX11_housed_103 : decode cX11_housed 103 = .ok (.getfield 21, 3) := by decide +kernel
theorem dX11_housed_106 : decode cX11_housed 106 = .ok (.getfield 150, 3) := by decide +kernel
theorem dX11_housed_109 : decode cX11_housed 109 = .ok (.aload_n 3, 1) := by decide +kernel
theorem dX11_housed_110 : decode cX11_housed 110 = .ok (.invokevirtual 219, 3) := by decide +kernel
theorem dX11_housed_113 : decode cX11_housed 113 = .ok (.ireturn, 1) := by decide +kernel
theorem dX11_housed_114 : decode cX11_housed 114 = .ok (.aload_n 0, 1) := by decide +kernel
theorem dX11_housed_115 : decode cX11_housed 115 = .ok (.getfield 30, 3) := by decide +kernel
theorem dX11_housed_118 : decode cX11_housed 118 = .ok (.iload_n 1, 1) := by decide +kernel
theorem dX11_housed_119 : decode cX11_housed 119 = .ok (.invokevirtual 222, 3) := by decide +kernel
theorem dX11_housed_122 : decode cX11_housed 122 = .ok (.ireturn, 1) := by decide +kernel
theorem dX11_housed_123 : decode cX11_housed 123 = .ok (.aload_n 3, 1) := by decide +kernel
theorem dX11_housed_124 : decode cX11_housed 124 = .ok (.getfield 225, 3) := by decide +kernel
theorem dX11_housed_127 : decode cX11_housed 127 = .ok (.ireturn, 1) := by decide +kernel
theorem dX11_housed_128 : decode cX11_housed 128 = .ok (.iconst (-1), 1) := by decide +kernel
theorem dX11_housed_129 : decode cX11_housed 129 = .ok (.ireturn, 1) := by decide +kernel
theorem okX11_housed : ab_okM MX11_housed 2 := ⟨by decide, ⟨by decide, by decide⟩, ab_in 928 (by decide +kernel) (by decide +kernel), ab_in 86 (by decide +kernel) (by decide +kernel), by decide +kernel, by decide⟩
set_option maxHeartbeats 4000000 in
set_option maxRecDepth 100000 in
theorem sX11_housed (v1 : Int32) (v2 : Int32)  (x : ab_X) (K : Int32 → Prop) (d bc bs : Nat) (hdp : 3 ≤ d) (h : wX11_housed v1 v2 x K) : EW MX11_housed 0 [(0, .ref 0), (1, .int v1), (2, .int v2)] [] (aS x) d bc bs (liP x K) := by
  unfold wX11_housed at h
  refine EW_aload_n (pc2 := 1) rfl dX11_housed_0 0 rfl ?_
  refine AW_getr (r := 9) ⟨gfRX11_21, rfl⟩ (pc2 := 4) rfl dX11_housed_1 q0 rfl ?_
  refine EW_iload_n (pc2 := 5) rfl dX11_housed_4 1 rfl ?_
  refine AW_invV (M' := MX10_has) [.int v1] (rest := []) mlRX11_124 okX10_has (pc2 := 8) rfl dX11_housed_5 rfl rfl (Nat.le_of_ble_eq_true rfl) (Nat.le_of_ble_eq_true rfl) (d' := 1) (by omega) q9 ⟨by decide, rfl⟩ (EW_mono (fun _ _ hr => ?_) (sX10_has v1  x _ _ 0 0 (Nat.le_refl _) h))
  obtain ⟨r1, rfl, rfl, h⟩ := hr
  refine EW_if_ne (tgt := 13) (pc2 := 11) rfl dX11_housed_8 (by decide) (fun q => ?_) (fun q => ?_)
  · replace h := h.1 q
    refine EW_aload_n (pc2 := 14) rfl dX11_housed_13 0 rfl ?_
    refine AW_getr (r := 9) ⟨gfRX11_21, rfl⟩ (pc2 := 17) rfl dX11_housed_14 q0 rfl ?_
    refine AW_getr (r := 10) ⟨gfRX11_127, rfl⟩ (pc2 := 20) rfl dX11_housed_17 q9 rfl ?_
    refine EW_iload_n (pc2 := 21) rfl dX11_housed_20 1 rfl ?_
    obtain ⟨b2, h⟩ := h
    refine AW_aald5 (pc2 := 22) rfl dX11_housed_21 b2 ?_
    refine EW_astore_n (pc2 := 23) rfl dX11_housed_22 (by decide) [1, 2, 3, 0] [(0, .ref 0), (1, .int v1), (2, .int v2), (3, .ref (30 + 3 * Int32.toNatClampNeg v1))] rfl ?_
    refine EW_iload_n (pc2 := 24) rfl dX11_housed_23 2 rfl ?_
    by_cases qo : Int32.toInt v2 < 0 ∨ 6 < Int32.toInt v2
    · replace h := h.1 qo
      refine EW_tabOut (tgt := 128) dX11_housed_24 qo (by decide) ?_
      refine EW_iconst (pc2 := 129) (v := (-1)) rfl dX11_housed_128 (by decide) ?_
      exact AW_iret rfl dX11_housed_129 ⟨_, rfl, rfl, h⟩
    · obtain ⟨kk, hkk, qk⟩ := sw_in 0 6 (by decide) qo
      match kk, hkk, qk with
      | 0, _, qk =>
        replace h := h.2.1 qk
        refine EW_tabIn (off := 44) (tgt := 68) dX11_housed_24 (by rw [qk]; decide) (by rw [qk]; decide) (by rw [qk]; decide) (by decide) ?_
        refine EW_aload_n (pc2 := 69) rfl dX11_housed_68 0 rfl ?_
        refine AW_getr (r := 9) ⟨gfRX11_21, rfl⟩ (pc2 := 72) rfl dX11_housed_69 q0 rfl ?_
        refine AW_getr (r := 11) ⟨gfRX11_150, rfl⟩ (pc2 := 75) rfl dX11_housed_72 q9 rfl ?_
        refine EW_aload_n (pc2 := 76) rfl dX11_housed_75 3 rfl ?_
        refine AW_invV (M' := MX3_burningRooms) [.ref (30 + 3 * Int32.toNatClampNeg v1)] (rest := []) mlRX11_206 okX3_burningRooms (pc2 := 79) rfl dX11_housed_76 rfl rfl (Nat.le_of_ble_eq_true rfl) (Nat.le_of_ble_eq_true rfl) (d' := 1) (by omega) q11 ⟨by decide, rfl⟩ (EW_mono (fun _ _ hr => ?_) (sX3_burningRooms 11 (30 + 3 * Int32.toNatClampNeg v1) (Or.inl rfl : isF 11) (isH_of b2) x _ _ 0 0 (Nat.le_refl _) h))
        obtain ⟨r3, rfl, rfl, h⟩ := hr
        exact AW_iret rfl dX11_housed_79 ⟨_, rfl, rfl, h⟩
      | 1, _, qk =>
        replace h := h.2.2.1 qk
        refine EW_tabIn (off := 56) (tgt := 80) dX11_housed_24 (by rw [qk]; decide) (by rw [qk]; decide) (by rw [qk]; decide) (by decide) ?_
        refine EW_aload_n (pc2 := 81) rfl dX11_housed_80 0 rfl ?_
        refine AW_getr (r := 9) ⟨gfRX11_21, rfl⟩ (pc2 := 84) rfl dX11_housed_81 q0 rfl ?_
        refine AW_getr (r := 11) ⟨gfRX11_150, rfl⟩ (pc2 := 87) rfl dX11_housed_84 q9 rfl ?_
        refine EW_aload_n (pc2 := 88) rfl dX11_housed_87 3 rfl ?_
        refine AW_invV (M' := MX3_burntOf) [.ref (30 + 3 * Int32.toNatClampNeg v1)] (rest := []) mlRX11_210 okX3_burntOf (pc2 := 91) rfl dX11_housed_88 rfl rfl (Nat.le_of_ble_eq_true rfl) (Nat.le_of_ble_eq_true rfl) (d' := 1) (by omega) q11 ⟨by decide, rfl⟩ (EW_mono (fun _ _ hr => ?_) (sX3_burntOf 11 (30 + 3 * Int32.toNatClampNeg v1) (Or.inl rfl : isF 11) (isH_of b2) x _ _ 0 0 (Nat.le_refl _) h))
        obtain ⟨r4, rfl, rfl, h⟩ := hr
        exact AW_iret rfl dX11_housed_91 ⟨_, rfl, rfl, h⟩
      | 2, _, qk =>
        replace h := h.2.2.2.1 qk
        refine EW_tabIn (off := 68) (tgt := 92) dX11_housed_24 (by rw [qk]; decide) (by rw [qk]; decide) (by rw [qk]; decide) (by decide) ?_
        refine EW_aload_n (pc2 := 93) rfl dX11_housed_92 3 rfl ?_
        refine AW_geti ⟨gfRX11_213, rfl⟩ (pc2 := 96) rfl dX11_housed_93 (isH.o (isH_of b2)) ?_
        exact AW_iret rfl dX11_housed_96 ⟨_, rfl, rfl, h⟩
      | 3, _, qk =>
        replace h := h.2.2.2.2.1 qk
        refine EW_tabIn (off := 73) (tgt := 97) dX11_housed_24 (by rw [qk]; decide) (by rw [qk]; decide) (by rw [qk]; decide) (by decide) ?_
        refine EW_aload_n (pc2 := 98) rfl dX11_housed_97 3 rfl ?_
        refine AW_geti ⟨gfRX11_216, rfl⟩ (pc2 := 101) rfl dX11_housed_98 (isH.o (isH_of b2)) ?_
        exact AW_iret rfl dX11_housed_101 ⟨_, rfl, rfl, h⟩
      | 4, _, qk =>
        replace h := h.2.2.2.2.2.1 qk
        refine EW_tabIn (off := 78) (tgt := 102) dX11_housed_24 (by rw [qk]; decide) (by rw [qk]; decide) (by rw [qk]; decide) (by decide) ?_
        refine EW_aload_n (pc2 := 103) rfl dX11_housed_102 0 rfl ?_
        refine AW_getr (r := 9) ⟨gfRX11_21, rfl⟩ (pc2 := 106) rfl dX11_housed_103 q0 rfl ?_
        refine AW_getr (r := 11) ⟨gfRX11_150, rfl⟩ (pc2 := 109) rfl dX11_housed_106 q9 rfl ?_
        refine EW_aload_n (pc2 := 110) rfl dX11_housed_109 3 rfl ?_
        refine AW_invV (M' := MX3_fallenOf) [.ref (30 + 3 * Int32.toNatClampNeg v1)] (rest := []) mlRX11_219 okX3_fallenOf (pc2 := 113) rfl dX11_housed_110 rfl rfl (Nat.le_of_ble_eq_true rfl) (Nat.le_of_ble_eq_true rfl) (d' := 2) (by omega) q11 ⟨by decide, rfl⟩ (EW_mono (fun _ _ hr => ?_) (sX3_fallenOf 11 (30 + 3 * Int32.toNatClampNeg v1) (Or.inl rfl : isF 11) (isH_of b2) x _ _ 0 0 (Nat.le_refl _) h))
        obtain ⟨r5, rfl, rfl, h⟩ := hr
        exact AW_iret rfl dX11_housed_113 ⟨_, rfl, rfl, h⟩
      | 5, _, qk =>
        replace h := h.2.2.2.2.2.2.1 qk
        refine EW_tabIn (off := 90) (tgt := 114) dX11_housed_24 (by rw [qk]; decide) (by rw [qk]; decide) (by rw [qk]; decide) (by decide) ?_
        refine EW_aload_n (pc2 := 115) rfl dX11_housed_114 0 rfl ?_
        refine AW_getr (r := 66) ⟨gfRX11_30, rfl⟩ (pc2 := 118) rfl dX11_housed_115 q0 rfl ?_
        refine EW_iload_n (pc2 := 119) rfl dX11_housed_118 1 rfl ?_
        refine AW_invV (M' := MX0_workersIn) [.int v1] (rest := []) mlRX11_222 okX0_workersIn (pc2 := 122) rfl dX11_housed_119 rfl rfl (Nat.le_of_ble_eq_true rfl) (Nat.le_of_ble_eq_true rfl) (d' := 0) (by omega) q66 ⟨by decide, rfl⟩ (EW_mono (fun _ _ hr => ?_) (sX0_workersIn v1  x _ _ 0 0 (Nat.le_refl _) h))
        obtain ⟨r6, rfl, rfl, h⟩ := hr
        exact AW_iret rfl dX11_housed_122 ⟨_, rfl, rfl, h⟩
      | 6, _, qk =>
        replace h := h.2.2.2.2.2.2.2 qk
        refine EW_tabIn (off := 99) (tgt := 123) dX11_housed_24 (by rw [qk]; decide) (by rw [qk]; decide) (by rw [qk]; decide) (by decide) ?_
        refine EW_aload_n (pc2 := 124) rfl dX11_housed_123 3 rfl ?_
        refine AW_geti ⟨gfRX11_225, rfl⟩ (pc2 := 127) rfl dX11_housed_124 (isH.o (isH_of b2)) ?_
        exact AW_iret rfl dX11_housed_127 ⟨_, rfl, rfl, h⟩
      | n9 + 7, hkk, _ => exact absurd hkk (by omega)
  · replace h := h.2 q
    refine EW_iconst (pc2 := 12) (v := (-1)) rfl dX11_housed_11 (by decide) ?_
    exact AW_iret rfl dX11_housed_12 ⟨_, rfl, rfl, h⟩
theorem gfRX11_90 : ab_L RX11 90 6 4 := ⟨by decide, by decide, ab_in 137 (by decide +kernel) (by decide +kernel)⟩
abbrev MX11_jam : ab_M := (yX11_jam, cX11_jam, 4, (some .boolean))
theorem dX11_jam_0 : decode cX11_jam 0 = .ok (.iload_n 1, 1) := by decide +kernel
theorem dX11_jam_1 : decode cX11_jam 1 = .ok (.aload_n 0, 1) := by decide +kernel
theorem dX11_jam_2 : decode cX11_jam 2 = .ok (.getfield 12, 3) := by decide +kernel
theorem dX11_jam_5 : decode cX11_jam 5 = .ok (.getfield 82, 3) := by decide +kernel
theorem dX11_jam_8 : decode cX11_jam 8 = .ok (.invokestatic 86, 3) := by decide +kernel
theorem dX11_jam_11 : decode cX11_jam 11 = .ok (.ifCond .eq 23, 3) := by decide +kernel
theorem dX11_jam_14 : decode cX11_jam 14 = .ok (.iload_n 2, 1) := by decide +kernel
theorem dX11_jam_15 : decode cX11_jam 15 = .ok (.iconst 4, 1) := by decide +kernel
theorem dX11_jam_16 : decode cX11_jam 16 = .ok (.invokestatic 86, 3) := by decide +kernel
theorem dX11_jam_19 : decode cX11_jam 19 = .ok (.ifCond .eq 15, 3) := by decide +kernel
theorem dX11_jam_22 : decode cX11_jam 22 = .ok (.iload_n 3, 1) := by decide +kernel
theorem dX11_jam_23 : decode cX11_jam 23 = .ok (.bipush 100, 2) := by decide +kernel
theorem dX11_jam_25 : decode cX11_jam 25 = .ok (.sipush 400, 3) := by decide +kernel
theorem dX11_jam_28 : decode cX11_jam 28 = .ok (.invokestatic 74, 3) := by decide +kernel
theorem dX11_jam_31 : decode cX11_jam 31 = .ok (.ifCond .ne 5, 3) := by decide +kernel
theorem dX11_jam_34 : decode cX11_jam 34 = .ok (.iconst 0, 1) := by decide +kernel
theorem dX11_jam_35 : decode cX11_jam 35 = .ok (.ireturn, 1) := by decide +kernel
theorem dX11_jam_36 : decode cX11_jam 36 = .ok (.aload_n 0, 1) := by decide +kernel
theorem dX11_jam_37 : decode cX11_jam 37 = .ok (.getfield 12, 3) := by decide +kernel
theorem dX11_jam_40 : decode cX11_jam 40 = .ok (.getfield 90, 3) := by decide +kernel
theorem dX11_jam_43 : decode cX11_jam 43 = .ok (.iload_n 1, 1) := by decide +kernel
theorem dX11_jam_44 : decode cX11_jam 44 = .ok (.iconst 4, 1) := by decide +kernel
theorem dX11_jam_45 : decode cX11_jam 45 = .ok (.imul, 1) := by decide +kernel
theorem dX11_jam_46 : decode cX11_jam 46 = .ok (.iload_n 2, 1) := by decide +kernel
theorem dX11_jam_47 : decode cX11_jam 47 = .ok (.iadd, 1) := by decide +kernel
theorem dX11_jam_48 : decode cX11_jam 48 = .ok (.iload_n 3, 1) := by decide +kernel
theorem dX11_jam_49 : decode cX11_jam 49 = .ok (.iastore, 1) := by decide +kernel
theorem dX11_jam_50 : decode cX11_jam 50 = .ok (.iconst 1, 1) := by decide +kernel
theorem dX11_jam_51 : decode cX11_jam 51 = .ok (.ireturn, 1) := by decide +kernel
theorem okX11_jam : ab_okM MX11_jam 3 := ⟨by decide, ⟨by decide, by decide⟩, ab_in 792 (by decide +kernel) (by decide +kernel), ab_in 86 (by decide +kernel) (by decide +kernel), by decide +kernel, by decide⟩
set_option maxHeartbeats 4000000 in
set_option maxRecDepth 100000 in
theorem sX11_jam (v1 : Int32) (v2 : Int32) (v3 : Int32)  (x : ab_X) (K : Int32 → ab_X → Prop) (d bc bs : Nat) (hdp : 1 ≤ d) (h : wX11_jam v1 v2 v3 x K) : EW MX11_jam 0 [(0, .ref 0), (1, .int v1), (2, .int v2), (3, .int v3)] [] (aS x) d bc bs (liI K) := by
  unfold wX11_jam at h
  refine EW_iload_n (pc2 := 1) rfl dX11_jam_0 1 rfl ?_
  refine EW_aload_n (pc2 := 2) rfl dX11_jam_1 0 rfl ?_
  refine AW_getr (r := 1) ⟨gfRX11_12, rfl⟩ (pc2 := 5) rfl dX11_jam_2 q0 rfl ?_
  refine AW_geti ⟨gfRX11_82, rfl⟩ (pc2 := 8) rfl dX11_jam_5 q1 ?_
  refine AW_invS (M' := MX11_below) [.int v1, .int (x.1 1 7)] (rest := []) mlRX11_86 okX11_below (pc2 := 11) rfl dX11_jam_8 rfl rfl (Nat.le_of_ble_eq_true rfl) (Nat.le_of_ble_eq_true rfl) (d' := 0) (by omega) (EW_mono (fun _ _ hr => ?_) (sX11_below v1 (x.1 1 7)  x _ _ 0 0 (Nat.le_refl _) h))
  obtain ⟨r1, rfl, rfl, h⟩ := hr
  refine EW_if_eq (tgt := 34) (pc2 := 14) rfl dX11_jam_11 (by decide) (fun q => ?_) (fun q => ?_)
  · replace h := h.1 q
    refine EW_iconst (pc2 := 35) (v := 0) rfl dX11_jam_34 (by decide) ?_
    exact AW_zret rfl isB0 dX11_jam_35 ⟨_, _, rfl, rfl, h⟩
  · replace h := h.2 q
    refine EW_iload_n (pc2 := 15) rfl dX11_jam_14 2 rfl ?_
    refine EW_iconst (pc2 := 16) (v := 4) rfl dX11_jam_15 (by decide) ?_
    refine AW_invS (M' := MX11_below) [.int v2, .int 4] (rest := []) mlRX11_86 okX11_below (pc2 := 19) rfl dX11_jam_16 rfl rfl (Nat.le_of_ble_eq_true rfl) (Nat.le_of_ble_eq_true rfl) (d' := 0) (by omega) (EW_mono (fun _ _ hr => ?_) (sX11_below v2 4  x _ _ 0 0 (Nat.le_refl _) h))
    obtain ⟨r2, rfl, rfl, h⟩ := hr
    refine EW_if_eq (tgt := 34) (pc2 := 22) rfl dX11_jam_19 (by decide) (fun q => ?_) (fun q => ?_)
    · replace h := h.1 q
      refine EW_iconst (pc2 := 35) (v := 0) rfl dX11_jam_34 (by decide) ?_
      exact AW_zret rfl isB0 dX11_jam_35 ⟨_, _, rfl, rfl, h⟩
    · replace h := h.2 q
      refine EW_iload_n (pc2 := 23) rfl dX11_jam_22 3 rfl ?_
      refine EW_bipush (pc2 := 25) (v := 100) rfl dX11_jam_23 (by decide) ?_
      refine EW_sipush (pc2 := 28) (v := 400) rfl dX11_jam_25 (by decide) ?_
      refine AW_invS (M' := MX11_within) [.int v3, .int 100, .int 400] (rest := []) mlRX11_74 okX11_within (pc2 := 31) rfl dX11_jam_28 rfl rfl (Nat.le_of_ble_eq_true rfl) (Nat.le_of_ble_eq_true rfl) (d' := 0) (by omega) (EW_mono (fun _ _ hr => ?_) (sX11_within v3 100 400  x _ _ 0 0 (Nat.le_refl _) h))
      obtain ⟨r3, rfl, rfl, h⟩ := hr
      refine EW_if_ne (tgt := 36) (pc2 := 34) rfl dX11_jam_31 (by decide) (fun q => ?_) (fun q => ?_)
      · replace h := h.1 q
        refine EW_aload_n (pc2 := 37) rfl dX11_jam_36 0 rfl ?_
        refine AW_getr (r := 1) ⟨gfRX11_12, rfl⟩ (pc2 := 40) rfl dX11_jam_37 q0 rfl ?_
        refine AW_getr (r := 6) ⟨gfRX11_90, rfl⟩ (pc2 := 43) rfl dX11_jam_40 q1 rfl ?_
        refine EW_iload_n (pc2 := 44) rfl dX11_jam_43 1 rfl ?_
        refine EW_iconst (pc2 := 45) (v := 4) rfl dX11_jam_44 (by decide) ?_
        refine EW_imul (pc2 := 46) rfl dX11_jam_45 ?_
        refine EW_iload_n (pc2 := 47) rfl dX11_jam_46 2 rfl ?_
        refine EW_iadd (pc2 := 48) rfl dX11_jam_47 ?_
        refine EW_iload_n (pc2 := 49) rfl dX11_jam_48 3 rfl ?_
        obtain ⟨b4, h⟩ := h
        refine AW_iast (pc2 := 50) rfl dX11_jam_49 q6 b4 ?_
        refine EW_iconst (pc2 := 51) (v := 1) rfl dX11_jam_50 (by decide) ?_
        exact AW_zret rfl isB1 dX11_jam_51 ⟨_, _, rfl, rfl, h⟩
      · replace h := h.2 q
        refine EW_iconst (pc2 := 35) (v := 0) rfl dX11_jam_34 (by decide) ?_
        exact AW_zret rfl isB0 dX11_jam_35 ⟨_, _, rfl, rfl, h⟩
theorem cnRX11_470 : Cond.constant RX11 470 (-1000000) ∈ ab_G := ab_in 1696 (by decide +kernel) (by decide +kernel)
theorem cnRX11_526 : Cond.constantFloat RX11 526 1090519040 ∈ ab_G := ab_in 1728 (by decide +kernel) (by decide +kernel)
theorem cnRX11_524 : Cond.constantDouble RX11 524 4652007308841189376 ∈ ab_G := ab_in 1727 (by decide +kernel) (by decide +kernel)
abbrev MX11_valueAt : ab_M := (yX11_valueAt, cX11_valueAt, 4, (some .double))
theorem dX11_valueAt_0 : decode cX11_valueAt 0 = .ok (.aload_n 0, 1) := by decide +kernel
theorem dX11_valueAt_1 : decode cX11_valueAt 1 = .ok (.getfield 67, 3) := by decide +kernel
theorem dX11_valueAt_4 : decode cX11_valueAt 4 = .ok (.iload_n 1, 1) := by decide +kernel
theorem dX11_valueAt_5 : decode cX11_valueAt 5 = .ok (.bipush 20, 2) := by decide +kernel
theorem dX11_valueAt_7 : decode cX11_valueAt 7 = .ok (.imul, 1) := by decide +kernel
theorem dX11_valueAt_8 : decode cX11_valueAt 8 = .ok (.iload_n 2, 1) := by decide +kernel
theorem dX11_valueAt_9 : decode cX11_valueAt 9 = .ok (.iadd, 1) := by decide +kernel
theorem dX11_valueAt_10 : decode cX11_valueAt 10 = .ok (.iaload, 1) := by decide +kernel
theorem dX11_valueAt_11 : decode cX11_valueAt 11 = .ok (.istore_n 3, 1) := by decide +kernel
theorem dX11_valueAt_12 : decode cX11_valueAt 12 = .ok (.aload_n 0, 1) := by decide +kernel
theorem dX11_valueAt_13 : decode cX11_valueAt 13 = .ok (.getfield 59, 3) := by decide +kernel
theorem dX11_valueAt_16 : decode cX11_valueAt 16 = .ok (.iload_n 1, 1) := by decide +kernel
theorem dX11_valueAt_17 : decode cX11_valueAt 17 = .ok (.iaload, 1) := by decide +kernel
theorem dX11_valueAt_18 : decode cX11_valueAt 18 = .ok (.iconst 3, 1) := by decide +kernel
theorem dX11_valueAt_19 : decode cX11_valueAt 19 = .ok (.if_icmp .eq 6, 3) := by decide +kernel
theorem dX11_valueAt_22 : decode cX11_valueAt 22 = .ok (.iload_n 3, 1) := by decide +kernel
theorem dX11_valueAt_23 : decode cX11_valueAt 23 = .ok (.i2d, 1) := by decide +kernel
theorem dX11_valueAt_24 : decode cX11_valueAt 24 = .ok (.dreturn, 1) := by decide +kernel
theorem dX11_valueAt_25 : decode cX11_valueAt 25 = .ok (.iload_n 3, 1) := by decide +kernel
theorem dX11_valueAt_26 : decode cX11_valueAt 26 = .ok (.ldc_w 470, 3) := by decide +kernel
theorem dX11_valueAt_29 : decode cX11_valueAt 29 = .ok (.if_icmp .ne 9, 3) := by decide +kernel
theorem dX11_valueAt_32 : decode cX11_valueAt 32 = .ok (.ldc2_w 524, 3) := by decide +kernel
theorem dX11_valueAt_35 : decode cX11_valueAt 35 = .ok (.goto 10, 3) := by decide +kernel
theorem dX11_valueAt_38 : decode cX11_valueAt 38 = .ok (.iload_n 3, 1) := by decide +kernel
theorem dX11_valueAt_39 : decode cX11_valueAt 39 = .ok (.i2f, 1) := by decide +kernel
theorem dX11_valueAt_40 : decode cX11_valueAt 40 = .ok (.ldc_w 526, 3) := by decide +kernel
theorem dX11_valueAt_43 : decode cX11_valueAt 43 = .ok (.fdiv, 1) := by decide +kernel
theorem dX11_valueAt_44 : decode cX11_valueAt 44 = .ok (.f2d, 1) := by decide +kernel
theorem dX11_valueAt_45 : decode cX11_valueAt 45 = .ok (.dreturn, 1) := by decide +kernel
theorem okX11_valueAt : ab_okM MX11_valueAt 2 := ⟨by decide, ⟨by decide, by decide⟩, ab_in 1726 (by decide +kernel) (by decide +kernel), ab_in 86 (by decide +kernel) (by decide +kernel), by decide +kernel, by decide⟩
set_option maxHeartbeats 4000000 in
set_option maxRecDepth 100000 in
theorem sX11_valueAt (v1 : Int32) (v2 : Int32)  (x : ab_X) (K : UInt64 → Prop) (d bc bs : Nat) (hdp : 0 ≤ d) (h : wX11_valueAt v1 v2 x K) : EW MX11_valueAt 0 [(0, .ref 0), (1, .int v1), (2, .int v2)] [] (aS x) d bc bs (liD x K) := by
  unfold wX11_valueAt at h
  refine EW_aload_n (pc2 := 1) rfl dX11_valueAt_0 0 rfl ?_
  refine AW_getr (r := 245) ⟨gfRX11_67, rfl⟩ (pc2 := 4) rfl dX11_valueAt_1 q0 rfl ?_
  refine EW_iload_n (pc2 := 5) rfl dX11_valueAt_4 1 rfl ?_
  refine EW_bipush (pc2 := 7) (v := 20) rfl dX11_valueAt_5 (by decide) ?_
  refine EW_imul (pc2 := 8) rfl dX11_valueAt_7 ?_
  refine EW_iload_n (pc2 := 9) rfl dX11_valueAt_8 2 rfl ?_
  refine EW_iadd (pc2 := 10) rfl dX11_valueAt_9 ?_
  obtain ⟨b1, h⟩ := h
  refine AW_iald (pc2 := 11) rfl dX11_valueAt_10 q245 b1 ?_
  refine EW_istore_n (pc2 := 12) rfl dX11_valueAt_11 (by decide) [1, 2, 3, 0] [(0, .ref 0), (1, .int v1), (2, .int v2), (3, .int (x.1 245 (Int32.toNatClampNeg ((v1 * 20) + v2))))] rfl ?_
  refine EW_aload_n (pc2 := 13) rfl dX11_valueAt_12 0 rfl ?_
  refine AW_getr (r := 243) ⟨gfRX11_59, rfl⟩ (pc2 := 16) rfl dX11_valueAt_13 q0 rfl ?_
  refine EW_iload_n (pc2 := 17) rfl dX11_valueAt_16 1 rfl ?_
  obtain ⟨b2, h⟩ := h
  refine AW_iald (pc2 := 18) rfl dX11_valueAt_17 q243 b2 ?_
  refine EW_iconst (pc2 := 19) (v := 3) rfl dX11_valueAt_18 (by decide) ?_
  refine EW_icmp_eq (tgt := 25) (pc2 := 22) rfl dX11_valueAt_19 (by decide) (fun q => ?_) (fun q => ?_)
  · replace h := h.1 q
    refine EW_iload_n (pc2 := 26) rfl dX11_valueAt_25 3 rfl ?_
    refine EW_ldcw cnRX11_470 (pc2 := 29) rfl dX11_valueAt_26 ?_
    refine EW_icmp_ne (tgt := 38) (pc2 := 32) rfl dX11_valueAt_29 (by decide) (fun q => ?_) (fun q => ?_)
    · replace h := h.1 q
      refine EW_iload_n (pc2 := 39) rfl dX11_valueAt_38 3 rfl ?_
      refine EW_i2f (pc2 := 40) rfl dX11_valueAt_39 ?_
      refine EW_ldcwf cnRX11_526 (pc2 := 43) rfl dX11_valueAt_40 ?_
      refine EW_fdiv_any (pc2 := 44) rfl dX11_valueAt_43 (fun r3 qr3 => ?_)
      replace h := h r3 qr3
      refine EW_f2d_any (pc2 := 45) rfl dX11_valueAt_44 (fun r4 qr4 => ?_)
      replace h := h r4 qr4
      exact EW_dret rfl dX11_valueAt_45 ⟨_, rfl, rfl, h⟩
    · replace h := h.2 q
      refine EW_ldc2d cnRX11_524 (pc2 := 35) rfl dX11_valueAt_32 ?_
      refine EW_goto (tgt := 45) dX11_valueAt_35 (by decide) ?_
      exact EW_dret rfl dX11_valueAt_45 ⟨_, rfl, rfl, h⟩
  · replace h := h.2 q
    refine EW_iload_n (pc2 := 23) rfl dX11_valueAt_22 3 rfl ?_
    refine EW_i2d (pc2 := 24) rfl dX11_valueAt_23 ?_
    exact EW_dret rfl dX11_valueAt_24 ⟨_, rfl, rfl, h⟩
theorem gfRX7_36 : ab_L RX7 36 7 0 := ⟨by decide, by decide, ab_in 671 (by decide +kernel) (by decide +kernel)⟩
theorem mlRX7_88 : Cond.methodLink RX7 88 yX6_walk ∈ ab_G ∧ Cond.instanceMethod yX6_walk ∈ ab_G ∧ Cond.selects RX6 yX6_walk yX6_walk ∈ ab_G := ⟨ab_in 1601 (by decide +kernel) (by decide +kernel), ab_in 782 (by decide +kernel) (by decide +kernel), ab_in 783 (by decide +kernel) (by decide +kernel)⟩
theorem gfRX7_30 : ab_L RX7 30 7 14 := ⟨by decide, by decide, ab_in 689 (by decide +kernel) (by decide +kernel)⟩
abbrev MX7_findNear : ab_M := (yX7_findNear, cX7_findNear, 4, none)
theorem dX7_findNear_0 : decode cX7_findNear 0 = .ok (.iconst 0, 1) := by decide +kernel
theorem dX7_findNear_1 : decode cX7_findNear 1 = .ok (.istore_n 2, 1) := by decide +kernel
theorem dX7_findNear_2 : decode cX7_findNear 2 = .ok (.iload_n 2, 1) := by decide +kernel
theorem dX7_findNear_3 : decode cX7_findNear 3 = .ok (.bipush 20, 2) := by decide +kernel
theorem dX7_findNear_5 : decode cX7_findNear 5 = .ok (.if_icmp .ge 55, 3) := by decide +kernel
theorem dX7_findNear_8 : decode cX7_findNear 8 = .ok (.aload_n 0, 1) := by decide +kernel
theorem dX7_findNear_9 : decode cX7_findNear 9 = .ok (.getfield 30, 3) := by decide +kernel
theorem dX7_findNear_12 : decode cX7_findNear 12 = .ok (.iload_n 2, 1) := by decide +kernel
theorem dX7_findNear_13 : decode cX7_findNear 13 = .ok (.iconst 0, 1) := by decide +kernel
theorem dX7_findNear_14 : decode cX7_findNear 14 = .ok (.iastore, 1) := by decide +kernel
theorem dX7_findNear_15 : decode cX7_findNear 15 = .ok (.iconst 0, 1) := by decide +kernel
theorem dX7_findNear_16 : decode cX7_findNear 16 = .ok (.istore_n 3, 1) := by decide +kernel
theorem dX7_findNear_17 : decode cX7_findNear 17 = .ok (.iload_n 3, 1) := by decide +kernel
theorem dX7_findNear_18 : decode cX7_findNear 18 = .ok (.bipush 20, 2) := by decide +kernel
theorem dX7_findNear_20 : decode cX7_findNear 20 = .ok (.if_icmp .ge 34, 3) := by decide +kernel
theorem dX7_findNear_23 : decode cX7_findNear 23 = .ok (.aload_n 0, 1) := by decide +kernel
theorem dX7_findNear_24 : decode cX7_findNear 24 = .ok (.getfield 36, 3) := by decide +kernel
theorem dX7_findNear_27 : decode cX7_findNear 27 = .ok (.iload_n 3, 1) := by decide +kernel
theorem dX7_findNear_28 : decode cX7_findNear 28 = .ok (.iload_n 2, 1) := by decide +kernel
theorem dX7_findNear_29 : decode cX7_findNear 29 = .ok (.invokevirtual 88, 3) := by decide +kernel
theorem dX7_findNear_32 : decode cX7_findNear 32 = .ok (.iload_n 1, 1) := by decide +kernel
theorem dX7_findNear_33 : decode cX7_findNear 33 = .ok (.if_icmp .gt 15, 3) := by decide +kernel
theorem dX7_findNear_36 : decode cX7_findNear 36 = .ok (.aload_n 0, 1) := by decide +kernel
theorem dX7_findNear_37 : decode cX7_findNear 37 = .ok (.getfield 30, 3) := by decide +kernel
theorem dX7_findNear_40 : decode cX7_findNear 40 = .ok (.iload_n 2, 1) := by decide +kernel
theorem dX7_findNear_41 : decode cX7_findNear 41 = .ok (.dup2, 1) := by decide +kernel
theorem dX7_findNear_42 : decode cX7_findNear 42 = .ok (.iaload, 1) := by decide +kernel
theorem dX7_findNear_43 : decode cX7_findNear 43 = .ok (.iconst 1, 1) := by decide +kernel
theorem dX7_findNear_44 : decode cX7_findNear 44 = .ok (.iload_n 3, 1) := by decide +kernel
theorem dX7_findNear_45 : decode cX7_findNear 45 = .ok (.ishl, 1) := by decide +kernel
theorem dX7_findNear_46 : decode cX7_findNear 46 = .ok (.ior, 1) := by decide +kernel
theorem dX7_findNear_47 : decode cX7_findNear 47 = .ok (.iastore, 1) := by decide +kernel
theorem dX7_findNear_48 : decode cX7_findNear 48 = .ok (.iinc 3 1, 3) := by decide +kernel
theorem dX7_findNear_51 : decode cX7_findNear 51 = .ok (.goto (-34), 3) := by decide +kernel
theorem dX7_findNear_54 : decode cX7_findNear 54 = .ok (.iinc 2 1, 3) := by decide +kernel
theorem dX7_findNear_57 : decode cX7_findNear 57 = .ok (.goto (-55), 3) := by decide +kernel
theorem dX7_findNear_60 : decode cX7_findNear 60 = .ok (.return_, 1) := by decide +kernel
theorem okX7_findNear : ab_okM MX7_findNear 1 := ⟨by decide, ⟨by decide, by decide⟩, ab_in 1657 (by decide +kernel) (by decide +kernel), ab_in 98 (by decide +kernel) (by decide +kernel), by decide +kernel, by decide⟩
set_option maxHeartbeats 4000000 in
set_option maxRecDepth 100000 in
theorem sX7_findNear_17 (v1 : Int32) (v2 : Int32) (v3 : Int32)  (x : ab_X) (K : ab_X → Prop) (L2 : Int32 → ab_X → Prop) (d bc bs : Nat) (hdp : 2 ≤ d) (hL2 : ∀ (v2 : Int32) (x : ab_X), L2 v2 x → EW MX7_findNear 2 [(0, .ref 234), (1, .int v1), (2, .int v2)] [] (aS x) d bc bs (liV K)) (h : Lp2 (lX7_findNear_17 v1 v2 K L2) v3 x) : EW MX7_findNear 17 [(0, .ref 234), (1, .int v1), (2, .int v2), (3, .int v3)] [] (aS x) d bc bs (liV K) := by
  refine Lp2.use (P := fun v3 x => EW MX7_findNear 17 [(0, .ref 234), (1, .int v1), (2, .int v2), (3, .int v3)] [] (aS x) d bc bs (liV K)) (fun L17 v3 x hL17 h => ?_) v3 x h
  unfold lX7_findNear_17 at h
  refine EW_iload_n (pc2 := 18) rfl dX7_findNear_17 3 rfl ?_
  refine EW_bipush (pc2 := 20) (v := 20) rfl dX7_findNear_18 (by decide) ?_
  refine EW_icmp_ge (tgt := 54) (pc2 := 23) rfl dX7_findNear_20 (by decide) (fun q => ?_) (fun q => ?_)
  · replace h := h.1 q
    refine EW_iinc (v2 + 1) (pc2 := 57) rfl dX7_findNear_54 2 rfl rfl (by decide) [1, 2, 0, 3] [(0, .ref 234), (1, .int v1), (2, .int (v2 + 1)), (3, .int v3)] rfl ?_
    refine EW_goto (tgt := 2) dX7_findNear_57 (by decide) ?_
    refine EW_ls [0, 1, 2] rfl ?_
    exact hL2 (v2 + 1) x h
  · replace h := h.2 q
    refine EW_aload_n (pc2 := 24) rfl dX7_findNear_23 0 rfl ?_
    refine AW_getr (r := 1) ⟨gfRX7_36, rfl⟩ (pc2 := 27) rfl dX7_findNear_24 q234 rfl ?_
    refine EW_iload_n (pc2 := 28) rfl dX7_findNear_27 3 rfl ?_
    refine EW_iload_n (pc2 := 29) rfl dX7_findNear_28 2 rfl ?_
    refine AW_invV (M' := MX6_walk) [.int v3, .int v2] (rest := []) mlRX7_88 okX6_walk (pc2 := 32) rfl dX7_findNear_29 rfl rfl (Nat.le_of_ble_eq_true rfl) (Nat.le_of_ble_eq_true rfl) (d' := 1) (by omega) q1 ⟨by decide, rfl⟩ (EW_mono (fun _ _ hr => ?_) (sX6_walk v3 v2  x _ _ 0 0 (Nat.le_refl _) h))
    obtain ⟨r2, rfl, rfl, h⟩ := hr
    refine EW_iload_n (pc2 := 33) rfl dX7_findNear_32 1 rfl ?_
    refine EW_icmp_gt (tgt := 48) (pc2 := 36) rfl dX7_findNear_33 (by decide) (fun q => ?_) (fun q => ?_)
    · replace h := h.1 q
      refine EW_iinc (v3 + 1) (pc2 := 51) rfl dX7_findNear_48 3 rfl rfl (by decide) [1, 2, 3, 0] [(0, .ref 234), (1, .int v1), (2, .int v2), (3, .int (v3 + 1))] rfl ?_
      refine EW_goto (tgt := 17) dX7_findNear_51 (by decide) ?_
      exact hL17 (v3 + 1) x h
    · replace h := h.2 q
      refine EW_aload_n (pc2 := 37) rfl dX7_findNear_36 0 rfl ?_
      refine AW_getr (r := 241) ⟨gfRX7_30, rfl⟩ (pc2 := 40) rfl dX7_findNear_37 q234 rfl ?_
      refine EW_iload_n (pc2 := 41) rfl dX7_findNear_40 2 rfl ?_
      refine EW_dup2 (pc2 := 42) rfl dX7_findNear_41 rfl rfl ?_
      obtain ⟨b3, h⟩ := h
      refine AW_iald (pc2 := 43) rfl dX7_findNear_42 q241 b3 ?_
      refine EW_iconst (pc2 := 44) (v := 1) rfl dX7_findNear_43 (by decide) ?_
      refine EW_iload_n (pc2 := 45) rfl dX7_findNear_44 3 rfl ?_
      refine EW_ishl (pc2 := 46) rfl dX7_findNear_45 ?_
      refine EW_ior (pc2 := 47) rfl dX7_findNear_46 ?_
      obtain ⟨b4, h⟩ := h
      refine AW_iast (pc2 := 48) rfl dX7_findNear_47 q241 b4 ?_
      refine EW_iinc (v3 + 1) (pc2 := 51) rfl dX7_findNear_48 3 rfl rfl (by decide) [1, 2, 3, 0] [(0, .ref 234), (1, .int v1), (2, .int v2), (3, .int (v3 + 1))] rfl ?_
      refine EW_goto (tgt := 17) dX7_findNear_51 (by decide) ?_
      exact hL17 (v3 + 1) (wr x 241 (Int32.toNatClampNeg v2) ((x.1 241 (Int32.toNatClampNeg v2)) ||| (1 <<< (v3 &&& 31)))) h
set_option maxHeartbeats 4000000 in
set_option maxRecDepth 100000 in
theorem sX7_findNear_2 (v1 : Int32) (v2 : Int32)  (x : ab_X) (K : ab_X → Prop)  (d bc bs : Nat) (hdp : 2 ≤ d)  (h : Lp2 (lX7_findNear_2 v1 K ) v2 x) : EW MX7_findNear 2 [(0, .ref 234), (1, .int v1), (2, .int v2)] [] (aS x) d bc bs (liV K) := by
  refine Lp2.use (P := fun v2 x => EW MX7_findNear 2 [(0, .ref 234), (1, .int v1), (2, .int v2)] [] (aS x) d bc bs (liV K)) (fun L2 v2 x hL2 h => ?_) v2 x h
  unfold lX7_findNear_2 at h
  refine EW_iload_n (pc2 := 3) rfl dX7_findNear_2 2 rfl ?_
  refine EW_bipush (pc2 := 5) (v := 20) rfl dX7_findNear_3 (by decide) ?_
  refine EW_icmp_ge (tgt := 60) (pc2 := 8) rfl dX7_findNear_5 (by decide) (fun q => ?_) (fun q => ?_)
  · replace h := h.1 q
    exact EW_vret rfl dX7_findNear_60 ⟨_, rfl, rfl, h⟩
  · replace h := h.2 q
    refine EW_aload_n (pc2 := 9) rfl dX7_findNear_8 0 rfl ?_
    refine AW_getr (r := 241) ⟨gfRX7_30, rfl⟩ (pc2 := 12) rfl dX7_findNear_9 q234 rfl ?_
    refine EW_iload_n (pc2 := 13) rfl dX7_findNear_12 2 rfl ?_
    refine EW_iconst (pc2 := 14) (v := 0) rfl dX7_findNear_13 (by decide) ?_
    obtain ⟨b1, h⟩ := h
    refine AW_iast (pc2 := 15) rfl dX7_findNear_14 q241 b1 ?_
    refine EW_iconst (pc2 := 16) (v := 0) rfl dX7_findNear_15 (by decide) ?_
    refine EW_istore_n (pc2 := 17) rfl dX7_findNear_16 (by decide) [1, 2, 3, 0] [(0, .ref 234), (1, .int v1), (2, .int v2), (3, .int 0)] rfl ?_
    exact sX7_findNear_17 v1 v2 0 (wr x 241 (Int32.toNatClampNeg v2) 0) K L2 d bc bs hdp hL2 h
set_option maxHeartbeats 4000000 in
set_option maxRecDepth 100000 in
theorem sX7_findNear (v1 : Int32)  (x : ab_X) (K : ab_X → Prop) (d bc bs : Nat) (hdp : 2 ≤ d) (h : wX7_findNear v1 x K) : EW MX7_findNear 0 [(0, .ref 234), (1, .int v1)] [] (aS x) d bc bs (liV K) := by
  unfold wX7_findNear at h
  refine EW_iconst (pc2 := 1) (v := 0) rfl dX7_findNear_0 (by decide) ?_
  refine EW_istore_n (pc2 := 2) rfl dX7_findNear_1 (by decide) [1, 2, 0] [(0, .ref 234), (1, .int v1), (2, .int 0)] rfl ?_
  exact sX7_findNear_2 v1 0 x K d bc bs hdp h
theorem mlRX7_132 : Cond.methodLink RX7 132 yJ6_bitCount_0f7a4 ∈ ab_G ∧ Cond.static yJ6_bitCount_0f7a4 ∈ ab_G := ⟨ab_in 1671 (by decide +kernel) (by decide +kernel), ab_in 1672 (by decide +kernel) (by decide +kernel)⟩
abbrev MX7_pointsAt : ab_M := (yX7_pointsAt, cX7_pointsAt, 4, (some .int))
theorem dX7_pointsAt_0 : decode cX7_pointsAt 0 = .ok (.aload_n 0, 1) := by decide +kernel
theorem dX7_pointsAt_1 : decode cX7_pointsAt 1 = .ok (.getfield 30, 3) := by decide +kernel
theorem dX7_pointsAt_4 : decode cX7_pointsAt 4 = .ok (.iload_n 1, 1) := by decide +kernel
theorem dX7_pointsAt_5 : decode cX7_pointsAt 5 = .ok (.iaload, 1) := by decide +kernel
theorem dX7_pointsAt_6 : decode cX7_pointsAt 6 = .ok (.iload_n 2, 1) := by decide +kernel
theorem dX7_pointsAt_7 : decode cX7_pointsAt 7 = .ok (.iand, 1) := by decide +kernel
theorem dX7_pointsAt_8 : decode cX7_pointsAt 8 = .ok (.invokestatic 132, 3) := by decide +kernel
theorem dX7_pointsAt_11 : decode cX7_pointsAt 11 = .ok (.istore_n 3, 1) := by decide +kernel
theorem dX7_pointsAt_12 : decode cX7_pointsAt 12 = .ok (.iload_n 3, 1) := by decide +kernel
theorem dX7_pointsAt_13 : decode cX7_pointsAt 13 = .ok (.ifCond .ne 7, 3) := by decide +kernel
theorem dX7_pointsAt_16 : decode cX7_pointsAt 16 = .ok (.iconst 0, 1) := by decide +kernel
theorem dX7_pointsAt_17 : decode cX7_pointsAt 17 = .ok (.goto 13, 3) := by decide +kernel
theorem dX7_pointsAt_20 : decode cX7_pointsAt 20 = .ok (.iload_n 3, 1) := by decide +kernel
theorem dX7_pointsAt_21 : decode cX7_pointsAt 21 = .ok (.iconst 1, 1) := by decide +kernel
theorem dX7_pointsAt_22 : decode cX7_pointsAt 22 = .ok (.if_icmp .ne 7, 3) := by decide +kernel
theorem dX7_pointsAt_25 : decode cX7_pointsAt 25 = .ok (.iconst 2, 1) := by decide +kernel
theorem dX7_pointsAt_26 : decode cX7_pointsAt 26 = .ok (.goto 4, 3) := by decide +kernel
theorem dX7_pointsAt_29 : decode cX7_pointsAt 29 = .ok (.iconst 3, 1) := by decide +kernel
theorem dX7_pointsAt_30 : decode cX7_pointsAt 30 = .ok (.ireturn, 1) := by decide +kernel
theorem okX7_pointsAt : ab_okM MX7_pointsAt 2 := ⟨by decide, ⟨by decide, by decide⟩, ab_in 1670 (by decide +kernel) (by decide +kernel), ab_in 98 (by decide +kernel) (by decide +kernel), by decide +kernel, by decide⟩
set_option maxHeartbeats 4000000 in
set_option maxRecDepth 100000 in
theorem sX7_pointsAt (v1 : Int32) (v2 : Int32)  (x : ab_X) (K : Int32 → Prop) (d bc bs : Nat) (hdp : 1 ≤ d) (h : wX7_pointsAt v1 v2 x K) : EW MX7_pointsAt 0 [(0, .ref 234), (1, .int v1), (2, .int v2)] [] (aS x) d bc bs (liP x K) := by
  unfold wX7_pointsAt at h
  refine EW_aload_n (pc2 := 1) rfl dX7_pointsAt_0 0 rfl ?_
  refine AW_getr (r := 241) ⟨gfRX7_30, rfl⟩ (pc2 := 4) rfl dX7_pointsAt_1 q234 rfl ?_
  refine EW_iload_n (pc2 := 5) rfl dX7_pointsAt_4 1 rfl ?_
  obtain ⟨b1, h⟩ := h
  refine AW_iald (pc2 := 6) rfl dX7_pointsAt_5 q241 b1 ?_
  refine EW_iload_n (pc2 := 7) rfl dX7_pointsAt_6 2 rfl ?_
  refine EW_iand (pc2 := 8) rfl dX7_pointsAt_7 ?_
  refine AW_invS (M' := MJ6_bitCount_0f7a4) [.int ((x.1 241 (Int32.toNatClampNeg v1)) &&& v2)] (rest := []) mlRX7_132 okJ6_bitCount_0f7a4 (pc2 := 11) rfl dX7_pointsAt_8 rfl rfl (Nat.le_of_ble_eq_true rfl) (Nat.le_of_ble_eq_true rfl) (d' := 0) (by omega) (EW_mono (fun _ _ hr => ?_) (sJ6_bitCount_0f7a4 ((x.1 241 (Int32.toNatClampNeg v1)) &&& v2)  x _ _ 0 0 (Nat.le_refl _) h))
  obtain ⟨r2, rfl, rfl, h⟩ := hr
  refine EW_istore_n (pc2 := 12) rfl dX7_pointsAt_11 (by decide) [1, 2, 3, 0] [(0, .ref 234), (1, .int v1), (2, .int v2), (3, .int r2)] rfl ?_
  refine EW_iload_n (pc2 := 13) rfl dX7_pointsAt_12 3 rfl ?_
  refine EW_if_ne (tgt := 20) (pc2 := 16) rfl dX7_pointsAt_13 (by decide) (fun q => ?_) (fun q => ?_)
  · replace h := h.1 q
    refine EW_iload_n (pc2 := 21) rfl dX7_pointsAt_20 3 rfl ?_
    refine EW_iconst (pc2 := 22) (v := 1) rfl dX7_pointsAt_21 (by decide) ?_
    refine EW_icmp_ne (tgt := 29) (pc2 := 25) rfl dX7_pointsAt_22 (by decide) (fun q => ?_) (fun q => ?_)
    · replace h := h.1 q
      refine EW_iconst (pc2 := 30) (v := 3) rfl dX7_pointsAt_29 (by decide) ?_
      exact AW_iret rfl dX7_pointsAt_30 ⟨_, rfl, rfl, h⟩
    · replace h := h.2 q
      refine EW_iconst (pc2 := 26) (v := 2) rfl dX7_pointsAt_25 (by decide) ?_
      refine EW_goto (tgt := 30) dX7_pointsAt_26 (by decide) ?_
      exact AW_iret rfl dX7_pointsAt_30 ⟨_, rfl, rfl, h⟩
  · replace h := h.2 q
    refine EW_iconst (pc2 := 17) (v := 0) rfl dX7_pointsAt_16 (by decide) ?_
    refine EW_goto (tgt := 30) dX7_pointsAt_17 (by decide) ?_
    exact AW_iret rfl dX7_pointsAt_30 ⟨_, rfl, rfl, h⟩
theorem mlRX11_517 : Cond.methodLink RX11 517 yX11_valueAt ∈ ab_G ∧ Cond.instanceMethod yX11_valueAt ∈ ab_G ∧ Cond.selects RX11 yX11_valueAt yX11_valueAt ∈ ab_G := ⟨ab_in 1723 (by decide +kernel) (by decide +kernel), ab_in 1725 (by decide +kernel) (by decide +kernel), ab_in 12 (by decide +kernel) (by decide +kernel)⟩
theorem gfRX11_55 : ab_L RX11 55 11 5 := ⟨by decide, by decide, ab_in 737 (by decide +kernel) (by decide +kernel)⟩
theorem mlRX11_521 : Cond.methodLink RX11 521 yX7_pointsAt ∈ ab_G ∧ Cond.instanceMethod yX7_pointsAt ∈ ab_G ∧ Cond.selects RX7 yX7_pointsAt yX7_pointsAt ∈ ab_G := ⟨ab_in 1729 (by decide +kernel) (by decide +kernel), ab_in 1668 (by decide +kernel) (by decide +kernel), ab_in 1669 (by decide +kernel) (by decide +kernel)⟩
theorem mlRX11_514 : Cond.methodLink RX11 514 yX7_findNear ∈ ab_G ∧ Cond.instanceMethod yX7_findNear ∈ ab_G ∧ Cond.selects RX7 yX7_findNear yX7_findNear ∈ ab_G := ⟨ab_in 1722 (by decide +kernel) (by decide +kernel), ab_in 1655 (by decide +kernel) (by decide +kernel), ab_in 1656 (by decide +kernel) (by decide +kernel)⟩
abbrev MX11_judgement : ab_M := (yX11_judgement, cX11_judgement, 7, (some .double))
theorem dX11_judgement_0 : decode cX11_judgement 0 = .ok (.aload_n 0, 1) := by decide +kernel
theorem dX11_judgement_1 : decode cX11_judgement 1 = .ok (.getfield 55, 3) := by decide +kernel
theorem dX11_judgement_4 : decode cX11_judgement 4 = .ok (.iload_n 3, 1) := by decide +kernel
theorem dX11_judgement_5 : decode cX11_judgement 5 = .ok (.invokevirtual 514, 3) := by decide +kernel
theorem dX11_judgement_8 : decode cX11_judgement 8 = .ok (.dconst 0, 1) := by decide +kernel
theorem dX11_judgement_9 : decode cX11_judgement 9 = .ok (.dstore 4, 2) := by decide +kernel
theorem dX11_judgement_11 : decode cX11_judgement 11 = .ok (.iconst 0, 1) := by decide +kernel
theorem dX11_judgement_12 : decode cX11_judgement 12 = .ok (.istore 6, 2) := by decide +kernel
theorem dX11_judgement_14 : decode cX11_judgement 14 = .ok (.iload 6, 2) := by decide +kernel
theorem dX11_judgement_16 : decode cX11_judgement 16 = .ok (.bipush 20, 2) := by decide +kernel
theorem dX11_judgement_18 : decode cX11_judgement 18 = .ok (.if_icmp .ge 33, 3) := by decide +kernel
theorem dX11_judgement_21 : decode cX11_judgement 21 = .ok (.dload 4, 2) := by decide +kernel
theorem dX11_judgement_23 : decode cX11_judgement 23 = .ok (.aload_n 0, 1) := by decide +kernel
theorem dX11_judgement_24 : decode cX11_judgement 24 = .ok (.iload_n 1, 1) := by decide +kernel
theorem dX11_judgement_25 : decode cX11_judgement 25 = .ok (.iload 6, 2) := by decide +kernel
theorem dX11_judgement_27 : decode cX11_judgement 27 = .ok (.invokevirtual 517, 3) := by decide +kernel
theorem dX11_judgement_30 : decode cX11_judgement 30 = .ok (.aload_n 0, 1) := by decide +kernel
theorem dX11_judgement_31 : decode cX11_judgement 31 = .ok (.getfield 55, 3) := by decide +kernel
theorem dX11_judgement_34 : decode cX11_judgement 34 = .ok (.iload 6, 2) := by decide +kernel
theorem dX11_judgement_36 : decode cX11_judgement 36 = .ok (.iload_n 2, 1) := by decide +kernel
theorem dX11_judgement_37 : decode cX11_judgement 37 = .ok (.invokevirtual 521, 3) := by decide +kernel
theorem dX11_judgement_40 : decode cX11_judgement 40 = .ok (.i2d, 1) := by decide +kernel
theorem dX11_judgement_41 : decode cX11_judgement 41 = .ok (.dmul, 1) := by decide +kernel
theorem dX11_judgement_42 : decode cX11_judgement 42 = .ok (.dadd, 1) := by decide +kernel
theorem dX11_judgement_43 : decode cX11_judgement 43 = .ok (.dstore 4, 2) := by decide +kernel
theorem dX11_judgement_45 : decode cX11_judgement 45 = .ok (.iinc 6 1, 3) := by decide +kernel
theorem dX11_judgement_48 : decode cX11_judgement 48 = .ok (.goto (-34), 3) := by decide +kernel
theorem dX11_judgement_51 : decode cX11_judgement 51 = .ok (.dload 4, 2) := by decide +kernel
theorem dX11_judgement_53 : decode cX11_judgement 53 = .ok (.dreturn, 1) := by decide +kernel
theorem okX11_judgement : ab_okM MX11_judgement 3 := ⟨by decide, ⟨by decide, by decide⟩, ab_in 1721 (by decide +kernel) (by decide +kernel), ab_in 86 (by decide +kernel) (by decide +kernel), by decide +kernel, by decide⟩
set_option maxHeartbeats 4000000 in
set_option maxRecDepth 100000 in
theorem sX11_judgement_14 (v1 : Int32) (v2 : Int32) (v4 : UInt64) (v6 : Int32)  (x : ab_X) (K : UInt64 → ab_X → Prop)  (d bc bs : Nat) (hdp : 3 ≤ d)  (h : Lp2 (lX11_judgement_14 v1 v2 x K ) v4 v6) : EW MX11_judgement 14 [(0, .ref 0), (1, .int v1), (2, .int v2), (4, .double v4), (6, .int v6)] [] (aS x) d bc bs (liDI K) := by
  refine Lp2.use (P := fun v4 v6 => EW MX11_judgement 14 [(0, .ref 0), (1, .int v1), (2, .int v2), (4, .double v4), (6, .int v6)] [] (aS x) d bc bs (liDI K)) (fun L14 v4 v6 hL14 h => ?_) v4 v6 h
  unfold lX11_judgement_14 at h
  refine EW_iload (pc2 := 16) rfl dX11_judgement_14 4 rfl ?_
  refine EW_bipush (pc2 := 18) (v := 20) rfl dX11_judgement_16 (by decide) ?_
  refine EW_icmp_ge (tgt := 51) (pc2 := 21) rfl dX11_judgement_18 (by decide) (fun q => ?_) (fun q => ?_)
  · replace h := h.1 q
    refine EW_dload (pc2 := 53) rfl dX11_judgement_51 3 rfl ?_
    exact EW_dret rfl dX11_judgement_53 ⟨_, _, rfl, rfl, h⟩
  · replace h := h.2 q
    refine EW_dload (pc2 := 23) rfl dX11_judgement_21 3 rfl ?_
    refine EW_aload_n (pc2 := 24) rfl dX11_judgement_23 0 rfl ?_
    refine EW_iload_n (pc2 := 25) rfl dX11_judgement_24 1 rfl ?_
    refine EW_iload (pc2 := 27) rfl dX11_judgement_25 4 rfl ?_
    refine AW_invV (M' := MX11_valueAt) [.int v1, .int v6] (rest := [.double v4]) mlRX11_517 okX11_valueAt (pc2 := 30) rfl dX11_judgement_27 rfl rfl (Nat.le_of_ble_eq_true rfl) (Nat.le_of_ble_eq_true rfl) (d' := 0) (by omega) q0 ⟨by decide, rfl⟩ (EW_mono (fun _ _ hr => ?_) (sX11_valueAt v1 v6  x _ _ 0 0 (Nat.le_refl _) h))
    obtain ⟨r2, rfl, rfl, h⟩ := hr
    refine EW_aload_n (pc2 := 31) rfl dX11_judgement_30 0 rfl ?_
    refine AW_getr (r := 234) ⟨gfRX11_55, rfl⟩ (pc2 := 34) rfl dX11_judgement_31 q0 rfl ?_
    refine EW_iload (pc2 := 36) rfl dX11_judgement_34 4 rfl ?_
    refine EW_iload_n (pc2 := 37) rfl dX11_judgement_36 2 rfl ?_
    refine AW_invV (M' := MX7_pointsAt) [.int v6, .int v2] (rest := [.double r2, .double v4]) mlRX11_521 okX7_pointsAt (pc2 := 40) rfl dX11_judgement_37 rfl rfl (Nat.le_of_ble_eq_true rfl) (Nat.le_of_ble_eq_true rfl) (d' := 1) (by omega) q234 ⟨by decide, rfl⟩ (EW_mono (fun _ _ hr => ?_) (sX7_pointsAt v6 v2  x _ _ 0 0 (Nat.le_refl _) h))
    obtain ⟨r3, rfl, rfl, h⟩ := hr
    refine EW_i2d (pc2 := 41) rfl dX11_judgement_40 ?_
    refine EW_dmul_any (pc2 := 42) rfl dX11_judgement_41 (fun r4 qr4 => ?_)
    replace h := h r4 qr4
    refine EW_dadd_any (pc2 := 43) rfl dX11_judgement_42 (fun r5 qr5 => ?_)
    replace h := h r5 qr5
    refine EW_dstore (pc2 := 45) rfl dX11_judgement_43 (by decide) [1, 2, 3, 0, 4] [(0, .ref 0), (1, .int v1), (2, .int v2), (4, .double r5), (6, .int v6)] rfl ?_
    refine EW_iinc (v6 + 1) (pc2 := 48) rfl dX11_judgement_45 4 rfl rfl (by decide) [1, 2, 3, 4, 0] [(0, .ref 0), (1, .int v1), (2, .int v2), (4, .double r5), (6, .int (v6 + 1))] rfl ?_
    refine EW_goto (tgt := 14) dX11_judgement_48 (by decide) ?_
    exact hL14 r5 (v6 + 1) h
set_option maxHeartbeats 4000000 in
set_option maxRecDepth 100000 in
theorem sX11_judgement (v1 : Int32) (v2 : Int32) (v3 : Int32)  (x : ab_X) (K : UInt64 → ab_X → Prop) (d bc bs : Nat) (hdp : 3 ≤ d) (h : wX11_judgement v1 v2 v3 x K) : EW MX11_judgement 0 [(0, .ref 0), (1, .int v1), (2, .int v2), (3, .int v3)] [] (aS x) d bc bs (liDI K) := by
  unfold wX11_judgement at h
  refine EW_aload_n (pc2 := 1) rfl dX11_judgement_0 0 rfl ?_
  refine AW_getr (r := 234) ⟨gfRX11_55, rfl⟩ (pc2 := 4) rfl dX11_judgement_1 q0 rfl ?_
  refine EW_iload_n (pc2 := 5) rfl dX11_judgement_4 3 rfl ?_
  refine AW_invV (M' := MX7_findNear) [.int v3] (rest := []) mlRX11_514 okX7_findNear (pc2 := 8) rfl dX11_judgement_5 rfl rfl (Nat.le_of_ble_eq_true rfl) (Nat.le_of_ble_eq_true rfl) (d' := 2) (by omega) q234 ⟨by decide, rfl⟩ (EW_mono (fun _ _ hr => ?_) (sX7_findNear v3  x _ _ 0 0 (Nat.le_refl _) h))
  obtain ⟨x1, rfl, rfl, h⟩ := hr
  refine EW_dconst0 (pc2 := 9) rfl dX11_judgement_8 ?_
  refine EW_dstore (pc2 := 11) rfl dX11_judgement_9 (by decide) [1, 2, 3, 4, 0] [(0, .ref 0), (1, .int v1), (2, .int v2), (3, .int v3), (4, .double 0)] rfl ?_
  refine EW_iconst (pc2 := 12) (v := 0) rfl dX11_judgement_11 (by decide) ?_
  refine EW_istore (pc2 := 14) rfl dX11_judgement_12 (by decide) [1, 2, 3, 4, 5, 0] [(0, .ref 0), (1, .int v1), (2, .int v2), (3, .int v3), (4, .double 0), (6, .int 0)] rfl ?_
  refine EW_ls [0, 1, 2, 4, 5] rfl ?_
  exact sX11_judgement_14 v1 v2 0 0 x1 K d bc bs hdp h
theorem mlRX11_480 : Cond.methodLink RX11 480 yX11_canJudge ∈ ab_G ∧ Cond.instanceMethod yX11_canJudge ∈ ab_G ∧ Cond.selects RX11 yX11_canJudge yX11_canJudge ∈ ab_G := ⟨ab_in 1713 (by decide +kernel) (by decide +kernel), ab_in 1715 (by decide +kernel) (by decide +kernel), ab_in 10 (by decide +kernel) (by decide +kernel)⟩
theorem cnRX11_489 : Cond.constantDouble RX11 489 9221120237041090560 ∈ ab_G := ab_in 1730 (by decide +kernel) (by decide +kernel)
theorem mlRX11_483 : Cond.methodLink RX11 483 yX11_judgement ∈ ab_G ∧ Cond.instanceMethod yX11_judgement ∈ ab_G ∧ Cond.selects RX11 yX11_judgement yX11_judgement ∈ ab_G := ⟨ab_in 1718 (by decide +kernel) (by decide +kernel), ab_in 1720 (by decide +kernel) (by decide +kernel), ab_in 11 (by decide +kernel) (by decide +kernel)⟩
abbrev MX11_judge : ab_M := (yX11_judge, cX11_judge, 4, (some .double))
theorem dX11_judge_0 : decode cX11_judge 0 = .ok (.aload_n 0, 1) := by decide +kernel
theorem dX11_judge_1 : decode cX11_judge 1 = .ok (.iload_n 1, 1) := by decide +kernel
theorem dX11_judge_2 : decode cX11_judge 2 = .ok (.iload_n 2, 1) := by decide +kernel
theorem dX11_judge_3 : decode cX11_judge 3 = .ok (.iload_n 3, 1) := by decide +kernel
theorem dX11_judge_4 : decode cX11_judge 4 = .ok (.invokevirtual 480, 3) := by decide +kernel
theorem dX11_judge_7 : decode cX11_judge 7 = .ok (.ifCond .eq 13, 3) := by decide +kernel
theorem dX11_judge_10 : decode cX11_judge 10 = .ok (.aload_n 0, 1) := by decide +kernel
theorem dX11_judge_11 : decode cX11_judge 11 = .ok (.iload_n 1, 1) := by decide +kernel
theorem dX11_judge_12 : decode cX11_judge 12 = .ok (.iload_n 2, 1) := by decide +kernel
theorem dX11_judge_13 : decode cX11_judge 13 = .ok (.iload_n 3, 1) := by decide +kernel
theorem dX11_judge_14 : decode cX11_judge 14 = .ok (.invokevirtual 483, 3) := by decide +kernel
theorem dX11_judge_17 : decode cX11_judge 17 = .ok (.goto 6, 3) := by decide +kernel
theorem dX11_judge_20 : decode cX11_judge 20 = .ok (.ldc2_w 489, 3) := by decide +kernel
theorem dX11_judge_23 : decode cX11_judge 23 = .ok (.dreturn, 1) := by decide +kernel
theorem okX11_judge : ab_okM MX11_judge 3 := ⟨by decide, ⟨by decide, by decide⟩, ab_in 1712 (by decide +kernel) (by decide +kernel), ab_in 86 (by decide +kernel) (by decide +kernel), by decide +kernel, by decide⟩
set_option maxHeartbeats 4000000 in
set_option maxRecDepth 100000 in
theorem sX11_judge (v1 : Int32) (v2 : Int32) (v3 : Int32)  (x : ab_X) (K : UInt64 → ab_X → Prop) (d bc bs : Nat) (hdp : 4 ≤ d) (h : wX11_judge v1 v2 v3 x K) : EW MX11_judge 0 [(0, .ref 0), (1, .int v1), (2, .int v2), (3, .int v3)] [] (aS x) d bc bs (liDI K) := by
  unfold wX11_judge at h
  refine EW_aload_n (pc2 := 1) rfl dX11_judge_0 0 rfl ?_
  refine EW_iload_n (pc2 := 2) rfl dX11_judge_1 1 rfl ?_
  refine EW_iload_n (pc2 := 3) rfl dX11_judge_2 2 rfl ?_
  refine EW_iload_n (pc2 := 4) rfl dX11_judge_3 3 rfl ?_
  refine AW_invV (M' := MX11_canJudge) [.int v1, .int v2, .int v3] (rest := []) mlRX11_480 okX11_canJudge (pc2 := 7) rfl dX11_judge_4 rfl rfl (Nat.le_of_ble_eq_true rfl) (Nat.le_of_ble_eq_true rfl) (d' := 2) (by omega) q0 ⟨by decide, rfl⟩ (EW_mono (fun _ _ hr => ?_) (sX11_canJudge v1 v2 v3  x _ _ 0 0 (Nat.le_refl _) h))
  obtain ⟨r1, rfl, rfl, h⟩ := hr
  refine EW_if_eq (tgt := 20) (pc2 := 10) rfl dX11_judge_7 (by decide) (fun q => ?_) (fun q => ?_)
  · replace h := h.1 q
    refine EW_ldc2d cnRX11_489 (pc2 := 23) rfl dX11_judge_20 ?_
    exact EW_dret rfl dX11_judge_23 ⟨_, _, rfl, rfl, h⟩
  · replace h := h.2 q
    refine EW_aload_n (pc2 := 11) rfl dX11_judge_10 0 rfl ?_
    refine EW_iload_n (pc2 := 12) rfl dX11_judge_11 1 rfl ?_
    refine EW_iload_n (pc2 := 13) rfl dX11_judge_12 2 rfl ?_
    refine EW_iload_n (pc2 := 14) rfl dX11_judge_13 3 rfl ?_
    refine AW_invV (M' := MX11_judgement) [.int v1, .int v2, .int v3] (rest := []) mlRX11_483 okX11_judgement (pc2 := 17) rfl dX11_judge_14 rfl rfl (Nat.le_of_ble_eq_true rfl) (Nat.le_of_ble_eq_true rfl) (d' := 3) (by omega) q0 ⟨by decide, rfl⟩ (EW_mono (fun _ _ hr => ?_) (sX11_judgement v1 v2 v3  x _ _ 0 0 (Nat.le_refl _) h))
    obtain ⟨r2, x3, rfl, rfl, h⟩ := hr
    refine EW_goto (tgt := 23) dX11_judge_17 (by decide) ?_
    exact EW_dret rfl dX11_judge_23 ⟨_, _, rfl, rfl, h⟩
abbrev MX11_kept : ab_M := (yX11_kept, cX11_kept, 2, (some .int))
theorem dX11_kept_0 : decode cX11_kept 0 = .ok (.iload_n 0, 1) := by decide +kernel
theorem dX11_kept_1 : decode cX11_kept 1 = .ok (.ifCond .ne 6, 3) := by decide +kernel
theorem dX11_kept_4 : decode cX11_kept 4 = .ok (.iload_n 1, 1) := by decide +kernel
theorem dX11_kept_5 : decode cX11_kept 5 = .ok (.i2b, 1) := by decide +kernel
theorem dX11_kept_6 : decode cX11_kept 6 = .ok (.ireturn, 1) := by decide +kernel
theorem dX11_kept_7 : decode cX11_kept 7 = .ok (.iload_n 0, 1) := by decide +kernel
theorem dX11_kept_8 : decode cX11_kept 8 = .ok (.iconst 1, 1) := by decide +kernel
theorem dX11_kept_9 : decode cX11_kept 9 = .ok (.if_icmp .ne 8, 3) := by decide +kernel
theorem dX11_kept_12 : decode cX11_kept 12 = .ok (.iload_n 1, 1) := by decide +kernel
theorem dX11_kept_13 : decode cX11_kept 13 = .ok (.i2s, 1) := by decide +kernel
theorem dX11_kept_14 : decode cX11_kept 14 = .ok (.goto 4, 3) := by decide +kernel
theorem dX11_kept_17 : decode cX11_kept 17 = .ok (.iload_n 1, 1) := by decide +kernel
theorem dX11_kept_18 : decode cX11_kept 18 = .ok (.ireturn, 1) := by decide +kernel
theorem okX11_kept : ab_okM MX11_kept 2 := ⟨by decide, ⟨by decide, by decide⟩, ab_in 1699 (by decide +kernel) (by decide +kernel), ab_in 86 (by decide +kernel) (by decide +kernel), by decide +kernel, by decide⟩
set_option maxHeartbeats 4000000 in
set_option maxRecDepth 100000 in
theorem sX11_kept (v0 : Int32) (v1 : Int32)  (x : ab_X) (K : Int32 → Prop) (d bc bs : Nat) (hdp : 0 ≤ d) (h : wX11_kept v0 v1 x K) : EW MX11_kept 0 [(0, .int v0), (1, .int v1)] [] (aS x) d bc bs (liP x K) := by
  unfold wX11_kept at h
  refine EW_iload_n (pc2 := 1) rfl dX11_kept_0 0 rfl ?_
  refine EW_if_ne (tgt := 7) (pc2 := 4) rfl dX11_kept_1 (by decide) (fun q => ?_) (fun q => ?_)
  · replace h := h.1 q
    refine EW_iload_n (pc2 := 8) rfl dX11_kept_7 0 rfl ?_
    refine EW_iconst (pc2 := 9) (v := 1) rfl dX11_kept_8 (by decide) ?_
    refine EW_icmp_ne (tgt := 17) (pc2 := 12) rfl dX11_kept_9 (by decide) (fun q => ?_) (fun q => ?_)
    · replace h := h.1 q
      refine EW_iload_n (pc2 := 18) rfl dX11_kept_17 1 rfl ?_
      exact AW_iret rfl dX11_kept_18 ⟨_, rfl, rfl, h⟩
    · replace h := h.2 q
      refine EW_iload_n (pc2 := 13) rfl dX11_kept_12 1 rfl ?_
      refine EW_i2s (pc2 := 14) (v := (v1).toInt16.toInt32) rfl dX11_kept_13 rfl ?_
      refine EW_goto (tgt := 18) dX11_kept_14 (by decide) ?_
      exact AW_iret rfl dX11_kept_18 ⟨_, rfl, rfl, h⟩
  · replace h := h.2 q
    refine EW_iload_n (pc2 := 5) rfl dX11_kept_4 1 rfl ?_
    refine EW_i2b (pc2 := 6) (v := (v1).toInt8.toInt32) rfl dX11_kept_5 rfl ?_
    exact AW_iret rfl dX11_kept_6 ⟨_, rfl, rfl, h⟩
theorem gfRX11_385 : ab_L RX11 385 0 8 := ⟨by decide, by decide, ab_in 559 (by decide +kernel) (by decide +kernel)⟩
abbrev MX11_leaving : ab_M := (yX11_leaving, cX11_leaving, 1, (some .boolean))
theorem dX11_leaving_0 : decode cX11_leaving 0 = .ok (.aload_n 0, 1) := by decide +kernel
theorem dX11_leaving_1 : decode cX11_leaving 1 = .ok (.getfield 37, 3) := by decide +kernel
theorem dX11_leaving_4 : decode cX11_leaving 4 = .ok (.iconst 1, 1) := by decide +kernel
theorem dX11_leaving_5 : decode cX11_leaving 5 = .ok (.invokevirtual 368, 3) := by decide +kernel
theorem dX11_leaving_8 : decode cX11_leaving 8 = .ok (.ifCond .ne 5, 3) := by decide +kernel
theorem dX11_leaving_11 : decode cX11_leaving 11 = .ok (.iconst 0, 1) := by decide +kernel
theorem dX11_leaving_12 : decode cX11_leaving 12 = .ok (.ireturn, 1) := by decide +kernel
theorem dX11_leaving_13 : decode cX11_leaving 13 = .ok (.aload_n 0, 1) := by decide +kernel
theorem dX11_leaving_14 : decode cX11_leaving 14 = .ok (.getfield 37, 3) := by decide +kernel
theorem dX11_leaving_17 : decode cX11_leaving 17 = .ok (.aload_n 0, 1) := by decide +kernel
theorem dX11_leaving_18 : decode cX11_leaving 18 = .ok (.getfield 30, 3) := by decide +kernel
theorem dX11_leaving_21 : decode cX11_leaving 21 = .ok (.getfield 385, 3) := by decide +kernel
theorem dX11_leaving_24 : decode cX11_leaving 24 = .ok (.invokevirtual 381, 3) := by decide +kernel
theorem dX11_leaving_27 : decode cX11_leaving 27 = .ok (.iconst 1, 1) := by decide +kernel
theorem dX11_leaving_28 : decode cX11_leaving 28 = .ok (.ireturn, 1) := by decide +kernel
theorem okX11_leaving : ab_okM MX11_leaving 0 := ⟨by decide, ⟨by decide, by decide⟩, ab_in 1341 (by decide +kernel) (by decide +kernel), ab_in 86 (by decide +kernel) (by decide +kernel), by decide +kernel, by decide⟩
set_option maxHeartbeats 4000000 in
set_option maxRecDepth 100000 in
theorem sX11_leaving   (x : ab_X) (K : Int32 → ab_X → Prop) (d bc bs : Nat) (hdp : 212 ≤ d) (h : wX11_leaving  x K) : EW MX11_leaving 0 [(0, .ref 0)] [] (aS x) d bc bs (liI K) := by
  unfold wX11_leaving at h
  refine EW_aload_n (pc2 := 1) rfl dX11_leaving_0 0 rfl ?_
  refine AW_getr (r := 158) ⟨gfRX11_37, rfl⟩ (pc2 := 4) rfl dX11_leaving_1 q0 rfl ?_
  refine EW_iconst (pc2 := 5) (v := 1) rfl dX11_leaving_4 (by decide) ?_
  refine AW_invV (M' := MX8_parse) [.int 1] (rest := []) mlRX11_368 okX8_parse (pc2 := 8) rfl dX11_leaving_5 rfl rfl (Nat.le_of_ble_eq_true rfl) (Nat.le_of_ble_eq_true rfl) (d' := 211) (by omega) q158 ⟨by decide, rfl⟩ (EW_mono (fun _ _ hr => ?_) (sX8_parse 1  x _ _ 0 0 (Nat.le_refl _) h))
  obtain ⟨r1, x2, rfl, rfl, h⟩ := hr
  refine EW_if_ne (tgt := 13) (pc2 := 11) rfl dX11_leaving_8 (by decide) (fun q => ?_) (fun q => ?_)
  · replace h := h.1 q
    refine EW_aload_n (pc2 := 14) rfl dX11_leaving_13 0 rfl ?_
    refine AW_getr (r := 158) ⟨gfRX11_37, rfl⟩ (pc2 := 17) rfl dX11_leaving_14 q0 rfl ?_
    refine EW_aload_n (pc2 := 18) rfl dX11_leaving_17 0 rfl ?_
    refine AW_getr (r := 66) ⟨gfRX11_30, rfl⟩ (pc2 := 21) rfl dX11_leaving_18 q0 rfl ?_
    refine AW_getr (r := 74) ⟨gfRX11_385, rfl⟩ (pc2 := 24) rfl dX11_leaving_21 q66 rfl ?_
    refine AW_invV (M' := MX8_handOver) [.ref 74] (rest := []) mlRX11_381 okX8_handOver (pc2 := 27) rfl dX11_leaving_24 rfl rfl (Nat.le_of_ble_eq_true rfl) (Nat.le_of_ble_eq_true rfl) (d' := 2) (by omega) q158 ⟨by decide, rfl⟩ (EW_mono (fun _ _ hr => ?_) (sX8_handOver 74 (Or.inr (Or.inl rfl) : isT 74) x2 _ _ 0 0 (Nat.le_refl _) h))
    obtain ⟨x3, rfl, rfl, h⟩ := hr
    refine EW_iconst (pc2 := 28) (v := 1) rfl dX11_leaving_27 (by decide) ?_
    exact AW_zret rfl isB1 dX11_leaving_28 ⟨_, _, rfl, rfl, h⟩
  · replace h := h.2 q
    refine EW_iconst (pc2 := 12) (v := 0) rfl dX11_leaving_11 (by decide) ?_
    exact AW_zret rfl isB0 dX11_leaving_12 ⟨_, _, rfl, rfl, h⟩
abbrev MX3_kindle : ab_M := (yX3_kindle, cX3_kindle, 2, none)
theorem dX3_kindle_0 : decode cX3_kindle 0 = .ok (.aload_n 0, 1) := by decide +kernel
theorem dX3_kindle_1 : decode cX3_kindle 1 = .ok (.getfield 9, 3) := by decide +kernel
theorem dX3_kindle_4 : decode cX3_kindle 4 = .ok (.iload_n 1, 1) := by decide +kernel
theorem dX3_kindle_5 : decode cX3_kindle 5 = .ok (.aload_n 0, 1) := by decide +kernel
theorem dX3_kindle_6 : decode cX3_kindle 6 = .ok (.getfield 9, 3) := by decide +kernel
theorem dX3_kindle_9 : decode cX3_kindle 9 = .ok (.iload_n 1, 1) := by decide +kernel
theorem dX3_kindle_10 : decode cX3_kindle 10 = .ok (.iaload, 1) := by decide +kernel
theorem dX3_kindle_11 : decode cX3_kindle 11 = .ok (.sipush 400, 3) := by decide +kernel
theorem dX3_kindle_14 : decode cX3_kindle 14 = .ok (.invokestatic 74, 3) := by decide +kernel
theorem dX3_kindle_17 : decode cX3_kindle 17 = .ok (.iastore, 1) := by decide +kernel
theorem dX3_kindle_18 : decode cX3_kindle 18 = .ok (.aload_n 0, 1) := by decide +kernel
theorem dX3_kindle_19 : decode cX3_kindle 19 = .ok (.iconst 0, 1) := by decide +kernel
theorem dX3_kindle_20 : decode cX3_kindle 20 = .ok (.putfield 34, 3) := by decide +kernel
theorem dX3_kindle_23 : decode cX3_kindle 23 = .ok (.return_, 1) := by decide +kernel
theorem okX3_kindle : ab_okM MX3_kindle 1 := ⟨by decide, ⟨by decide, by decide⟩, ab_in 907 (by decide +kernel) (by decide +kernel), ab_in 90 (by decide +kernel) (by decide +kernel), by decide +kernel, by decide⟩
set_option maxHeartbeats 4000000 in
set_option maxRecDepth 100000 in
theorem sX3_kindle (v0 : Nat) (v1 : Int32) (hv0 : isF v0) (x : ab_X) (K : ab_X → Prop) (d bc bs : Nat) (hdp : 1 ≤ d) (h : wX3_kindle v0 v1 x K) : EW MX3_kindle 0 [(0, .ref v0), (1, .int v1)] [] (aS x) d bc bs (liV K) := by
  unfold wX3_kindle at h
  refine EW_aload_n (pc2 := 1) rfl dX3_kindle_0 0 rfl ?_
  refine AW_getr (r := (v0 + 1)) ⟨gfRX3_9, rfl⟩ (pc2 := 4) rfl dX3_kindle_1 (isF.o hv0) (isF.r0 hv0) ?_
  refine EW_iload_n (pc2 := 5) rfl dX3_kindle_4 1 rfl ?_
  refine EW_aload_n (pc2 := 6) rfl dX3_kindle_5 0 rfl ?_
  refine AW_getr (r := (v0 + 1)) ⟨gfRX3_9, rfl⟩ (pc2 := 9) rfl dX3_kindle_6 (isF.o hv0) (isF.r0 hv0) ?_
  refine EW_iload_n (pc2 := 10) rfl dX3_kindle_9 1 rfl ?_
  obtain ⟨b1, h⟩ := h
  refine AW_iald (pc2 := 11) rfl dX3_kindle_10 (isF.a0 hv0) b1 ?_
  refine EW_sipush (pc2 := 14) (v := 400) rfl dX3_kindle_11 (by decide) ?_
  refine AW_mmax mmRX3_74 (pc2 := 17) rfl dX3_kindle_14 (Nat.le_of_ble_eq_true rfl) (by omega) ?_
  obtain ⟨b2, h⟩ := h
  refine AW_iast (pc2 := 18) rfl dX3_kindle_17 (isF.a0 hv0) b2 ?_
  refine EW_aload_n (pc2 := 19) rfl dX3_kindle_18 0 rfl ?_
  refine EW_iconst (pc2 := 20) (v := 0) rfl dX3_kindle_19 (by decide) ?_
  refine AW_putz ⟨gfRX3_34, rfl, rfl⟩ isB0 (pc2 := 23) rfl dX3_kindle_20 (isF.o hv0) ?_
  exact EW_vret rfl dX3_kindle_23 ⟨_, rfl, rfl, h⟩
theorem mlRX11_173 : Cond.methodLink RX11 173 yX10_hasRoom ∈ ab_G ∧ Cond.instanceMethod yX10_hasRoom ∈ ab_G ∧ Cond.selects RX10 yX10_hasRoom yX10_hasRoom ∈ ab_G := ⟨ab_in 895 (by decide +kernel) (by decide +kernel), ab_in 896 (by decide +kernel) (by decide +kernel), ab_in 897 (by decide +kernel) (by decide +kernel)⟩
theorem mlRX11_176 : Cond.methodLink RX11 176 yX4_floorOf ∈ ab_G ∧ Cond.instanceMethod yX4_floorOf ∈ ab_G ∧ Cond.selects RX4 yX4_floorOf yX4_floorOf ∈ ab_G := ⟨ab_in 899 (by decide +kernel) (by decide +kernel), ab_in 900 (by decide +kernel) (by decide +kernel), ab_in 901 (by decide +kernel) (by decide +kernel)⟩
theorem mlRX11_180 : Cond.methodLink RX11 180 yX4_place ∈ ab_G ∧ Cond.instanceMethod yX4_place ∈ ab_G ∧ Cond.selects RX4 yX4_place yX4_place ∈ ab_G := ⟨ab_in 903 (by decide +kernel) (by decide +kernel), ab_in 872 (by decide +kernel) (by decide +kernel), ab_in 873 (by decide +kernel) (by decide +kernel)⟩
theorem mlRX11_183 : Cond.methodLink RX11 183 yX3_kindle ∈ ab_G ∧ Cond.instanceMethod yX3_kindle ∈ ab_G ∧ Cond.selects RX3 yX3_kindle yX3_kindle ∈ ab_G := ⟨ab_in 904 (by decide +kernel) (by decide +kernel), ab_in 905 (by decide +kernel) (by decide +kernel), ab_in 906 (by decide +kernel) (by decide +kernel)⟩
abbrev MX11_light : ab_M := (yX11_light, cX11_light, 4, (some .boolean))
theorem dX11_light_0 : decode cX11_light 0 = .ok (.aload_n 0, 1) := by decide +kernel
theorem dX11_light_1 : decode cX11_light 1 = .ok (.getfield 21, 3) := by decide +kernel
theorem dX11_light_4 : decode cX11_light 4 = .ok (.iload_n 1, 1) := by decide +kernel
theorem dX11_light_5 : decode cX11_light 5 = .ok (.iload_n 2, 1) := by decide +kernel
theorem dX11_light_6 : decode cX11_light 6 = .ok (.invokevirtual 173, 3) := by decide +kernel
theorem dX11_light_9 : decode cX11_light 9 = .ok (.ifCond .ne 5, 3) := by decide +kernel
theorem dX11_light_12 : decode cX11_light 12 = .ok (.iconst 0, 1) := by decide +kernel
theorem dX11_light_13 : decode cX11_light 13 = .ok (.ireturn, 1) := by decide +kernel
theorem dX11_light_14 : decode cX11_light 14 = .ok (.aload_n 0, 1) := by decide +kernel
theorem dX11_light_15 : decode cX11_light 15 = .ok (.getfield 21, 3) := by decide +kernel
theorem dX11_light_18 : decode cX11_light 18 = .ok (.getfield 127, 3) := by decide +kernel
theorem dX11_light_21 : decode cX11_light 21 = .ok (.iload_n 1, 1) := by decide +kernel
theorem dX11_light_22 : decode cX11_light 22 = .ok (.aaload, 1) := by decide +kernel
theorem dX11_light_23 : decode cX11_light 23 = .ok (.astore_n 3, 1) := by decide +kernel
theorem dX11_light_24 : decode cX11_light 24 = .ok (.aload_n 0, 1) := by decide +kernel
theorem dX11_light_25 : decode cX11_light 25 = .ok (.getfield 21, 3) := by decide +kernel
theorem dX11_light_28 : decode cX11_light 28 = .ok (.getfield 150, 3) := by decide +kernel
theorem dX11_light_31 : decode cX11_light 31 = .ok (.aload_n 3, 1) := by decide +kernel
theorem dX11_light_32 : decode cX11_light 32 = .ok (.aload_n 3, 1) := by decide +kernel
theorem dX11_light_33 : decode cX11_light 33 = .ok (.iload_n 2, 1) := by decide +kernel
theorem dX11_light_34 : decode cX11_light 34 = .ok (.invokevirtual 176, 3) := by decide +kernel
theorem dX11_light_37 : decode cX11_light 37 = .ok (.invokevirtual 154, 3) := by decide +kernel
theorem dX11_light_40 : decode cX11_light 40 = .ok (.ifCond .eq 5, 3) := by decide +kernel
theorem dX11_light_43 : decode cX11_light 43 = .ok (.iconst 0, 1) := by decide +kernel
theorem dX11_light_44 : decode cX11_light 44 = .ok (.ireturn, 1) := by decide +kernel
theorem dX11_light_45 : decode cX11_light 45 = .ok (.aload_n 0, 1) := by decide +kernel
theorem dX11_light_46 : decode cX11_light 46 = .ok (.getfield 21, 3) := by decide +kernel
theorem dX11_light_49 : decode cX11_light 49 = .ok (.getfield 150, 3) := by decide +kernel
theorem dX11_light_52 : decode cX11_light 52 = .ok (.aload_n 3, 1) := by decide +kernel
theorem dX11_light_53 : decode cX11_light 53 = .ok (.iload_n 2, 1) := by decide +kernel
theorem dX11_light_54 : decode cX11_light 54 = .ok (.invokevirtual 180, 3) := by decide +kernel
theorem dX11_light_57 : decode cX11_light 57 = .ok (.invokevirtual 183, 3) := by decide +kernel
theorem dX11_light_60 : decode cX11_light 60 = .ok (.aload_n 0, 1) := by decide +kernel
theorem dX11_light_61 : decode cX11_light 61 = .ok (.getfield 30, 3) := by decide +kernel
theorem dX11_light_64 : decode cX11_light 64 = .ok (.invokevirtual 170, 3) := by decide +kernel
theorem dX11_light_67 : decode cX11_light 67 = .ok (.iconst 1, 1) := by decide +kernel
theorem dX11_light_68 : decode cX11_light 68 = .ok (.ireturn, 1) := by decide +kernel
theorem okX11_light : ab_okM MX11_light 2 := ⟨by decide, ⟨by decide, by decide⟩, ab_in 894 (by decide +kernel) (by decide +kernel), ab_in 86 (by decide +kernel) (by decide +kernel), by decide +kernel, by decide⟩
set_option maxHeartbeats 4000000 in
set_option maxRecDepth 100000 in
theorem sX11_light (v1 : Int32) (v2 : Int32)  (x : ab_X) (K : Int32 → ab_X → Prop) (d bc bs : Nat) (hdp : 4 ≤ d) (h : wX11_light v1 v2 x K) : EW MX11_light 0 [(0, .ref 0), (1, .int v1), (2, .int v2)] [] (aS x) d bc bs (liI K) := by
  unfold wX11_light at h
  refine EW_aload_n (pc2 := 1) rfl dX11_light_0 0 rfl ?_
  refine AW_getr (r := 9) ⟨gfRX11_21, rfl⟩ (pc2 := 4) rfl dX11_light_1 q0 rfl ?_
  refine EW_iload_n (pc2 := 5) rfl dX11_light_4 1 rfl ?_
  refine EW_iload_n (pc2 := 6) rfl dX11_light_5 2 rfl ?_
  refine AW_invV (M' := MX10_hasRoom) [.int v1, .int v2] (rest := []) mlRX11_173 okX10_hasRoom (pc2 := 9) rfl dX11_light_6 rfl rfl (Nat.le_of_ble_eq_true rfl) (Nat.le_of_ble_eq_true rfl) (d' := 2) (by omega) q9 ⟨by decide, rfl⟩ (EW_mono (fun _ _ hr => ?_) (sX10_hasRoom v1 v2  x _ _ 0 0 (Nat.le_refl _) h))
  obtain ⟨r1, rfl, rfl, h⟩ := hr
  refine EW_if_ne (tgt := 14) (pc2 := 12) rfl dX11_light_9 (by decide) (fun q => ?_) (fun q => ?_)
  · replace h := h.1 q
    refine EW_aload_n (pc2 := 15) rfl dX11_light_14 0 rfl ?_
    refine AW_getr (r := 9) ⟨gfRX11_21, rfl⟩ (pc2 := 18) rfl dX11_light_15 q0 rfl ?_
    refine AW_getr (r := 10) ⟨gfRX11_127, rfl⟩ (pc2 := 21) rfl dX11_light_18 q9 rfl ?_
    refine EW_iload_n (pc2 := 22) rfl dX11_light_21 1 rfl ?_
    obtain ⟨b2, h⟩ := h
    refine AW_aald5 (pc2 := 23) rfl dX11_light_22 b2 ?_
    refine EW_astore_n (pc2 := 24) rfl dX11_light_23 (by decide) [1, 2, 3, 0] [(0, .ref 0), (1, .int v1), (2, .int v2), (3, .ref (30 + 3 * Int32.toNatClampNeg v1))] rfl ?_
    refine EW_aload_n (pc2 := 25) rfl dX11_light_24 0 rfl ?_
    refine AW_getr (r := 9) ⟨gfRX11_21, rfl⟩ (pc2 := 28) rfl dX11_light_25 q0 rfl ?_
    refine AW_getr (r := 11) ⟨gfRX11_150, rfl⟩ (pc2 := 31) rfl dX11_light_28 q9 rfl ?_
    refine EW_aload_n (pc2 := 32) rfl dX11_light_31 3 rfl ?_
    refine EW_aload_n (pc2 := 33) rfl dX11_light_32 3 rfl ?_
    refine EW_iload_n (pc2 := 34) rfl dX11_light_33 2 rfl ?_
    refine AW_invV (M' := MX4_floorOf) [.int v2] (rest := [.ref (30 + 3 * Int32.toNatClampNeg v1), .ref 11]) mlRX11_176 okX4_floorOf (pc2 := 37) rfl dX11_light_34 rfl rfl (Nat.le_of_ble_eq_true rfl) (Nat.le_of_ble_eq_true rfl) (d' := 0) (by omega) (isH.o (isH_of b2)) ⟨by decide, rfl⟩ (EW_mono (fun _ _ hr => ?_) (sX4_floorOf (30 + 3 * Int32.toNatClampNeg v1) v2 (isH_of b2) x _ _ 0 0 (Nat.le_refl _) h))
    obtain ⟨r3, rfl, rfl, h⟩ := hr
    refine AW_invV (M' := MX3_hasFallen) [.ref (30 + 3 * Int32.toNatClampNeg v1), .int r3] (rest := []) mlRX11_154 okX3_hasFallen (pc2 := 40) rfl dX11_light_37 rfl rfl (Nat.le_of_ble_eq_true rfl) (Nat.le_of_ble_eq_true rfl) (d' := 1) (by omega) q11 ⟨by decide, rfl⟩ (EW_mono (fun _ _ hr => ?_) (sX3_hasFallen 11 (30 + 3 * Int32.toNatClampNeg v1) r3 (Or.inl rfl : isF 11) (isH_of b2) x _ _ 0 0 (Nat.le_refl _) h))
    obtain ⟨r4, rfl, rfl, h⟩ := hr
    refine EW_if_eq (tgt := 45) (pc2 := 43) rfl dX11_light_40 (by decide) (fun q => ?_) (fun q => ?_)
    · replace h := h.1 q
      refine EW_aload_n (pc2 := 46) rfl dX11_light_45 0 rfl ?_
      refine AW_getr (r := 9) ⟨gfRX11_21, rfl⟩ (pc2 := 49) rfl dX11_light_46 q0 rfl ?_
      refine AW_getr (r := 11) ⟨gfRX11_150, rfl⟩ (pc2 := 52) rfl dX11_light_49 q9 rfl ?_
      refine EW_aload_n (pc2 := 53) rfl dX11_light_52 3 rfl ?_
      refine EW_iload_n (pc2 := 54) rfl dX11_light_53 2 rfl ?_
      refine AW_invV (M' := MX4_place) [.int v2] (rest := [.ref 11]) mlRX11_180 okX4_place (pc2 := 57) rfl dX11_light_54 rfl rfl (Nat.le_of_ble_eq_true rfl) (Nat.le_of_ble_eq_true rfl) (d' := 0) (by omega) (isH.o (isH_of b2)) ⟨by decide, rfl⟩ (EW_mono (fun _ _ hr => ?_) (sX4_place (30 + 3 * Int32.toNatClampNeg v1) v2 (isH_of b2) x _ _ 0 0 (Nat.le_refl _) h))
      obtain ⟨r5, rfl, rfl, h⟩ := hr
      refine AW_invV (M' := MX3_kindle) [.int r5] (rest := []) mlRX11_183 okX3_kindle (pc2 := 60) rfl dX11_light_57 rfl rfl (Nat.le_of_ble_eq_true rfl) (Nat.le_of_ble_eq_true rfl) (d' := 1) (by omega) q11 ⟨by decide, rfl⟩ (EW_mono (fun _ _ hr => ?_) (sX3_kindle 11 r5 (Or.inl rfl : isF 11) x _ _ 0 0 (Nat.le_refl _) h))
      obtain ⟨x6, rfl, rfl, h⟩ := hr
      refine EW_aload_n (pc2 := 61) rfl dX11_light_60 0 rfl ?_
      refine AW_getr (r := 66) ⟨gfRX11_30, rfl⟩ (pc2 := 64) rfl dX11_light_61 q0 rfl ?_
      refine AW_invV (M' := MX0_witness) [] (rest := []) mlRX11_170 okX0_witness (pc2 := 67) rfl dX11_light_64 rfl rfl (Nat.le_of_ble_eq_true rfl) (Nat.le_of_ble_eq_true rfl) (d' := 3) (by omega) q66 ⟨by decide, rfl⟩ (EW_mono (fun _ _ hr => ?_) (sX0_witness   x6 _ _ 0 0 (Nat.le_refl _) h))
      obtain ⟨x7, rfl, rfl, h⟩ := hr
      refine EW_iconst (pc2 := 68) (v := 1) rfl dX11_light_67 (by decide) ?_
      exact AW_zret rfl isB1 dX11_light_68 ⟨_, _, rfl, rfl, h⟩
    · replace h := h.2 q
      refine EW_iconst (pc2 := 44) (v := 0) rfl dX11_light_43 (by decide) ?_
      exact AW_zret rfl isB0 dX11_light_44 ⟨_, _, rfl, rfl, h⟩
  · replace h := h.2 q
    refine EW_iconst (pc2 := 13) (v := 0) rfl dX11_light_12 (by decide) ?_
    exact AW_zret rfl isB0 dX11_light_13 ⟨_, _, rfl, rfl, h⟩
abbrev MX11_look : ab_M := (yX11_look, cX11_look, 2, (some .boolean))
theorem dX11_look_0 : decode cX11_look 0 = .ok (.aload_n 0, 1) := by decide +kernel
theorem dX11_look_1 : decode cX11_look 1 = .ok (.getfield 21, 3) := by decide +kernel
theorem dX11_look_4 : decode cX11_look 4 = .ok (.iload_n 1, 1) := by decide +kernel
theorem dX11_look_5 : decode cX11_look 5 = .ok (.invokevirtual 124, 3) := by decide +kernel
theorem dX11_look_8 : decode cX11_look 8 = .ok (.ifCond .eq 33, 3) := by decide +kernel
theorem dX11_look_11 : decode cX11_look 11 = .ok (.aload_n 0, 1) := by decide +kernel
theorem dX11_look_12 : decode cX11_look 12 = .ok (.getfield 46, 3) := by decide +kernel
theorem dX11_look_15 : decode cX11_look 15 = .ok (.iload_n 1, 1) := by decide +kernel
theorem dX11_look_16 : decode cX11_look 16 = .ok (.aload_n 0, 1) := by decide +kernel
theorem dX11_look_17 : decode cX11_look 17 = .ok (.getfield 30, 3) := by decide +kernel
theorem dX11_look_20 : decode cX11_look 20 = .ok (.getfield 400, 3) := by decide +kernel
theorem dX11_look_23 : decode cX11_look 23 = .ok (.iconst (-1), 1) := by decide +kernel
theorem dX11_look_24 : decode cX11_look 24 = .ok (.aload_n 0, 1) := by decide +kernel
theorem dX11_look_25 : decode cX11_look 25 = .ok (.getfield 30, 3) := by decide +kernel
theorem dX11_look_28 : decode cX11_look 28 = .ok (.getfield 400, 3) := by decide +kernel
theorem dX11_look_31 : decode cX11_look 31 = .ok (.invokevirtual 422, 3) := by decide +kernel
theorem dX11_look_34 : decode cX11_look 34 = .ok (.ifCond .eq 7, 3) := by decide +kernel
theorem dX11_look_37 : decode cX11_look 37 = .ok (.iconst 1, 1) := by decide +kernel
theorem dX11_look_38 : decode cX11_look 38 = .ok (.goto 4, 3) := by decide +kernel
theorem dX11_look_41 : decode cX11_look 41 = .ok (.iconst 0, 1) := by decide +kernel
theorem dX11_look_42 : decode cX11_look 42 = .ok (.ireturn, 1) := by decide +kernel
theorem okX11_look : ab_okM MX11_look 1 := ⟨by decide, ⟨by decide, by decide⟩, ab_in 1550 (by decide +kernel) (by decide +kernel), ab_in 86 (by decide +kernel) (by decide +kernel), by decide +kernel, by decide⟩
set_option maxHeartbeats 4000000 in
set_option maxRecDepth 100000 in
theorem sX11_look (v1 : Int32)  (x : ab_X) (K : Int32 → ab_X → Prop) (d bc bs : Nat) (hdp : 2 ≤ d) (h : wX11_look v1 x K) : EW MX11_look 0 [(0, .ref 0), (1, .int v1)] [] (aS x) d bc bs (liI K) := by
  unfold wX11_look at h
  refine EW_aload_n (pc2 := 1) rfl dX11_look_0 0 rfl ?_
  refine AW_getr (r := 9) ⟨gfRX11_21, rfl⟩ (pc2 := 4) rfl dX11_look_1 q0 rfl ?_
  refine EW_iload_n (pc2 := 5) rfl dX11_look_4 1 rfl ?_
  refine AW_invV (M' := MX10_has) [.int v1] (rest := []) mlRX11_124 okX10_has (pc2 := 8) rfl dX11_look_5 rfl rfl (Nat.le_of_ble_eq_true rfl) (Nat.le_of_ble_eq_true rfl) (d' := 1) (by omega) q9 ⟨by decide, rfl⟩ (EW_mono (fun _ _ hr => ?_) (sX10_has v1  x _ _ 0 0 (Nat.le_refl _) h))
  obtain ⟨r1, rfl, rfl, h⟩ := hr
  refine EW_if_eq (tgt := 41) (pc2 := 11) rfl dX11_look_8 (by decide) (fun q => ?_) (fun q => ?_)
  · replace h := h.1 q
    refine EW_iconst (pc2 := 42) (v := 0) rfl dX11_look_41 (by decide) ?_
    exact AW_zret rfl isB0 dX11_look_42 ⟨_, _, rfl, rfl, h⟩
  · replace h := h.2 q
    refine EW_aload_n (pc2 := 12) rfl dX11_look_11 0 rfl ?_
    refine AW_getr (r := 165) ⟨gfRX11_46, rfl⟩ (pc2 := 15) rfl dX11_look_12 q0 rfl ?_
    refine EW_iload_n (pc2 := 16) rfl dX11_look_15 1 rfl ?_
    refine EW_aload_n (pc2 := 17) rfl dX11_look_16 0 rfl ?_
    refine AW_getr (r := 66) ⟨gfRX11_30, rfl⟩ (pc2 := 20) rfl dX11_look_17 q0 rfl ?_
    refine AW_geti ⟨gfRX11_400, rfl⟩ (pc2 := 23) rfl dX11_look_20 q66 ?_
    refine EW_iconst (pc2 := 24) (v := (-1)) rfl dX11_look_23 (by decide) ?_
    refine EW_aload_n (pc2 := 25) rfl dX11_look_24 0 rfl ?_
    refine AW_getr (r := 66) ⟨gfRX11_30, rfl⟩ (pc2 := 28) rfl dX11_look_25 q0 rfl ?_
    refine AW_geti ⟨gfRX11_400, rfl⟩ (pc2 := 31) rfl dX11_look_28 q66 ?_
    refine AW_invV (M' := MX5_tell) [.int v1, .int (x.1 66 12), .int (-1), .int (x.1 66 12)] (rest := []) mlRX11_422 okX5_tell (pc2 := 34) rfl dX11_look_31 rfl rfl (Nat.le_of_ble_eq_true rfl) (Nat.le_of_ble_eq_true rfl) (d' := 0) (by omega) q165 ⟨by decide, rfl⟩ (EW_mono (fun _ _ hr => ?_) (sX5_tell v1 (x.1 66 12) (-1) (x.1 66 12)  x _ _ 0 0 (Nat.le_refl _) h))
    obtain ⟨r2, x3, rfl, rfl, h⟩ := hr
    refine EW_if_eq (tgt := 41) (pc2 := 37) rfl dX11_look_34 (by decide) (fun q => ?_) (fun q => ?_)
    · replace h := h.1 q
      refine EW_iconst (pc2 := 42) (v := 0) rfl dX11_look_41 (by decide) ?_
      exact AW_zret rfl isB0 dX11_look_42 ⟨_, _, rfl, rfl, h⟩
    · replace h := h.2 q
      refine EW_iconst (pc2 := 38) (v := 1) rfl dX11_look_37 (by decide) ?_
      refine EW_goto (tgt := 42) dX11_look_38 (by decide) ?_
      exact AW_zret rfl isB1 dX11_look_42 ⟨_, _, rfl, rfl, h⟩
abbrev MX11_lose : ab_M := (yX11_lose, cX11_lose, 2, (some .boolean))
theorem dX11_lose_0 : decode cX11_lose 0 = .ok (.aload_n 0, 1) := by decide +kernel
theorem dX11_lose_1 : decode cX11_lose 1 = .ok (.iload_n 1, 1) := by decide +kernel
theorem dX11_lose_2 : decode cX11_lose 2 = .ok (.invokevirtual 467, 3) := by decide +kernel
theorem dX11_lose_5 : decode cX11_lose 5 = .ok (.ifCond .ne 5, 3) := by decide +kernel
theorem dX11_lose_8 : decode cX11_lose 8 = .ok (.iconst 0, 1) := by decide +kernel
theorem dX11_lose_9 : decode cX11_lose 9 = .ok (.ireturn, 1) := by decide +kernel
theorem dX11_lose_10 : decode cX11_lose 10 = .ok (.aload_n 0, 1) := by decide +kernel
theorem dX11_lose_11 : decode cX11_lose 11 = .ok (.getfield 63, 3) := by decide +kernel
theorem dX11_lose_14 : decode cX11_lose 14 = .ok (.iload_n 1, 1) := by decide +kernel
theorem dX11_lose_15 : decode cX11_lose 15 = .ok (.iconst 1, 1) := by decide +kernel
theorem dX11_lose_16 : decode cX11_lose 16 = .ok (.bastore, 1) := by decide +kernel
theorem dX11_lose_17 : decode cX11_lose 17 = .ok (.iconst 1, 1) := by decide +kernel
theorem dX11_lose_18 : decode cX11_lose 18 = .ok (.ireturn, 1) := by decide +kernel
theorem okX11_lose : ab_okM MX11_lose 1 := ⟨by decide, ⟨by decide, by decide⟩, ab_in 1703 (by decide +kernel) (by decide +kernel), ab_in 86 (by decide +kernel) (by decide +kernel), by decide +kernel, by decide⟩
set_option maxHeartbeats 4000000 in
set_option maxRecDepth 100000 in
theorem sX11_lose (v1 : Int32)  (x : ab_X) (K : Int32 → ab_X → Prop) (d bc bs : Nat) (hdp : 2 ≤ d) (h : wX11_lose v1 x K) : EW MX11_lose 0 [(0, .ref 0), (1, .int v1)] [] (aS x) d bc bs (liI K) := by
  unfold wX11_lose at h
  refine EW_aload_n (pc2 := 1) rfl dX11_lose_0 0 rfl ?_
  refine EW_iload_n (pc2 := 2) rfl dX11_lose_1 1 rfl ?_
  refine AW_invV (M' := MX11_hasRow) [.int v1] (rest := []) mlRX11_467 okX11_hasRow (pc2 := 5) rfl dX11_lose_2 rfl rfl (Nat.le_of_ble_eq_true rfl) (Nat.le_of_ble_eq_true rfl) (d' := 1) (by omega) q0 ⟨by decide, rfl⟩ (EW_mono (fun _ _ hr => ?_) (sX11_hasRow v1  x _ _ 0 0 (Nat.le_refl _) h))
  obtain ⟨r1, rfl, rfl, h⟩ := hr
  refine EW_if_ne (tgt := 10) (pc2 := 8) rfl dX11_lose_5 (by decide) (fun q => ?_) (fun q => ?_)
  · replace h := h.1 q
    refine EW_aload_n (pc2 := 11) rfl dX11_lose_10 0 rfl ?_
    refine AW_getr (r := 244) ⟨gfRX11_63, rfl⟩ (pc2 := 14) rfl dX11_lose_11 q0 rfl ?_
    refine EW_iload_n (pc2 := 15) rfl dX11_lose_14 1 rfl ?_
    refine EW_iconst (pc2 := 16) (v := 1) rfl dX11_lose_15 (by decide) ?_
    obtain ⟨b2, h⟩ := h
    refine AW_zast (pc2 := 17) rfl dX11_lose_16 q244 b2 isB1 ?_
    refine EW_iconst (pc2 := 18) (v := 1) rfl dX11_lose_17 (by decide) ?_
    exact AW_zret rfl isB1 dX11_lose_18 ⟨_, _, rfl, rfl, h⟩
  · replace h := h.2 q
    refine EW_iconst (pc2 := 9) (v := 0) rfl dX11_lose_8 (by decide) ?_
    exact AW_zret rfl isB0 dX11_lose_9 ⟨_, _, rfl, rfl, h⟩
