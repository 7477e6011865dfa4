theorem mlRX2_47 : Cond.methodLinkNest RX2 47 yX11_within "CityBrigade" ∈ tables_1.filter ab_isN ∧ Cond.static yX11_within ∈ ab_G := ⟨List.mem_filter.mpr ⟨List.mem_of_getElem? (i := 903) (by decide +kernel), rfl⟩, ab_in 771 (by decide +kernel) (by decide +kernel)⟩
abbrev MX2_fits : ab_M := (yX2_fits, cX2_fits, 5, (some .boolean))
theorem dX2_fits_0 : decode cX2_fits 0 = .ok (.aload_n 0, 1) := by decide +kernel
theorem dX2_fits_1 : decode cX2_fits 1 = .ok (.invokevirtual 43, 3) := by decide +kernel
theorem dX2_fits_4 : decode cX2_fits 4 = .ok (.ifCond .eq 66, 3) := by decide +kernel
theorem dX2_fits_7 : decode cX2_fits 7 = .ok (.aload_n 0, 1) := by decide +kernel
theorem dX2_fits_8 : decode cX2_fits 8 = .ok (.getfield 30, 3) := by decide +kernel
theorem dX2_fits_11 : decode cX2_fits 11 = .ok (.ifCond .ne 15, 3) := by decide +kernel
theorem dX2_fits_14 : decode cX2_fits 14 = .ok (.iload_n 3, 1) := by decide +kernel
theorem dX2_fits_15 : decode cX2_fits 15 = .ok (.ifCond .ne 7, 3) := by decide +kernel
theorem dX2_fits_18 : decode cX2_fits 18 = .ok (.iconst 1, 1) := by decide +kernel
theorem dX2_fits_19 : decode cX2_fits 19 = .ok (.goto 14, 3) := by decide +kernel
theorem dX2_fits_22 : decode cX2_fits 22 = .ok (.iconst 0, 1) := by decide +kernel
theorem dX2_fits_23 : decode cX2_fits 23 = .ok (.goto 10, 3) := by decide +kernel
theorem dX2_fits_26 : decode cX2_fits 26 = .ok (.iload_n 3, 1) := by decide +kernel
theorem dX2_fits_27 : decode cX2_fits 27 = .ok (.iconst 1, 1) := by decide +kernel
theorem dX2_fits_28 : decode cX2_fits 28 = .ok (.bipush 30, 2) := by decide +kernel
theorem dX2_fits_30 : decode cX2_fits 30 = .ok (.invokestatic 47, 3) := by decide +kernel
theorem dX2_fits_33 : decode cX2_fits 33 = .ok (.istore 4, 2) := by decide +kernel
theorem dX2_fits_35 : decode cX2_fits 35 = .ok (.iload_n 1, 1) := by decide +kernel
theorem dX2_fits_36 : decode cX2_fits 36 = .ok (.bipush 100, 2) := by decide +kernel
theorem dX2_fits_38 : decode cX2_fits 38 = .ok (.sipush 3000, 3) := by decide +kernel
theorem dX2_fits_41 : decode cX2_fits 41 = .ok (.invokestatic 47, 3) := by decide +kernel
theorem dX2_fits_44 : decode cX2_fits 44 = .ok (.ifCond .eq 24, 3) := by decide +kernel
theorem dX2_fits_47 : decode cX2_fits 47 = .ok (.iload_n 2, 1) := by decide +kernel
theorem dX2_fits_48 : decode cX2_fits 48 = .ok (.bipush 10, 2) := by decide +kernel
theorem dX2_fits_50 : decode cX2_fits 50 = .ok (.sipush 500, 3) := by decide +kernel
theorem dX2_fits_53 : decode cX2_fits 53 = .ok (.invokestatic 47, 3) := by decide +kernel
theorem dX2_fits_56 : decode cX2_fits 56 = .ok (.ifCond .eq 12, 3) := by decide +kernel
theorem dX2_fits_59 : decode cX2_fits 59 = .ok (.iload 4, 2) := by decide +kernel
theorem dX2_fits_61 : decode cX2_fits 61 = .ok (.ifCond .eq 7, 3) := by decide +kernel
theorem dX2_fits_64 : decode cX2_fits 64 = .ok (.iconst 1, 1) := by decide +kernel
theorem dX2_fits_65 : decode cX2_fits 65 = .ok (.goto 4, 3) := by decide +kernel
theorem dX2_fits_68 : decode cX2_fits 68 = .ok (.iconst 0, 1) := by decide +kernel
theorem dX2_fits_69 : decode cX2_fits 69 = .ok (.ireturn, 1) := by decide +kernel
theorem dX2_fits_70 : decode cX2_fits 70 = .ok (.aload_n 0, 1) := by decide +kernel
theorem dX2_fits_71 : decode cX2_fits 71 = .ok (.getfield 30, 3) := by decide +kernel
theorem dX2_fits_74 : decode cX2_fits 74 = .ok (.iconst 2, 1) := by decide +kernel
theorem dX2_fits_75 : decode cX2_fits 75 = .ok (.if_icmp .ne 16, 3) := by decide +kernel
theorem dX2_fits_78 : decode cX2_fits 78 = .ok (.iload_n 1, 1) := by decide +kernel
theorem dX2_fits_79 : decode cX2_fits 79 = .ok (.iconst 1, 1) := by decide +kernel
theorem dX2_fits_80 : decode cX2_fits 80 = .ok (.bipush 6, 2) := by decide +kernel
theorem dX2_fits_82 : decode cX2_fits 82 = .ok (.invokestatic 47, 3) := by decide +kernel
theorem dX2_fits_85 : decode cX2_fits 85 = .ok (.ifCond .eq 22, 3) := by decide +kernel
theorem dX2_fits_88 : decode cX2_fits 88 = .ok (.goto 7, 3) := by decide +kernel
theorem dX2_fits_91 : decode cX2_fits 91 = .ok (.iload_n 1, 1) := by decide +kernel
theorem dX2_fits_92 : decode cX2_fits 92 = .ok (.ifCond .ne 15, 3) := by decide +kernel
theorem dX2_fits_95 : decode cX2_fits 95 = .ok (.iload_n 2, 1) := by decide +kernel
theorem dX2_fits_96 : decode cX2_fits 96 = .ok (.ifCond .ne 11, 3) := by decide +kernel
theorem dX2_fits_99 : decode cX2_fits 99 = .ok (.iload_n 3, 1) := by decide +kernel
theorem dX2_fits_100 : decode cX2_fits 100 = .ok (.ifCond .ne 7, 3) := by decide +kernel
theorem dX2_fits_103 : decode cX2_fits 103 = .ok (.iconst 1, 1) := by decide +kernel
theorem dX2_fits_104 : decode cX2_fits 104 = .ok (.goto 4, 3) := by decide +kernel
theorem dX2_fits_107 : decode cX2_fits 107 = .ok (.iconst 0, 1) := by decide +kernel
theorem dX2_fits_108 : decode cX2_fits 108 = .ok (.ireturn, 1) := by decide +kernel
theorem okX2_fits : ab_okM MX2_fits 3 := ⟨by decide, ⟨by decide, by decide⟩, ab_in 987 (by decide +kernel) (by decide +kernel), ab_in 94 (by decide +kernel) (by decide +kernel), by decide +kernel, by decide⟩
set_option maxHeartbeats 4000000 in
set_option maxRecDepth 100000 in
def wX2_fits_95 (v2 : Int32) (v3 : Int32) (x : ab_X) (K : Int32 → Prop)  : Prop := ((¬ v2 = 0 → K 0) ∧ (v2 = 0 → ((¬ v3 = 0 → K 0) ∧ (v3 = 0 → K 1))))
set_option maxHeartbeats 4000000 in
set_option maxRecDepth 100000 in
theorem sX2_fits_95 (v2 : Int32) (v3 : Int32)  (x : ab_X) (K : Int32 → Prop)  (d bc bs : Nat) (hdp : 1 ≤ d)  (h : wX2_fits_95 v2 v3 x K ) : EW MX2_fits 95 [(2, .int v2), (3, .int v3)] [] (aS x) d bc bs (liP x K) := by
  unfold wX2_fits_95 at h
  refine EW_iload_n (pc2 := 96) rfl dX2_fits_95 0 rfl ?_
  refine EW_if_ne (tgt := 107) (pc2 := 99) rfl dX2_fits_96 (by decide) (fun q => ?_) (fun q => ?_)
  · replace h := h.1 q
    refine EW_iconst (pc2 := 108) (v := 0) rfl dX2_fits_107 (by decide) ?_
    exact AW_zret rfl isB0 dX2_fits_108 ⟨_, rfl, rfl, h⟩
  · replace h := h.2 q
    refine EW_iload_n (pc2 := 100) rfl dX2_fits_99 1 rfl ?_
    refine EW_if_ne (tgt := 107) (pc2 := 103) rfl dX2_fits_100 (by decide) (fun q => ?_) (fun q => ?_)
    · replace h := h.1 q
      refine EW_iconst (pc2 := 108) (v := 0) rfl dX2_fits_107 (by decide) ?_
      exact AW_zret rfl isB0 dX2_fits_108 ⟨_, rfl, rfl, h⟩
    · replace h := h.2 q
      refine EW_iconst (pc2 := 104) (v := 1) rfl dX2_fits_103 (by decide) ?_
      refine EW_goto (tgt := 108) dX2_fits_104 (by decide) ?_
      exact AW_zret rfl isB1 dX2_fits_108 ⟨_, rfl, rfl, h⟩
set_option maxHeartbeats 4000000 in
set_option maxRecDepth 100000 in
def wX2_fits_33 (v1 : Int32) (v2 : Int32) (s0 : Int32) (x : ab_X) (K : Int32 → Prop)  : Prop := wX11_within v1 100 3000 x (fun r4 => ((r4 = 0 → K 0) ∧ (¬ r4 = 0 → wX11_within v2 10 500 x (fun r5 => ((r5 = 0 → K 0) ∧ (¬ r5 = 0 → ((s0 = 0 → K 0) ∧ (¬ s0 = 0 → K 1))))))))
set_option maxHeartbeats 4000000 in
set_option maxRecDepth 100000 in
theorem sX2_fits_33 (v1 : Int32) (v2 : Int32) (s0 : Int32)  (x : ab_X) (K : Int32 → Prop)  (d bc bs : Nat) (hdp : 1 ≤ d)  (h : wX2_fits_33 v1 v2 s0 x K ) : EW MX2_fits 33 [(1, .int v1), (2, .int v2)] [.int s0] (aS x) d bc bs (liP x K) := by
  unfold wX2_fits_33 at h
  refine EW_istore (pc2 := 35) rfl dX2_fits_33 (by decide) [1, 2, 0] [(1, .int v1), (2, .int v2), (4, .int s0)] rfl ?_
  refine EW_iload_n (pc2 := 36) rfl dX2_fits_35 0 rfl ?_
  refine EW_bipush (pc2 := 38) (v := 100) rfl dX2_fits_36 (by decide) ?_
  refine EW_sipush (pc2 := 41) (v := 3000) rfl dX2_fits_38 (by decide) ?_
  refine AW_invSN (M' := MX11_within) [.int v1, .int 100, .int 3000] (rest := []) mlRX2_47 okX11_within (pc2 := 44) rfl dX2_fits_41 rfl rfl (Nat.le_of_ble_eq_true rfl) (Nat.le_of_ble_eq_true rfl) (d' := 0) (by omega) (EW_mono (fun _ _ hr => ?_) (sX11_within v1 100 3000  x _ _ 0 0 (Nat.le_refl _) h))
  obtain ⟨r4, rfl, rfl, h⟩ := hr
  refine EW_if_eq (tgt := 68) (pc2 := 47) rfl dX2_fits_44 (by decide) (fun q => ?_) (fun q => ?_)
  · replace h := h.1 q
    refine EW_iconst (pc2 := 69) (v := 0) rfl dX2_fits_68 (by decide) ?_
    exact AW_zret rfl isB0 dX2_fits_69 ⟨_, rfl, rfl, h⟩
  · replace h := h.2 q
    refine EW_iload_n (pc2 := 48) rfl dX2_fits_47 1 rfl ?_
    refine EW_bipush (pc2 := 50) (v := 10) rfl dX2_fits_48 (by decide) ?_
    refine EW_sipush (pc2 := 53) (v := 500) rfl dX2_fits_50 (by decide) ?_
    refine AW_invSN (M' := MX11_within) [.int v2, .int 10, .int 500] (rest := []) mlRX2_47 okX11_within (pc2 := 56) rfl dX2_fits_53 rfl rfl (Nat.le_of_ble_eq_true rfl) (Nat.le_of_ble_eq_true rfl) (d' := 0) (by omega) (EW_mono (fun _ _ hr => ?_) (sX11_within v2 10 500  x _ _ 0 0 (Nat.le_refl _) h))
    obtain ⟨r5, rfl, rfl, h⟩ := hr
    refine EW_if_eq (tgt := 68) (pc2 := 59) rfl dX2_fits_56 (by decide) (fun q => ?_) (fun q => ?_)
    · replace h := h.1 q
      refine EW_iconst (pc2 := 69) (v := 0) rfl dX2_fits_68 (by decide) ?_
      exact AW_zret rfl isB0 dX2_fits_69 ⟨_, rfl, rfl, h⟩
    · replace h := h.2 q
      refine EW_iload (pc2 := 61) rfl dX2_fits_59 2 rfl ?_
      refine EW_if_eq (tgt := 68) (pc2 := 64) rfl dX2_fits_61 (by decide) (fun q => ?_) (fun q => ?_)
      · replace h := h.1 q
        refine EW_iconst (pc2 := 69) (v := 0) rfl dX2_fits_68 (by decide) ?_
        exact AW_zret rfl isB0 dX2_fits_69 ⟨_, rfl, rfl, h⟩
      · replace h := h.2 q
        refine EW_iconst (pc2 := 65) (v := 1) rfl dX2_fits_64 (by decide) ?_
        refine EW_goto (tgt := 69) dX2_fits_65 (by decide) ?_
        exact AW_zret rfl isB1 dX2_fits_69 ⟨_, rfl, rfl, h⟩
set_option maxHeartbeats 4000000 in
set_option maxRecDepth 100000 in
def wX2_fits (v0 : Nat) (v1 : Int32) (v2 : Int32) (v3 : Int32) (x : ab_X) (K : Int32 → Prop) : Prop := wX2_hasHose v0 x (fun r1 => ((r1 = 0 → ((¬ (x.1 v0 0) = 2 → ((¬ v1 = 0 → K 0) ∧ (v1 = 0 → wX2_fits_95 v2 v3 x K))) ∧ ((x.1 v0 0) = 2 → wX11_within v1 1 6 x (fun r2 => ((r2 = 0 → K 0) ∧ (¬ r2 = 0 → wX2_fits_95 v2 v3 x K)))))) ∧ (¬ r1 = 0 → ((¬ (x.1 v0 0) = 0 → wX11_within v3 1 30 x (fun r3 => wX2_fits_33 v1 v2 r3 x K)) ∧ ((x.1 v0 0) = 0 → ((¬ v3 = 0 → wX2_fits_33 v1 v2 0 x K) ∧ (v3 = 0 → wX2_fits_33 v1 v2 1 x K)))))))
set_option maxHeartbeats 4000000 in
set_option maxRecDepth 100000 in
theorem sX2_fits (v0 : Nat) (v1 : Int32) (v2 : Int32) (v3 : Int32) (hv0 : isW v0) (x : ab_X) (K : Int32 → Prop) (d bc bs : Nat) (hdp : 1 ≤ d) (h : wX2_fits v0 v1 v2 v3 x K) : EW MX2_fits 0 [(0, .ref v0), (1, .int v1), (2, .int v2), (3, .int v3)] [] (aS x) d bc bs (liP x K) := by
  unfold wX2_fits at h
  refine EW_aload_n (pc2 := 1) rfl dX2_fits_0 0 rfl ?_
  refine AW_invV (M' := MX2_hasHose) [] (rest := []) mlRX2_43 okX2_hasHose (pc2 := 4) rfl dX2_fits_1 rfl rfl (Nat.le_of_ble_eq_true rfl) (Nat.le_of_ble_eq_true rfl) (d' := 0) (by omega) (isW.o hv0) ⟨by decide, rfl⟩ (EW_mono (fun _ _ hr => ?_) (sX2_hasHose v0 hv0 x _ _ 0 0 (Nat.le_refl _) h))
  obtain ⟨r1, rfl, rfl, h⟩ := hr
  refine EW_if_eq (tgt := 70) (pc2 := 7) rfl dX2_fits_4 (by decide) (fun q => ?_) (fun q => ?_)
  · replace h := h.1 q
    refine EW_aload_n (pc2 := 71) rfl dX2_fits_70 0 rfl ?_
    refine AW_geti ⟨gfRX2_30, rfl⟩ (pc2 := 74) rfl dX2_fits_71 (isW.o hv0) ?_
    refine EW_iconst (pc2 := 75) (v := 2) rfl dX2_fits_74 (by decide) ?_
    refine EW_icmp_ne (tgt := 91) (pc2 := 78) rfl dX2_fits_75 (by decide) (fun q => ?_) (fun q => ?_)
    · replace h := h.1 q
      refine EW_iload_n (pc2 := 92) rfl dX2_fits_91 1 rfl ?_
      refine EW_if_ne (tgt := 107) (pc2 := 95) rfl dX2_fits_92 (by decide) (fun q => ?_) (fun q => ?_)
      · replace h := h.1 q
        refine EW_iconst (pc2 := 108) (v := 0) rfl dX2_fits_107 (by decide) ?_
        exact AW_zret rfl isB0 dX2_fits_108 ⟨_, rfl, rfl, h⟩
      · replace h := h.2 q
        refine EW_ls [2, 3] rfl ?_
        exact sX2_fits_95 v2 v3 x K d bc bs hdp h
    · replace h := h.2 q
      refine EW_iload_n (pc2 := 79) rfl dX2_fits_78 1 rfl ?_
      refine EW_iconst (pc2 := 80) (v := 1) rfl dX2_fits_79 (by decide) ?_
      refine EW_bipush (pc2 := 82) (v := 6) rfl dX2_fits_80 (by decide) ?_
      refine AW_invSN (M' := MX11_within) [.int v1, .int 1, .int 6] (rest := []) mlRX2_47 okX11_within (pc2 := 85) rfl dX2_fits_82 rfl rfl (Nat.le_of_ble_eq_true rfl) (Nat.le_of_ble_eq_true rfl) (d' := 0) (by omega) (EW_mono (fun _ _ hr => ?_) (sX11_within v1 1 6  x _ _ 0 0 (Nat.le_refl _) h))
      obtain ⟨r2, rfl, rfl, h⟩ := hr
      refine EW_if_eq (tgt := 107) (pc2 := 88) rfl dX2_fits_85 (by decide) (fun q => ?_) (fun q => ?_)
      · replace h := h.1 q
        refine EW_iconst (pc2 := 108) (v := 0) rfl dX2_fits_107 (by decide) ?_
        exact AW_zret rfl isB0 dX2_fits_108 ⟨_, rfl, rfl, h⟩
      · replace h := h.2 q
        refine EW_goto (tgt := 95) dX2_fits_88 (by decide) ?_
        refine EW_ls [2, 3] rfl ?_
        exact sX2_fits_95 v2 v3 x K d bc bs hdp h
  · replace h := h.2 q
    refine EW_aload_n (pc2 := 8) rfl dX2_fits_7 0 rfl ?_
    refine AW_geti ⟨gfRX2_30, rfl⟩ (pc2 := 11) rfl dX2_fits_8 (isW.o hv0) ?_
    refine EW_if_ne (tgt := 26) (pc2 := 14) rfl dX2_fits_11 (by decide) (fun q => ?_) (fun q => ?_)
    · replace h := h.1 q
      refine EW_iload_n (pc2 := 27) rfl dX2_fits_26 3 rfl ?_
      refine EW_iconst (pc2 := 28) (v := 1) rfl dX2_fits_27 (by decide) ?_
      refine EW_bipush (pc2 := 30) (v := 30) rfl dX2_fits_28 (by decide) ?_
      refine AW_invSN (M' := MX11_within) [.int v3, .int 1, .int 30] (rest := []) mlRX2_47 okX11_within (pc2 := 33) rfl dX2_fits_30 rfl rfl (Nat.le_of_ble_eq_true rfl) (Nat.le_of_ble_eq_true rfl) (d' := 0) (by omega) (EW_mono (fun _ _ hr => ?_) (sX11_within v3 1 30  x _ _ 0 0 (Nat.le_refl _) h))
      obtain ⟨r3, rfl, rfl, h⟩ := hr
      refine EW_ls [1, 2] rfl ?_
      exact sX2_fits_33 v1 v2 r3 x K d bc bs hdp h
    · replace h := h.2 q
      refine EW_iload_n (pc2 := 15) rfl dX2_fits_14 3 rfl ?_
      refine EW_if_ne (tgt := 22) (pc2 := 18) rfl dX2_fits_15 (by decide) (fun q => ?_) (fun q => ?_)
      · replace h := h.1 q
        refine EW_iconst (pc2 := 23) (v := 0) rfl dX2_fits_22 (by decide) ?_
        refine EW_goto (tgt := 33) dX2_fits_23 (by decide) ?_
        refine EW_ls [1, 2] rfl ?_
        exact sX2_fits_33 v1 v2 0 x K d bc bs hdp h
      · replace h := h.2 q
        refine EW_iconst (pc2 := 19) (v := 1) rfl dX2_fits_18 (by decide) ?_
        refine EW_goto (tgt := 33) dX2_fits_19 (by decide) ?_
        refine EW_ls [1, 2] rfl ?_
        exact sX2_fits_33 v1 v2 1 x K d bc bs hdp h
theorem mlRX11_256 : Cond.methodLink RX11 256 yX0_has ∈ ab_G ∧ Cond.instanceMethod yX0_has ∈ ab_G ∧ Cond.selects RX0 yX0_has yX0_has ∈ ab_G := ⟨ab_in 979 (by decide +kernel) (by decide +kernel), ab_in 980 (by decide +kernel) (by decide +kernel), ab_in 981 (by decide +kernel) (by decide +kernel)⟩
theorem gfRX11_257 : ab_L RX11 257 2 8 := ⟨by decide, by decide, ab_in 430 (by decide +kernel) (by decide +kernel)⟩
theorem mlRX11_260 : Cond.methodLink RX11 260 yX2_fits ∈ ab_G ∧ Cond.instanceMethod yX2_fits ∈ ab_G ∧ Cond.selects RX2 yX2_fits yX2_fits ∈ ab_G := ⟨ab_in 984 (by decide +kernel) (by decide +kernel), ab_in 985 (by decide +kernel) (by decide +kernel), ab_in 986 (by decide +kernel) (by decide +kernel)⟩
theorem gfRX11_263 : ab_L RX11 263 2 5 := ⟨by decide, by decide, ab_in 420 (by decide +kernel) (by decide +kernel)⟩
theorem gfRX11_266 : ab_L RX11 266 2 6 := ⟨by decide, by decide, ab_in 423 (by decide +kernel) (by decide +kernel)⟩
theorem gfRX11_269 : ab_L RX11 269 2 7 := ⟨by decide, by decide, ab_in 426 (by decide +kernel) (by decide +kernel)⟩
abbrev MX11_gear : ab_M := (yX11_gear, cX11_gear, 6, (some .boolean))
theorem dX11_gear_0 : decode cX11_gear 0 = .ok (.aload_n 0, 1) := by decide +kernel
theorem dX11_gear_1 : decode cX11_gear 1 = .ok (.getfield 30, 3) := by decide +kernel
theorem dX11_gear_4 : decode cX11_gear 4 = .ok (.iload_n 1, 1) := by decide +kernel
theorem dX11_gear_5 : decode cX11_gear 5 = .ok (.invokevirtual 256, 3) := by decide +kernel
theorem dX11_gear_8 : decode cX11_gear 8 = .ok (.ifCond .ne 5, 3) := by decide +kernel
theorem dX11_gear_11 : decode cX11_gear 11 = .ok (.iconst 0, 1) := by decide +kernel
theorem dX11_gear_12 : decode cX11_gear 12 = .ok (.ireturn, 1) := by decide +kernel
theorem dX11_gear_13 : decode cX11_gear 13 = .ok (.aload_n 0, 1) := by decide +kernel
theorem dX11_gear_14 : decode cX11_gear 14 = .ok (.getfield 30, 3) := by decide +kernel
theorem dX11_gear_17 : decode cX11_gear 17 = .ok (.getfield 241, 3) := by decide +kernel
theorem dX11_gear_20 : decode cX11_gear 20 = .ok (.iload_n 1, 1) := by decide +kernel
theorem dX11_gear_21 : decode cX11_gear 21 = .ok (.aaload, 1) := by decide +kernel
theorem dX11_gear_22 : decode cX11_gear 22 = .ok (.astore 5, 2) := by decide +kernel
theorem dX11_gear_24 : decode cX11_gear 24 = .ok (.aload 5, 2) := by decide +kernel
theorem dX11_gear_26 : decode cX11_gear 26 = .ok (.getfield 257, 3) := by decide +kernel
theorem dX11_gear_29 : decode cX11_gear 29 = .ok (.iconst 2, 1) := by decide +kernel
theorem dX11_gear_30 : decode cX11_gear 30 = .ok (.if_icmp .eq 15, 3) := by decide +kernel
theorem dX11_gear_33 : decode cX11_gear 33 = .ok (.aload 5, 2) := by decide +kernel
theorem dX11_gear_35 : decode cX11_gear 35 = .ok (.iload_n 2, 1) := by decide +kernel
theorem dX11_gear_36 : decode cX11_gear 36 = .ok (.iload_n 3, 1) := by decide +kernel
theorem dX11_gear_37 : decode cX11_gear 37 = .ok (.iload 4, 2) := by decide +kernel
theorem dX11_gear_39 : decode cX11_gear 39 = .ok (.invokevirtual 260, 3) := by decide +kernel
theorem dX11_gear_42 : decode cX11_gear 42 = .ok (.ifCond .ne 5, 3) := by decide +kernel
theorem dX11_gear_45 : decode cX11_gear 45 = .ok (.iconst 0, 1) := by decide +kernel
theorem dX11_gear_46 : decode cX11_gear 46 = .ok (.ireturn, 1) := by decide +kernel
theorem dX11_gear_47 : decode cX11_gear 47 = .ok (.aload 5, 2) := by decide +kernel
theorem dX11_gear_49 : decode cX11_gear 49 = .ok (.iload_n 2, 1) := by decide +kernel
theorem dX11_gear_50 : decode cX11_gear 50 = .ok (.putfield 263, 3) := by decide +kernel
theorem dX11_gear_53 : decode cX11_gear 53 = .ok (.aload 5, 2) := by decide +kernel
theorem dX11_gear_55 : decode cX11_gear 55 = .ok (.iload_n 3, 1) := by decide +kernel
theorem dX11_gear_56 : decode cX11_gear 56 = .ok (.putfield 266, 3) := by decide +kernel
theorem dX11_gear_59 : decode cX11_gear 59 = .ok (.aload 5, 2) := by decide +kernel
theorem dX11_gear_61 : decode cX11_gear 61 = .ok (.iload 4, 2) := by decide +kernel
theorem dX11_gear_63 : decode cX11_gear 63 = .ok (.putfield 269, 3) := by decide +kernel
theorem dX11_gear_66 : decode cX11_gear 66 = .ok (.iconst 1, 1) := by decide +kernel
theorem dX11_gear_67 : decode cX11_gear 67 = .ok (.ireturn, 1) := by decide +kernel
theorem okX11_gear : ab_okM MX11_gear 4 := ⟨by decide, ⟨by decide, by decide⟩, ab_in 978 (by decide +kernel) (by decide +kernel), ab_in 86 (by decide +kernel) (by decide +kernel), by decide +kernel, by decide⟩
set_option maxHeartbeats 4000000 in
set_option maxRecDepth 100000 in
def wX11_gear (v1 : Int32) (v2 : Int32) (v3 : Int32) (v4 : Int32) (x : ab_X) (K : Int32 → ab_X → Prop) : Prop := wX0_has v1 x (fun r1 => ((¬ r1 = 0 → (vp_in v1 16 ∧ (((x.1 (82 + Int32.toNatClampNeg v1) 8) = 2 → K 0 x) ∧ (¬ (x.1 (82 + Int32.toNatClampNeg v1) 8) = 2 → wX2_fits (82 + Int32.toNatClampNeg v1) v2 v3 v4 x (fun r3 => ((¬ r3 = 0 → K 1 (wr (wr (wr x (82 + Int32.toNatClampNeg v1) 5 v2) (82 + Int32.toNatClampNeg v1) 6 v3) (82 + Int32.toNatClampNeg v1) 7 v4)) ∧ (r3 = 0 → K 0 x))))))) ∧ (r1 = 0 → K 0 x)))
set_option maxHeartbeats 4000000 in
set_option maxRecDepth 100000 in
theorem sX11_gear (v1 : Int32) (v2 : Int32) (v3 : Int32) (v4 : Int32)  (x : ab_X) (K : Int32 → ab_X → Prop) (d bc bs : Nat) (hdp : 2 ≤ d) (h : wX11_gear v1 v2 v3 v4 x K) : EW MX11_gear 0 [(0, .ref 0), (1, .int v1), (2, .int v2), (3, .int v3), (4, .int v4)] [] (aS x) d bc bs (liI K) := by
  unfold wX11_gear at h
  refine EW_aload_n (pc2 := 1) rfl dX11_gear_0 0 rfl ?_
  refine AW_getr (r := 66) ⟨gfRX11_30, rfl⟩ (pc2 := 4) rfl dX11_gear_1 q0 rfl ?_
  refine EW_iload_n (pc2 := 5) rfl dX11_gear_4 1 rfl ?_
  refine AW_invV (M' := MX0_has) [.int v1] (rest := []) mlRX11_256 okX0_has (pc2 := 8) rfl dX11_gear_5 rfl rfl (Nat.le_of_ble_eq_true rfl) (Nat.le_of_ble_eq_true rfl) (d' := 1) (by omega) q66 ⟨by decide, rfl⟩ (EW_mono (fun _ _ hr => ?_) (sX0_has v1  x _ _ 0 0 (Nat.le_refl _) h))
  obtain ⟨r1, rfl, rfl, h⟩ := hr
  refine EW_if_ne (tgt := 13) (pc2 := 11) rfl dX11_gear_8 (by decide) (fun q => ?_) (fun q => ?_)
  · replace h := h.1 q
    refine EW_aload_n (pc2 := 14) rfl dX11_gear_13 0 rfl ?_
    refine AW_getr (r := 66) ⟨gfRX11_30, rfl⟩ (pc2 := 17) rfl dX11_gear_14 q0 rfl ?_
    refine AW_getr (r := 67) ⟨gfRX11_241, rfl⟩ (pc2 := 20) rfl dX11_gear_17 q66 rfl ?_
    refine EW_iload_n (pc2 := 21) rfl dX11_gear_20 1 rfl ?_
    obtain ⟨b2, h⟩ := h
    refine AW_aald6 (pc2 := 22) rfl dX11_gear_21 b2 ?_
    refine EW_astore (pc2 := 24) rfl dX11_gear_22 (by decide) [1, 2, 3, 4, 5, 0] [(0, .ref 0), (1, .int v1), (2, .int v2), (3, .int v3), (4, .int v4), (5, .ref (82 + Int32.toNatClampNeg v1))] rfl ?_
    refine EW_aload (pc2 := 26) rfl dX11_gear_24 5 rfl ?_
    refine AW_geti ⟨gfRX11_257, rfl⟩ (pc2 := 29) rfl dX11_gear_26 (isW.o (isW_of b2)) ?_
    refine EW_iconst (pc2 := 30) (v := 2) rfl dX11_gear_29 (by decide) ?_
    refine EW_icmp_eq (tgt := 45) (pc2 := 33) rfl dX11_gear_30 (by decide) (fun q => ?_) (fun q => ?_)
    · replace h := h.1 q
      refine EW_iconst (pc2 := 46) (v := 0) rfl dX11_gear_45 (by decide) ?_
      exact AW_zret rfl isB0 dX11_gear_46 ⟨_, _, rfl, rfl, h⟩
    · replace h := h.2 q
      refine EW_aload (pc2 := 35) rfl dX11_gear_33 5 rfl ?_
      refine EW_iload_n (pc2 := 36) rfl dX11_gear_35 2 rfl ?_
      refine EW_iload_n (pc2 := 37) rfl dX11_gear_36 3 rfl ?_
      refine EW_iload (pc2 := 39) rfl dX11_gear_37 4 rfl ?_
      refine AW_invV (M' := MX2_fits) [.int v2, .int v3, .int v4] (rest := []) mlRX11_260 okX2_fits (pc2 := 42) rfl dX11_gear_39 rfl rfl (Nat.le_of_ble_eq_true rfl) (Nat.le_of_ble_eq_true rfl) (d' := 1) (by omega) (isW.o (isW_of b2)) ⟨by decide, rfl⟩ (EW_mono (fun _ _ hr => ?_) (sX2_fits (82 + Int32.toNatClampNeg v1) v2 v3 v4 (isW_of b2) x _ _ 0 0 (Nat.le_refl _) h))
      obtain ⟨r3, rfl, rfl, h⟩ := hr
      refine EW_if_ne (tgt := 47) (pc2 := 45) rfl dX11_gear_42 (by decide) (fun q => ?_) (fun q => ?_)
      · replace h := h.1 q
        refine EW_aload (pc2 := 49) rfl dX11_gear_47 5 rfl ?_
        refine EW_iload_n (pc2 := 50) rfl dX11_gear_49 2 rfl ?_
        refine AW_puti ⟨gfRX11_263, rfl, rfl⟩ (pc2 := 53) rfl dX11_gear_50 (isW.o (isW_of b2)) ?_
        refine EW_aload (pc2 := 55) rfl dX11_gear_53 5 rfl ?_
        refine EW_iload_n (pc2 := 56) rfl dX11_gear_55 3 rfl ?_
        refine AW_puti ⟨gfRX11_266, rfl, rfl⟩ (pc2 := 59) rfl dX11_gear_56 (isW.o (isW_of b2)) ?_
        refine EW_aload (pc2 := 61) rfl dX11_gear_59 5 rfl ?_
        refine EW_iload (pc2 := 63) rfl dX11_gear_61 4 rfl ?_
        refine AW_puti ⟨gfRX11_269, rfl, rfl⟩ (pc2 := 66) rfl dX11_gear_63 (isW.o (isW_of b2)) ?_
        refine EW_iconst (pc2 := 67) (v := 1) rfl dX11_gear_66 (by decide) ?_
        exact AW_zret rfl isB1 dX11_gear_67 ⟨_, _, rfl, rfl, h⟩
      · replace h := h.2 q
        refine EW_iconst (pc2 := 46) (v := 0) rfl dX11_gear_45 (by decide) ?_
        exact AW_zret rfl isB0 dX11_gear_46 ⟨_, _, rfl, rfl, h⟩
  · replace h := h.2 q
    refine EW_iconst (pc2 := 12) (v := 0) rfl dX11_gear_11 (by decide) ?_
    exact AW_zret rfl isB0 dX11_gear_12 ⟨_, _, rfl, rfl, h⟩
theorem mlRX11_234 : Cond.methodLink RX11 234 yX10_addHead ∈ ab_G ∧ Cond.instanceMethod yX10_addHead ∈ ab_G ∧ Cond.selects RX10 yX10_addHead yX10_addHead ∈ ab_G := ⟨ab_in 955 (by decide +kernel) (by decide +kernel), ab_in 956 (by decide +kernel) (by decide +kernel), ab_in 957 (by decide +kernel) (by decide +kernel)⟩
abbrev MX11_head : ab_M := (yX11_head, cX11_head, 3, (some .int))
theorem dX11_head_0 : decode cX11_head 0 = .ok (.iload_n 1, 1) := by decide +kernel
theorem dX11_head_1 : decode cX11_head 1 = .ok (.invokestatic 70, 3) := by decide +kernel
theorem dX11_head_4 : decode cX11_head 4 = .ok (.ifCond .eq 29, 3) := by decide +kernel
theorem dX11_head_7 : decode cX11_head 7 = .ok (.iload_n 2, 1) := by decide +kernel
theorem dX11_head_8 : decode cX11_head 8 = .ok (.aload_n 0, 1) := by decide +kernel
theorem dX11_head_9 : decode cX11_head 9 = .ok (.getfield 21, 3) := by decide +kernel
theorem dX11_head_12 : decode cX11_head 12 = .ok (.getfield 231, 3) := by decide +kernel
theorem dX11_head_15 : decode cX11_head 15 = .ok (.invokestatic 86, 3) := by decide +kernel
theorem dX11_head_18 : decode cX11_head 18 = .ok (.ifCond .eq 15, 3) := by decide +kernel
theorem dX11_head_21 : decode cX11_head 21 = .ok (.aload_n 0, 1) := by decide +kernel
theorem dX11_head_22 : decode cX11_head 22 = .ok (.getfield 21, 3) := by decide +kernel
theorem dX11_head_25 : decode cX11_head 25 = .ok (.iload_n 1, 1) := by decide +kernel
theorem dX11_head_26 : decode cX11_head 26 = .ok (.iload_n 2, 1) := by decide +kernel
theorem dX11_head_27 : decode cX11_head 27 = .ok (.invokevirtual 234, 3) := by decide +kernel
theorem dX11_head_30 : decode cX11_head 30 = .ok (.goto 4, 3) := by decide +kernel
theorem dX11_head_33 : decode cX11_head 33 = .ok (.iconst (-1), 1) := by decide +kernel
theorem dX11_head_34 : decode cX11_head 34 = .ok (.ireturn, 1) := by decide +kernel
theorem okX11_head : ab_okM MX11_head 2 := ⟨by decide, ⟨by decide, by decide⟩, ab_in 954 (by decide +kernel) (by decide +kernel), ab_in 86 (by decide +kernel) (by decide +kernel), by decide +kernel, by decide⟩
set_option maxHeartbeats 4000000 in
set_option maxRecDepth 100000 in
def wX11_head (v1 : Int32) (v2 : Int32) (x : ab_X) (K : Int32 → ab_X → Prop) : Prop := wX11_isCorner v1 x (fun r1 => ((r1 = 0 → K (-1) x) ∧ (¬ r1 = 0 → wX11_below v2 (x.1 9 6) x (fun r2 => ((r2 = 0 → K (-1) x) ∧ (¬ r2 = 0 → wX10_addHead v1 v2 x (fun r3 x4 => K r3 x4)))))))
set_option maxHeartbeats 4000000 in
set_option maxRecDepth 100000 in
theorem sX11_head (v1 : Int32) (v2 : Int32)  (x : ab_X) (K : Int32 → ab_X → Prop) (d bc bs : Nat) (hdp : 1 ≤ d) (h : wX11_head v1 v2 x K) : EW MX11_head 0 [(0, .ref 0), (1, .int v1), (2, .int v2)] [] (aS x) d bc bs (liI K) := by
  unfold wX11_head at h
  refine EW_iload_n (pc2 := 1) rfl dX11_head_0 1 rfl ?_
  refine AW_invS (M' := MX11_isCorner) [.int v1] (rest := []) mlRX11_70 okX11_isCorner (pc2 := 4) rfl dX11_head_1 rfl rfl (Nat.le_of_ble_eq_true rfl) (Nat.le_of_ble_eq_true rfl) (d' := 0) (by omega) (EW_mono (fun _ _ hr => ?_) (sX11_isCorner v1  x _ _ 0 0 (Nat.le_refl _) h))
  obtain ⟨r1, rfl, rfl, h⟩ := hr
  refine EW_if_eq (tgt := 33) (pc2 := 7) rfl dX11_head_4 (by decide) (fun q => ?_) (fun q => ?_)
  · replace h := h.1 q
    refine EW_iconst (pc2 := 34) (v := (-1)) rfl dX11_head_33 (by decide) ?_
    exact AW_iret rfl dX11_head_34 ⟨_, _, rfl, rfl, h⟩
  · replace h := h.2 q
    refine EW_iload_n (pc2 := 8) rfl dX11_head_7 2 rfl ?_
    refine EW_aload_n (pc2 := 9) rfl dX11_head_8 0 rfl ?_
    refine AW_getr (r := 9) ⟨gfRX11_21, rfl⟩ (pc2 := 12) rfl dX11_head_9 q0 rfl ?_
    refine AW_geti ⟨gfRX11_231, rfl⟩ (pc2 := 15) rfl dX11_head_12 q9 ?_
    refine AW_invS (M' := MX11_below) [.int v2, .int (x.1 9 6)] (rest := []) mlRX11_86 okX11_below (pc2 := 18) rfl dX11_head_15 rfl rfl (Nat.le_of_ble_eq_true rfl) (Nat.le_of_ble_eq_true rfl) (d' := 0) (by omega) (EW_mono (fun _ _ hr => ?_) (sX11_below v2 (x.1 9 6)  x _ _ 0 0 (Nat.le_refl _) h))
    obtain ⟨r2, rfl, rfl, h⟩ := hr
    refine EW_if_eq (tgt := 33) (pc2 := 21) rfl dX11_head_18 (by decide) (fun q => ?_) (fun q => ?_)
    · replace h := h.1 q
      refine EW_iconst (pc2 := 34) (v := (-1)) rfl dX11_head_33 (by decide) ?_
      exact AW_iret rfl dX11_head_34 ⟨_, _, rfl, rfl, h⟩
    · replace h := h.2 q
      refine EW_aload_n (pc2 := 22) rfl dX11_head_21 0 rfl ?_
      refine AW_getr (r := 9) ⟨gfRX11_21, rfl⟩ (pc2 := 25) rfl dX11_head_22 q0 rfl ?_
      refine EW_iload_n (pc2 := 26) rfl dX11_head_25 1 rfl ?_
      refine EW_iload_n (pc2 := 27) rfl dX11_head_26 2 rfl ?_
      refine AW_invV (M' := MX10_addHead) [.int v1, .int v2] (rest := []) mlRX11_234 okX10_addHead (pc2 := 30) rfl dX11_head_27 rfl rfl (Nat.le_of_ble_eq_true rfl) (Nat.le_of_ble_eq_true rfl) (d' := 0) (by omega) q9 ⟨by decide, rfl⟩ (EW_mono (fun _ _ hr => ?_) (sX10_addHead v1 v2  x _ _ 0 0 (Nat.le_refl _) h))
      obtain ⟨r3, x4, rfl, rfl, h⟩ := hr
      refine EW_goto (tgt := 34) dX11_head_30 (by decide) ?_
      exact AW_iret rfl dX11_head_34 ⟨_, _, rfl, rfl, h⟩
theorem gfRX11_272 : ab_L RX11 272 2 1 := ⟨by decide, by decide, ab_in 412 (by decide +kernel) (by decide +kernel)⟩
theorem mlRX11_275 : Cond.methodLink RX11 275 yX2_rest ∈ ab_G ∧ Cond.instanceMethod yX2_rest ∈ ab_G ∧ Cond.selects RX2 yX2_rest yX2_rest ∈ ab_G := ⟨ab_in 993 (by decide +kernel) (by decide +kernel), ab_in 994 (by decide +kernel) (by decide +kernel), ab_in 995 (by decide +kernel) (by decide +kernel)⟩
abbrev MX11_heal : ab_M := (yX11_heal, cX11_heal, 2, (some .boolean))
theorem dX11_heal_0 : decode cX11_heal 0 = .ok (.aload_n 0, 1) := by decide +kernel
theorem dX11_heal_1 : decode cX11_heal 1 = .ok (.getfield 30, 3) := by decide +kernel
theorem dX11_heal_4 : decode cX11_heal 4 = .ok (.iload_n 1, 1) := by decide +kernel
theorem dX11_heal_5 : decode cX11_heal 5 = .ok (.invokevirtual 256, 3) := by decide +kernel
theorem dX11_heal_8 : decode cX11_heal 8 = .ok (.ifCond .eq 19, 3) := by decide +kernel
theorem dX11_heal_11 : decode cX11_heal 11 = .ok (.aload_n 0, 1) := by decide +kernel
theorem dX11_heal_12 : decode cX11_heal 12 = .ok (.getfield 30, 3) := by decide +kernel
theorem dX11_heal_15 : decode cX11_heal 15 = .ok (.getfield 241, 3) := by decide +kernel
theorem dX11_heal_18 : decode cX11_heal 18 = .ok (.iload_n 1, 1) := by decide +kernel
theorem dX11_heal_19 : decode cX11_heal 19 = .ok (.aaload, 1) := by decide +kernel
theorem dX11_heal_20 : decode cX11_heal 20 = .ok (.getfield 257, 3) := by decide +kernel
theorem dX11_heal_23 : decode cX11_heal 23 = .ok (.iconst 4, 1) := by decide +kernel
theorem dX11_heal_24 : decode cX11_heal 24 = .ok (.if_icmp .eq 5, 3) := by decide +kernel
theorem dX11_heal_27 : decode cX11_heal 27 = .ok (.iconst 0, 1) := by decide +kernel
theorem dX11_heal_28 : decode cX11_heal 28 = .ok (.ireturn, 1) := by decide +kernel
theorem dX11_heal_29 : decode cX11_heal 29 = .ok (.aload_n 0, 1) := by decide +kernel
theorem dX11_heal_30 : decode cX11_heal 30 = .ok (.getfield 30, 3) := by decide +kernel
theorem dX11_heal_33 : decode cX11_heal 33 = .ok (.getfield 241, 3) := by decide +kernel
theorem dX11_heal_36 : decode cX11_heal 36 = .ok (.iload_n 1, 1) := by decide +kernel
theorem dX11_heal_37 : decode cX11_heal 37 = .ok (.aaload, 1) := by decide +kernel
theorem dX11_heal_38 : decode cX11_heal 38 = .ok (.aload_n 0, 1) := by decide +kernel
theorem dX11_heal_39 : decode cX11_heal 39 = .ok (.getfield 30, 3) := by decide +kernel
theorem dX11_heal_42 : decode cX11_heal 42 = .ok (.getfield 241, 3) := by decide +kernel
theorem dX11_heal_45 : decode cX11_heal 45 = .ok (.iload_n 1, 1) := by decide +kernel
theorem dX11_heal_46 : decode cX11_heal 46 = .ok (.aaload, 1) := by decide +kernel
theorem dX11_heal_47 : decode cX11_heal 47 = .ok (.getfield 272, 3) := by decide +kernel
theorem dX11_heal_50 : decode cX11_heal 50 = .ok (.invokevirtual 275, 3) := by decide +kernel
theorem dX11_heal_53 : decode cX11_heal 53 = .ok (.iconst 1, 1) := by decide +kernel
theorem dX11_heal_54 : decode cX11_heal 54 = .ok (.ireturn, 1) := by decide +kernel
theorem okX11_heal : ab_okM MX11_heal 1 := ⟨by decide, ⟨by decide, by decide⟩, ab_in 992 (by decide +kernel) (by decide +kernel), ab_in 86 (by decide +kernel) (by decide +kernel), by decide +kernel, by decide⟩
set_option maxHeartbeats 4000000 in
set_option maxRecDepth 100000 in
def wX11_heal (v1 : Int32) (x : ab_X) (K : Int32 → ab_X → Prop) : Prop := wX0_has v1 x (fun r1 => ((r1 = 0 → K 0 x) ∧ (¬ r1 = 0 → (vp_in v1 16 ∧ (((x.1 (82 + Int32.toNatClampNeg v1) 8) = 4 → (vp_in v1 16 ∧ vp_in v1 16 ∧ wX2_rest (82 + Int32.toNatClampNeg v1) (x.1 (82 + Int32.toNatClampNeg v1) 1) x (fun x5 => K 1 x5))) ∧ (¬ (x.1 (82 + Int32.toNatClampNeg v1) 8) = 4 → K 0 x))))))
set_option maxHeartbeats 4000000 in
set_option maxRecDepth 100000 in
theorem sX11_heal (v1 : Int32)  (x : ab_X) (K : Int32 → ab_X → Prop) (d bc bs : Nat) (hdp : 2 ≤ d) (h : wX11_heal v1 x K) : EW MX11_heal 0 [(0, .ref 0), (1, .int v1)] [] (aS x) d bc bs (liI K) := by
  unfold wX11_heal at h
  refine EW_aload_n (pc2 := 1) rfl dX11_heal_0 0 rfl ?_
  refine AW_getr (r := 66) ⟨gfRX11_30, rfl⟩ (pc2 := 4) rfl dX11_heal_1 q0 rfl ?_
  refine EW_iload_n (pc2 := 5) rfl dX11_heal_4 1 rfl ?_
  refine AW_invV (M' := MX0_has) [.int v1] (rest := []) mlRX11_256 okX0_has (pc2 := 8) rfl dX11_heal_5 rfl rfl (Nat.le_of_ble_eq_true rfl) (Nat.le_of_ble_eq_true rfl) (d' := 1) (by omega) q66 ⟨by decide, rfl⟩ (EW_mono (fun _ _ hr => ?_) (sX0_has v1  x _ _ 0 0 (Nat.le_refl _) h))
  obtain ⟨r1, rfl, rfl, h⟩ := hr
  refine EW_if_eq (tgt := 27) (pc2 := 11) rfl dX11_heal_8 (by decide) (fun q => ?_) (fun q => ?_)
  · replace h := h.1 q
    refine EW_iconst (pc2 := 28) (v := 0) rfl dX11_heal_27 (by decide) ?_
    exact AW_zret rfl isB0 dX11_heal_28 ⟨_, _, rfl, rfl, h⟩
  · replace h := h.2 q
    refine EW_aload_n (pc2 := 12) rfl dX11_heal_11 0 rfl ?_
    refine AW_getr (r := 66) ⟨gfRX11_30, rfl⟩ (pc2 := 15) rfl dX11_heal_12 q0 rfl ?_
    refine AW_getr (r := 67) ⟨gfRX11_241, rfl⟩ (pc2 := 18) rfl dX11_heal_15 q66 rfl ?_
    refine EW_iload_n (pc2 := 19) rfl dX11_heal_18 1 rfl ?_
    obtain ⟨b2, h⟩ := h
    refine AW_aald6 (pc2 := 20) rfl dX11_heal_19 b2 ?_
    refine AW_geti ⟨gfRX11_257, rfl⟩ (pc2 := 23) rfl dX11_heal_20 (isW.o (isW_of b2)) ?_
    refine EW_iconst (pc2 := 24) (v := 4) rfl dX11_heal_23 (by decide) ?_
    refine EW_icmp_eq (tgt := 29) (pc2 := 27) rfl dX11_heal_24 (by decide) (fun q => ?_) (fun q => ?_)
    · replace h := h.1 q
      refine EW_aload_n (pc2 := 30) rfl dX11_heal_29 0 rfl ?_
      refine AW_getr (r := 66) ⟨gfRX11_30, rfl⟩ (pc2 := 33) rfl dX11_heal_30 q0 rfl ?_
      refine AW_getr (r := 67) ⟨gfRX11_241, rfl⟩ (pc2 := 36) rfl dX11_heal_33 q66 rfl ?_
      refine EW_iload_n (pc2 := 37) rfl dX11_heal_36 1 rfl ?_
      obtain ⟨b3, h⟩ := h
      refine AW_aald6 (pc2 := 38) rfl dX11_heal_37 b3 ?_
      refine EW_aload_n (pc2 := 39) rfl dX11_heal_38 0 rfl ?_
      refine AW_getr (r := 66) ⟨gfRX11_30, rfl⟩ (pc2 := 42) rfl dX11_heal_39 q0 rfl ?_
      refine AW_getr (r := 67) ⟨gfRX11_241, rfl⟩ (pc2 := 45) rfl dX11_heal_42 q66 rfl ?_
      refine EW_iload_n (pc2 := 46) rfl dX11_heal_45 1 rfl ?_
      obtain ⟨b4, h⟩ := h
      refine AW_aald6 (pc2 := 47) rfl dX11_heal_46 b4 ?_
      refine AW_geti ⟨gfRX11_272, rfl⟩ (pc2 := 50) rfl dX11_heal_47 (isW.o (isW_of b4)) ?_
      refine AW_invV (M' := MX2_rest) [.int (x.1 (82 + Int32.toNatClampNeg v1) 1)] (rest := []) mlRX11_275 okX2_rest (pc2 := 53) rfl dX11_heal_50 rfl rfl (Nat.le_of_ble_eq_true rfl) (Nat.le_of_ble_eq_true rfl) (d' := 1) (by omega) (isW.o (isW_of b3)) ⟨by decide, rfl⟩ (EW_mono (fun _ _ hr => ?_) (sX2_rest (82 + Int32.toNatClampNeg v1) (x.1 (82 + Int32.toNatClampNeg v1) 1) (isW_of b3) x _ _ 0 0 (Nat.le_refl _) h))
      obtain ⟨x5, rfl, rfl, h⟩ := hr
      refine EW_iconst (pc2 := 54) (v := 1) rfl dX11_heal_53 (by decide) ?_
      exact AW_zret rfl isB1 dX11_heal_54 ⟨_, _, rfl, rfl, h⟩
    · replace h := h.2 q
      refine EW_iconst (pc2 := 28) (v := 0) rfl dX11_heal_27 (by decide) ?_
      exact AW_zret rfl isB0 dX11_heal_28 ⟨_, _, rfl, rfl, h⟩
theorem mlRX11_106 : Cond.methodLink RX11 106 yX10_add ∈ ab_G ∧ Cond.instanceMethod yX10_add ∈ ab_G ∧ Cond.selects RX10 yX10_add yX10_add ∈ ab_G := ⟨ab_in 829 (by decide +kernel) (by decide +kernel), ab_in 830 (by decide +kernel) (by decide +kernel), ab_in 831 (by decide +kernel) (by decide +kernel)⟩
theorem gfRX11_109 : ab_L RX11 109 4 2 := ⟨by decide, by decide, ab_in 222 (by decide +kernel) (by decide +kernel)⟩
theorem gfRX11_114 : ab_L RX11 114 4 3 := ⟨by decide, by decide, ab_in 227 (by decide +kernel) (by decide +kernel)⟩
theorem gfRX11_117 : ab_L RX11 117 4 4 := ⟨by decide, by decide, ab_in 233 (by decide +kernel) (by decide +kernel)⟩
theorem gfRX11_120 : ab_L RX11 120 4 5 := ⟨by decide, by decide, ab_in 237 (by decide +kernel) (by decide +kernel)⟩
theorem gfRX11_123 : ab_L RX11 123 4 0 := ⟨by decide, by decide, ab_in 214 (by decide +kernel) (by decide +kernel)⟩
abbrev MX11_house : ab_M := (yX11_house, cX11_house, 8, (some .int))
theorem dX11_house_0 : decode cX11_house 0 = .ok (.iload_n 1, 1) := by decide +kernel
theorem dX11_house_1 : decode cX11_house 1 = .ok (.invokestatic 70, 3) := by decide +kernel
theorem dX11_house_4 : decode cX11_house 4 = .ok (.ifCond .eq 52, 3) := by decide +kernel
theorem dX11_house_7 : decode cX11_house 7 = .ok (.iload_n 2, 1) := by decide +kernel
theorem dX11_house_8 : decode cX11_house 8 = .ok (.iconst 0, 1) := by decide +kernel
theorem dX11_house_9 : decode cX11_house 9 = .ok (.iconst 2, 1) := by decide +kernel
theorem dX11_house_10 : decode cX11_house 10 = .ok (.invokestatic 74, 3) := by decide +kernel
theorem dX11_house_13 : decode cX11_house 13 = .ok (.ifCond .eq 43, 3) := by decide +kernel
theorem dX11_house_16 : decode cX11_house 16 = .ok (.iload_n 3, 1) := by decide +kernel
theorem dX11_house_17 : decode cX11_house 17 = .ok (.iconst 1, 1) := by decide +kernel
theorem dX11_house_18 : decode cX11_house 18 = .ok (.bipush 6, 2) := by decide +kernel
theorem dX11_house_20 : decode cX11_house 20 = .ok (.invokestatic 74, 3) := by decide +kernel
theorem dX11_house_23 : decode cX11_house 23 = .ok (.ifCond .eq 33, 3) := by decide +kernel
theorem dX11_house_26 : decode cX11_house 26 = .ok (.iload 4, 2) := by decide +kernel
theorem dX11_house_28 : decode cX11_house 28 = .ok (.iconst 1, 1) := by decide +kernel
theorem dX11_house_29 : decode cX11_house 29 = .ok (.iconst 4, 1) := by decide +kernel
theorem dX11_house_30 : decode cX11_house 30 = .ok (.invokestatic 74, 3) := by decide +kernel
theorem dX11_house_33 : decode cX11_house 33 = .ok (.ifCond .eq 23, 3) := by decide +kernel
theorem dX11_house_36 : decode cX11_house 36 = .ok (.iload 5, 2) := by decide +kernel
theorem dX11_house_38 : decode cX11_house 38 = .ok (.iconst (-1), 1) := by decide +kernel
theorem dX11_house_39 : decode cX11_house 39 = .ok (.if_icmp .eq 13, 3) := by decide +kernel
theorem dX11_house_42 : decode cX11_house 42 = .ok (.iload 5, 2) := by decide +kernel
theorem dX11_house_44 : decode cX11_house 44 = .ok (.iload 4, 2) := by decide +kernel
theorem dX11_house_46 : decode cX11_house 46 = .ok (.invokestatic 86, 3) := by decide +kernel
theorem dX11_house_49 : decode cX11_house 49 = .ok (.ifCond .eq 7, 3) := by decide +kernel
theorem dX11_house_52 : decode cX11_house 52 = .ok (.iconst 1, 1) := by decide +kernel
theorem dX11_house_53 : decode cX11_house 53 = .ok (.goto 4, 3) := by decide +kernel
theorem dX11_house_56 : decode cX11_house 56 = .ok (.iconst 0, 1) := by decide +kernel
theorem dX11_house_57 : decode cX11_house 57 = .ok (.istore 6, 2) := by decide +kernel
theorem dX11_house_59 : decode cX11_house 59 = .ok (.iload 6, 2) := by decide +kernel
theorem dX11_house_61 : decode cX11_house 61 = .ok (.ifCond .eq 15, 3) := by decide +kernel
theorem dX11_house_64 : decode cX11_house 64 = .ok (.aload_n 0, 1) := by decide +kernel
theorem dX11_house_65 : decode cX11_house 65 = .ok (.getfield 21, 3) := by decide +kernel
theorem dX11_house_68 : decode cX11_house 68 = .ok (.getfield 105, 3) := by decide +kernel
theorem dX11_house_71 : decode cX11_house 71 = .ok (.bipush 12, 2) := by decide +kernel
theorem dX11_house_73 : decode cX11_house 73 = .ok (.if_icmp .lt 5, 3) := by decide +kernel
theorem dX11_house_76 : decode cX11_house 76 = .ok (.iconst (-1), 1) := by decide +kernel
theorem dX11_house_77 : decode cX11_house 77 = .ok (.ireturn, 1) := by decide +kernel
theorem dX11_house_78 : decode cX11_house 78 = .ok (.aload_n 0, 1) := by decide +kernel
theorem dX11_house_79 : decode cX11_house 79 = .ok (.getfield 21, 3) := by decide +kernel
theorem dX11_house_82 : decode cX11_house 82 = .ok (.iload_n 1, 1) := by decide +kernel
theorem dX11_house_83 : decode cX11_house 83 = .ok (.invokevirtual 106, 3) := by decide +kernel
theorem dX11_house_86 : decode cX11_house 86 = .ok (.astore 7, 2) := by decide +kernel
theorem dX11_house_88 : decode cX11_house 88 = .ok (.aload 7, 2) := by decide +kernel
theorem dX11_house_90 : decode cX11_house 90 = .ok (.iload_n 2, 1) := by decide +kernel
theorem dX11_house_91 : decode cX11_house 91 = .ok (.putfield 109, 3) := by decide +kernel
theorem dX11_house_94 : decode cX11_house 94 = .ok (.aload 7, 2) := by decide +kernel
theorem dX11_house_96 : decode cX11_house 96 = .ok (.iload_n 3, 1) := by decide +kernel
theorem dX11_house_97 : decode cX11_house 97 = .ok (.putfield 114, 3) := by decide +kernel
theorem dX11_house_100 : decode cX11_house 100 = .ok (.aload 7, 2) := by decide +kernel
theorem dX11_house_102 : decode cX11_house 102 = .ok (.iload 4, 2) := by decide +kernel
theorem dX11_house_104 : decode cX11_house 104 = .ok (.putfield 117, 3) := by decide +kernel
theorem dX11_house_107 : decode cX11_house 107 = .ok (.aload 7, 2) := by decide +kernel
theorem dX11_house_109 : decode cX11_house 109 = .ok (.iload 5, 2) := by decide +kernel
theorem dX11_house_111 : decode cX11_house 111 = .ok (.putfield 120, 3) := by decide +kernel
theorem dX11_house_114 : decode cX11_house 114 = .ok (.aload 7, 2) := by decide +kernel
theorem dX11_house_116 : decode cX11_house 116 = .ok (.getfield 123, 3) := by decide +kernel
theorem dX11_house_119 : decode cX11_house 119 = .ok (.ireturn, 1) := by decide +kernel
theorem okX11_house : ab_okM MX11_house 5 := ⟨by decide, ⟨by decide, by decide⟩, ab_in 828 (by decide +kernel) (by decide +kernel), ab_in 86 (by decide +kernel) (by decide +kernel), by decide +kernel, by decide⟩
set_option maxHeartbeats 4000000 in
set_option maxRecDepth 100000 in
def wX11_house_57 (v1 : Int32) (v2 : Int32) (v3 : Int32) (v4 : Int32) (v5 : Int32) (s0 : Int32) (x : ab_X) (K : Int32 → ab_X → Prop)  : Prop := ((s0 = 0 → K (-1) x) ∧ (¬ s0 = 0 → (((x.1 9 2) < 12 → wX10_add v1 x (fun r6 x7 => (isH r6 ∧ K ((wr (wr (wr (wr x7 r6 2 v2) r6 3 v3) r6 4 v4) r6 5 v5).1 r6 0) (wr (wr (wr (wr x7 r6 2 v2) r6 3 v3) r6 4 v4) r6 5 v5)))) ∧ (¬ (x.1 9 2) < 12 → K (-1) x))))
set_option maxHeartbeats 4000000 in
set_option maxRecDepth 100000 in
theorem sX11_house_57 (v1 : Int32) (v2 : Int32) (v3 : Int32) (v4 : Int32) (v5 : Int32) (s0 : Int32)  (x : ab_X) (K : Int32 → ab_X → Prop)  (d bc bs : Nat) (hdp : 3 ≤ d)  (h : wX11_house_57 v1 v2 v3 v4 v5 s0 x K ) : EW MX11_house 57 [(0, .ref 0), (1, .int v1), (2, .int v2), (3, .int v3), (4, .int v4), (5, .int v5)] [.int s0] (aS x) d bc bs (liI K) := by
  unfold wX11_house_57 at h
  refine EW_istore (pc2 := 59) rfl dX11_house_57 (by decide) [1, 2, 3, 4, 5, 6, 0] [(0, .ref 0), (1, .int v1), (2, .int v2), (3, .int v3), (4, .int v4), (5, .int v5), (6, .int s0)] rfl ?_
  refine EW_iload (pc2 := 61) rfl dX11_house_59 6 rfl ?_
  refine EW_if_eq (tgt := 76) (pc2 := 64) rfl dX11_house_61 (by decide) (fun q => ?_) (fun q => ?_)
  · replace h := h.1 q
    refine EW_iconst (pc2 := 77) (v := (-1)) rfl dX11_house_76 (by decide) ?_
    exact AW_iret rfl dX11_house_77 ⟨_, _, rfl, rfl, h⟩
  · replace h := h.2 q
    refine EW_aload_n (pc2 := 65) rfl dX11_house_64 0 rfl ?_
    refine AW_getr (r := 9) ⟨gfRX11_21, rfl⟩ (pc2 := 68) rfl dX11_house_65 q0 rfl ?_
    refine AW_geti ⟨gfRX11_105, rfl⟩ (pc2 := 71) rfl dX11_house_68 q9 ?_
    refine EW_bipush (pc2 := 73) (v := 12) rfl dX11_house_71 (by decide) ?_
    refine EW_icmp_lt (tgt := 78) (pc2 := 76) rfl dX11_house_73 (by decide) (fun q => ?_) (fun q => ?_)
    · replace h := h.1 q
      refine EW_aload_n (pc2 := 79) rfl dX11_house_78 0 rfl ?_
      refine AW_getr (r := 9) ⟨gfRX11_21, rfl⟩ (pc2 := 82) rfl dX11_house_79 q0 rfl ?_
      refine EW_iload_n (pc2 := 83) rfl dX11_house_82 1 rfl ?_
      refine AW_invV (M' := MX10_add) [.int v1] (rest := []) mlRX11_106 okX10_add (pc2 := 86) rfl dX11_house_83 rfl rfl (Nat.le_of_ble_eq_true rfl) (Nat.le_of_ble_eq_true rfl) (d' := 2) (by omega) q9 ⟨by decide, rfl⟩ (EW_mono (fun _ _ hr => ?_) (sX10_add v1  x _ _ 0 0 (Nat.le_refl _) h))
      obtain ⟨r6, x7, rfl, rfl, h⟩ := hr
      obtain ⟨hr6, h⟩ := h
      refine EW_astore (pc2 := 88) rfl dX11_house_86 (by decide) [1, 2, 3, 4, 5, 6, 7, 0] [(0, .ref 0), (1, .int v1), (2, .int v2), (3, .int v3), (4, .int v4), (5, .int v5), (6, .int s0), (7, .ref r6)] rfl ?_
      refine EW_aload (pc2 := 90) rfl dX11_house_88 7 rfl ?_
      refine EW_iload_n (pc2 := 91) rfl dX11_house_90 2 rfl ?_
      refine AW_puti ⟨gfRX11_109, rfl, rfl⟩ (pc2 := 94) rfl dX11_house_91 (isH.o hr6) ?_
      refine EW_aload (pc2 := 96) rfl dX11_house_94 7 rfl ?_
      refine EW_iload_n (pc2 := 97) rfl dX11_house_96 3 rfl ?_
      refine AW_puti ⟨gfRX11_114, rfl, rfl⟩ (pc2 := 100) rfl dX11_house_97 (isH.o hr6) ?_
      refine EW_aload (pc2 := 102) rfl dX11_house_100 7 rfl ?_
      refine EW_iload (pc2 := 104) rfl dX11_house_102 4 rfl ?_
      refine AW_puti ⟨gfRX11_117, rfl, rfl⟩ (pc2 := 107) rfl dX11_house_104 (isH.o hr6) ?_
      refine EW_aload (pc2 := 109) rfl dX11_house_107 7 rfl ?_
      refine EW_iload (pc2 := 111) rfl dX11_house_109 5 rfl ?_
      refine AW_puti ⟨gfRX11_120, rfl, rfl⟩ (pc2 := 114) rfl dX11_house_111 (isH.o hr6) ?_
      refine EW_aload (pc2 := 116) rfl dX11_house_114 7 rfl ?_
      refine AW_geti ⟨gfRX11_123, rfl⟩ (pc2 := 119) rfl dX11_house_116 (isH.o hr6) ?_
      exact AW_iret rfl dX11_house_119 ⟨_, _, rfl, rfl, h⟩
    · replace h := h.2 q
      refine EW_iconst (pc2 := 77) (v := (-1)) rfl dX11_house_76 (by decide) ?_
      exact AW_iret rfl dX11_house_77 ⟨_, _, rfl, rfl, h⟩
set_option maxHeartbeats 4000000 in
set_option maxRecDepth 100000 in
def wX11_house_56 (v1 : Int32) (v2 : Int32) (v3 : Int32) (v4 : Int32) (v5 : Int32) (x : ab_X) (K : Int32 → ab_X → Prop)  : Prop := wX11_house_57 v1 v2 v3 v4 v5 0 x K
set_option maxHeartbeats 4000000 in
set_option maxRecDepth 100000 in
theorem sX11_house_56 (v1 : Int32) (v2 : Int32) (v3 : Int32) (v4 : Int32) (v5 : Int32)  (x : ab_X) (K : Int32 → ab_X → Prop)  (d bc bs : Nat) (hdp : 3 ≤ d)  (h : wX11_house_56 v1 v2 v3 v4 v5 x K ) : EW MX11_house 56 [(0, .ref 0), (1, .int v1), (2, .int v2), (3, .int v3), (4, .int v4), (5, .int v5)] [] (aS x) d bc bs (liI K) := by
  unfold wX11_house_56 at h
  refine EW_iconst (pc2 := 57) (v := 0) rfl dX11_house_56 (by decide) ?_
  exact sX11_house_57 v1 v2 v3 v4 v5 0 x K d bc bs hdp h
set_option maxHeartbeats 4000000 in
set_option maxRecDepth 100000 in
def wX11_house_52 (v1 : Int32) (v2 : Int32) (v3 : Int32) (v4 : Int32) (v5 : Int32) (x : ab_X) (K : Int32 → ab_X → Prop)  : Prop := wX11_house_57 v1 v2 v3 v4 v5 1 x K
set_option maxHeartbeats 4000000 in
set_option maxRecDepth 100000 in
theorem sX11_house_52 (v1 : Int32) (v2 : Int32) (v3 : Int32) (v4 : Int32) (v5 : Int32)  (x : ab_X) (K : Int32 → ab_X → Prop)  (d bc bs : Nat) (hdp : 3 ≤ d)  (h : wX11_house_52 v1 v2 v3 v4 v5 x K ) : EW MX11_house 52 [(0, .ref 0), (1, .int v1), (2, .int v2), (3, .int v3), (4, .int v4), (5, .int v5)] [] (aS x) d bc bs (liI K) := by
  unfold wX11_house_52 at h
  refine EW_iconst (pc2 := 53) (v := 1) rfl dX11_house_52 (by decide) ?_
  refine EW_goto (tgt := 57) dX11_house_53 (by decide) ?_
  exact sX11_house_57 v1 v2 v3 v4 v5 1 x K d bc bs hdp h
set_option maxHeartbeats 4000000 in
set_option maxRecDepth 100000 in
def wX11_house (v1 : Int32) (v2 : Int32) (v3 : Int32) (v4 : Int32) (v5 : Int32) (x : ab_X) (K : Int32 → ab_X → Prop) : Prop := wX11_isCorner v1 x (fun r1 => ((r1 = 0 → wX11_house_56 v1 v2 v3 v4 v5 x K) ∧ (¬ r1 = 0 → wX11_within v2 0 2 x (fun r2 => ((r2 = 0 → wX11_house_56 v1 v2 v3 v4 v5 x K) ∧ (¬ r2 = 0 → wX11_within v3 1 6 x (fun r3 => ((r3 = 0 → wX11_house_56 v1 v2 v3 v4 v5 x K) ∧ (¬ r3 = 0 → wX11_within v4 1 4 x (fun r4 => ((r4 = 0 → wX11_house_56 v1 v2 v3 v4 v5 x K) ∧ (¬ r4 = 0 → ((v5 = (-1) → wX11_house_52 v1 v2 v3 v4 v5 x K) ∧ (¬ v5 = (-1) → wX11_below v5 v4 x (fun r5 => ((r5 = 0 → wX11_house_56 v1 v2 v3 v4 v5 x K) ∧ (¬ r5 = 0 → wX11_house_52 v1 v2 v3 v4 v5 x K)))))))))))))))))
set_option maxHeartbeats 4000000 in
set_option maxRecDepth 100000 in
theorem sX11_house (v1 : Int32) (v2 : Int32) (v3 : Int32) (v4 : Int32) (v5 : Int32)  (x : ab_X) (K : Int32 → ab_X → Prop) (d bc bs : Nat) (hdp : 3 ≤ d) (h : wX11_house v1 v2 v3 v4 v5 x K) : EW MX11_house 0 [(0, .ref 0), (1, .int v1), (2, .int v2), (3, .int v3), (4, .int v4), (5, .int v5)] [] (aS x) d bc bs (liI K) := by
  unfold wX11_house at h
  refine EW_iload_n (pc2 := 1) rfl dX11_house_0 1 rfl ?_
  refine AW_invS (M' := MX11_isCorner) [.int v1] (rest := []) mlRX11_70 okX11_isCorner (pc2 := 4) rfl dX11_house_1 rfl rfl (Nat.le_of_ble_eq_true rfl) (Nat.le_of_ble_eq_true rfl) (d' := 0) (by omega) (EW_mono (fun _ _ hr => ?_) (sX11_isCorner v1  x _ _ 0 0 (Nat.le_refl _) h))
  obtain ⟨r1, rfl, rfl, h⟩ := hr
  refine EW_if_eq (tgt := 56) (pc2 := 7) rfl dX11_house_4 (by decide) (fun q => ?_) (fun q => ?_)
  · replace h := h.1 q
    exact sX11_house_56 v1 v2 v3 v4 v5 x K d bc bs hdp h
  · replace h := h.2 q
    refine EW_iload_n (pc2 := 8) rfl dX11_house_7 2 rfl ?_
    refine EW_iconst (pc2 := 9) (v := 0) rfl dX11_house_8 (by decide) ?_
    refine EW_iconst (pc2 := 10) (v := 2) rfl dX11_house_9 (by decide) ?_
    refine AW_invS (M' := MX11_within) [.int v2, .int 0, .int 2] (rest := []) mlRX11_74 okX11_within (pc2 := 13) rfl dX11_house_10 rfl rfl (Nat.le_of_ble_eq_true rfl) (Nat.le_of_ble_eq_true rfl) (d' := 0) (by omega) (EW_mono (fun _ _ hr => ?_) (sX11_within v2 0 2  x _ _ 0 0 (Nat.le_refl _) h))
    obtain ⟨r2, rfl, rfl, h⟩ := hr
    refine EW_if_eq (tgt := 56) (pc2 := 16) rfl dX11_house_13 (by decide) (fun q => ?_) (fun q => ?_)
    · replace h := h.1 q
      exact sX11_house_56 v1 v2 v3 v4 v5 x K d bc bs hdp h
    · replace h := h.2 q
      refine EW_iload_n (pc2 := 17) rfl dX11_house_16 3 rfl ?_
      refine EW_iconst (pc2 := 18) (v := 1) rfl dX11_house_17 (by decide) ?_
      refine EW_bipush (pc2 := 20) (v := 6) rfl dX11_house_18 (by decide) ?_
      refine AW_invS (M' := MX11_within) [.int v3, .int 1, .int 6] (rest := []) mlRX11_74 okX11_within (pc2 := 23) rfl dX11_house_20 rfl rfl (Nat.le_of_ble_eq_true rfl) (Nat.le_of_ble_eq_true rfl) (d' := 0) (by omega) (EW_mono (fun _ _ hr => ?_) (sX11_within v3 1 6  x _ _ 0 0 (Nat.le_refl _) h))
      obtain ⟨r3, rfl, rfl, h⟩ := hr
      refine EW_if_eq (tgt := 56) (pc2 := 26) rfl dX11_house_23 (by decide) (fun q => ?_) (fun q => ?_)
      · replace h := h.1 q
        exact sX11_house_56 v1 v2 v3 v4 v5 x K d bc bs hdp h
      · replace h := h.2 q
        refine EW_iload (pc2 := 28) rfl dX11_house_26 4 rfl ?_
        refine EW_iconst (pc2 := 29) (v := 1) rfl dX11_house_28 (by decide) ?_
        refine EW_iconst (pc2 := 30) (v := 4) rfl dX11_house_29 (by decide) ?_
        refine AW_invS (M' := MX11_within) [.int v4, .int 1, .int 4] (rest := []) mlRX11_74 okX11_within (pc2 := 33) rfl dX11_house_30 rfl rfl (Nat.le_of_ble_eq_true rfl) (Nat.le_of_ble_eq_true rfl) (d' := 0) (by omega) (EW_mono (fun _ _ hr => ?_) (sX11_within v4 1 4  x _ _ 0 0 (Nat.le_refl _) h))
        obtain ⟨r4, rfl, rfl, h⟩ := hr
        refine EW_if_eq (tgt := 56) (pc2 := 36) rfl dX11_house_33 (by decide) (fun q => ?_) (fun q => ?_)
        · replace h := h.1 q
          exact sX11_house_56 v1 v2 v3 v4 v5 x K d bc bs hdp h
        · replace h := h.2 q
          refine EW_iload (pc2 := 38) rfl dX11_house_36 5 rfl ?_
          refine EW_iconst (pc2 := 39) (v := (-1)) rfl dX11_house_38 (by decide) ?_
          refine EW_icmp_eq (tgt := 52) (pc2 := 42) rfl dX11_house_39 (by decide) (fun q => ?_) (fun q => ?_)
          · replace h := h.1 q
            exact sX11_house_52 v1 v2 v3 v4 v5 x K d bc bs hdp h
          · replace h := h.2 q
            refine EW_iload (pc2 := 44) rfl dX11_house_42 5 rfl ?_
            refine EW_iload (pc2 := 46) rfl dX11_house_44 4 rfl ?_
            refine AW_invS (M' := MX11_below) [.int v5, .int v4] (rest := []) mlRX11_86 okX11_below (pc2 := 49) rfl dX11_house_46 rfl rfl (Nat.le_of_ble_eq_true rfl) (Nat.le_of_ble_eq_true rfl) (d' := 0) (by omega) (EW_mono (fun _ _ hr => ?_) (sX11_below v5 v4  x _ _ 0 0 (Nat.le_refl _) h))
            obtain ⟨r5, rfl, rfl, h⟩ := hr
            refine EW_if_eq (tgt := 56) (pc2 := 52) rfl dX11_house_49 (by decide) (fun q => ?_) (fun q => ?_)
            · replace h := h.1 q
              exact sX11_house_56 v1 v2 v3 v4 v5 x K d bc bs hdp h
            · replace h := h.2 q
              exact sX11_house_52 v1 v2 v3 v4 v5 x K d bc bs hdp h
abbrev MX3_fallenOf : ab_M := (yX3_fallenOf, cX3_fallenOf, 4, (some .int))
theorem dX3_fallenOf_0 : decode cX3_fallenOf 0 = .ok (.iconst 0, 1) := by decide +kernel
theorem dX3_fallenOf_1 : decode cX3_fallenOf 1 = .ok (.istore_n 2, 1) := by decide +kernel
theorem dX3_fallenOf_2 : decode cX3_fallenOf 2 = .ok (.iconst 0, 1) := by decide +kernel
theorem dX3_fallenOf_3 : decode cX3_fallenOf 3 = .ok (.istore_n 3, 1) := by decide +kernel
theorem dX3_fallenOf_4 : decode cX3_fallenOf 4 = .ok (.iload_n 3, 1) := by decide +kernel
theorem dX3_fallenOf_5 : decode cX3_fallenOf 5 = .ok (.aload_n 1, 1) := by decide +kernel
theorem dX3_fallenOf_6 : decode cX3_fallenOf 6 = .ok (.getfield 56, 3) := by decide +kernel
theorem dX3_fallenOf_9 : decode cX3_fallenOf 9 = .ok (.if_icmp .ge 26, 3) := by decide +kernel
theorem dX3_fallenOf_12 : decode cX3_fallenOf 12 = .ok (.iload_n 2, 1) := by decide +kernel
theorem dX3_fallenOf_13 : decode cX3_fallenOf 13 = .ok (.aload_n 0, 1) := by decide +kernel
theorem dX3_fallenOf_14 : decode cX3_fallenOf 14 = .ok (.aload_n 1, 1) := by decide +kernel
theorem dX3_fallenOf_15 : decode cX3_fallenOf 15 = .ok (.iload_n 3, 1) := by decide +kernel
theorem dX3_fallenOf_16 : decode cX3_fallenOf 16 = .ok (.invokevirtual 70, 3) := by decide +kernel
theorem dX3_fallenOf_19 : decode cX3_fallenOf 19 = .ok (.ifCond .eq 7, 3) := by decide +kernel
theorem dX3_fallenOf_22 : decode cX3_fallenOf 22 = .ok (.iconst 1, 1) := by decide +kernel
theorem dX3_fallenOf_23 : decode cX3_fallenOf 23 = .ok (.goto 4, 3) := by decide +kernel
theorem dX3_fallenOf_26 : decode cX3_fallenOf 26 = .ok (.iconst 0, 1) := by decide +kernel
theorem dX3_fallenOf_27 : decode cX3_fallenOf 27 = .ok (.iadd, 1) := by decide +kernel
theorem dX3_fallenOf_28 : decode cX3_fallenOf 28 = .ok (.istore_n 2, 1) := by decide +kernel
theorem dX3_fallenOf_29 : decode cX3_fallenOf 29 = .ok (.iinc 3 1, 3) := by decide +kernel
theorem dX3_fallenOf_32 : decode cX3_fallenOf 32 = .ok (.goto (-28), 3) := by decide +kernel
theorem dX3_fallenOf_35 : decode cX3_fallenOf 35 = .ok (.iload_n 2, 1) := by decide +kernel
theorem dX3_fallenOf_36 : decode cX3_fallenOf 36 = .ok (.ireturn, 1) := by decide +kernel
theorem okX3_fallenOf : ab_okM MX3_fallenOf 1 := ⟨by decide, ⟨by decide, by decide⟩, ab_in 937 (by decide +kernel) (by decide +kernel), ab_in 90 (by decide +kernel) (by decide +kernel), by decide +kernel, by decide⟩
set_option maxHeartbeats 4000000 in
set_option maxRecDepth 100000 in
def wX3_fallenOf_27 (v0 : Nat) (v1 : Nat) (v3 : Int32) (s0 : Int32) (s1 : Int32) (x : ab_X) (K : Int32 → Prop) (L4 : Int32 → Int32 → Prop) : Prop := L4 (s0 + s1) (v3 + 1)
set_option maxHeartbeats 4000000 in
set_option maxRecDepth 100000 in
theorem sX3_fallenOf_27 (v0 : Nat) (v1 : Nat) (v3 : Int32) (s0 : Int32) (s1 : Int32) (hv0 : isF v0) (hv1 : isH v1) (x : ab_X) (K : Int32 → Prop) (L4 : Int32 → Int32 → Prop) (d bc bs : Nat) (hdp : 2 ≤ d) (hL4 : ∀ (v2 : Int32) (v3 : Int32), L4 v2 v3 → EW MX3_fallenOf 4 [(0, .ref v0), (1, .ref v1), (2, .int v2), (3, .int v3)] [] (aS x) d bc bs (liP x K)) (h : wX3_fallenOf_27 v0 v1 v3 s0 s1 x K L4) : EW MX3_fallenOf 27 [(0, .ref v0), (1, .ref v1), (3, .int v3)] [.int s1, .int s0] (aS x) d bc bs (liP x K) := by
  unfold wX3_fallenOf_27 at h
  refine EW_iadd (pc2 := 28) rfl dX3_fallenOf_27 ?_
  refine EW_istore_n (pc2 := 29) rfl dX3_fallenOf_28 (by decide) [1, 2, 0, 3] [(0, .ref v0), (1, .ref v1), (2, .int (s0 + s1)), (3, .int v3)] rfl ?_
  refine EW_iinc (v3 + 1) (pc2 := 32) rfl dX3_fallenOf_29 3 rfl rfl (by decide) [1, 2, 3, 0] [(0, .ref v0), (1, .ref v1), (2, .int (s0 + s1)), (3, .int (v3 + 1))] rfl ?_
  refine EW_goto (tgt := 4) dX3_fallenOf_32 (by decide) ?_
  exact hL4 (s0 + s1) (v3 + 1) h
set_option maxHeartbeats 4000000 in
set_option maxRecDepth 100000 in
def lX3_fallenOf_4 (v0 : Nat) (v1 : Nat) (x : ab_X) (K : Int32 → Prop)  (L4 : Int32 → Int32 → Prop) (v2 : Int32) (v3 : Int32) : Prop := (((x.1 v1 3) ≤ v3 → K v2) ∧ (¬ (x.1 v1 3) ≤ v3 → wX3_hasFallen v0 v1 v3 x (fun r1 => ((r1 = 0 → wX3_fallenOf_27 v0 v1 v3 v2 0 x K L4) ∧ (¬ r1 = 0 → wX3_fallenOf_27 v0 v1 v3 v2 1 x K L4)))))
set_option maxHeartbeats 4000000 in
set_option maxRecDepth 100000 in
theorem sX3_fallenOf_4 (v0 : Nat) (v1 : Nat) (v2 : Int32) (v3 : Int32) (hv0 : isF v0) (hv1 : isH v1) (x : ab_X) (K : Int32 → Prop)  (d bc bs : Nat) (hdp : 2 ≤ d)  (h : Lp2 (lX3_fallenOf_4 v0 v1 x K ) v2 v3) : EW MX3_fallenOf 4 [(0, .ref v0), (1, .ref v1), (2, .int v2), (3, .int v3)] [] (aS x) d bc bs (liP x K) := by
  refine Lp2.use (P := fun v2 v3 => EW MX3_fallenOf 4 [(0, .ref v0), (1, .ref v1), (2, .int v2), (3, .int v3)] [] (aS x) d bc bs (liP x K)) (fun L4 v2 v3 hL4 h => ?_) v2 v3 h
  unfold lX3_fallenOf_4 at h
  refine EW_iload_n (pc2 := 5) rfl dX3_fallenOf_4 3 rfl ?_
  refine EW_aload_n (pc2 := 6) rfl dX3_fallenOf_5 1 rfl ?_
  refine AW_geti ⟨gfRX3_56, rfl⟩ (pc2 := 9) rfl dX3_fallenOf_6 (isH.o hv1) ?_
  refine EW_icmp_ge (tgt := 35) (pc2 := 12) rfl dX3_fallenOf_9 (by decide) (fun q => ?_) (fun q => ?_)
  · replace h := h.1 q
    refine EW_iload_n (pc2 := 36) rfl dX3_fallenOf_35 2 rfl ?_
    exact AW_iret rfl dX3_fallenOf_36 ⟨_, rfl, rfl, h⟩
  · replace h := h.2 q
    refine EW_iload_n (pc2 := 13) rfl dX3_fallenOf_12 2 rfl ?_
    refine EW_aload_n (pc2 := 14) rfl dX3_fallenOf_13 0 rfl ?_
    refine EW_aload_n (pc2 := 15) rfl dX3_fallenOf_14 1 rfl ?_
    refine EW_iload_n (pc2 := 16) rfl dX3_fallenOf_15 3 rfl ?_
    refine AW_invV (M' := MX3_hasFallen) [.ref v1, .int v3] (rest := [.int v2]) mlRX3_70 okX3_hasFallen (pc2 := 19) rfl dX3_fallenOf_16 rfl rfl (Nat.le_of_ble_eq_true rfl) (Nat.le_of_ble_eq_true rfl) (d' := 1) (by omega) (isF.o hv0) ⟨by decide, rfl⟩ (EW_mono (fun _ _ hr => ?_) (sX3_hasFallen v0 v1 v3 hv0 hv1 x _ _ 0 0 (Nat.le_refl _) h))
    obtain ⟨r1, rfl, rfl, h⟩ := hr
    refine EW_if_eq (tgt := 26) (pc2 := 22) rfl dX3_fallenOf_19 (by decide) (fun q => ?_) (fun q => ?_)
    · replace h := h.1 q
      refine EW_iconst (pc2 := 27) (v := 0) rfl dX3_fallenOf_26 (by decide) ?_
      refine EW_ls [0, 1, 3] rfl ?_
      exact sX3_fallenOf_27 v0 v1 v3 v2 0 hv0 hv1 x K L4 d bc bs hdp hL4 h
    · replace h := h.2 q
      refine EW_iconst (pc2 := 23) (v := 1) rfl dX3_fallenOf_22 (by decide) ?_
      refine EW_goto (tgt := 27) dX3_fallenOf_23 (by decide) ?_
      refine EW_ls [0, 1, 3] rfl ?_
      exact sX3_fallenOf_27 v0 v1 v3 v2 1 hv0 hv1 x K L4 d bc bs hdp hL4 h
set_option maxHeartbeats 4000000 in
set_option maxRecDepth 100000 in
def wX3_fallenOf (v0 : Nat) (v1 : Nat) (x : ab_X) (K : Int32 → Prop) : Prop := Lp2 (lX3_fallenOf_4 v0 v1 x K ) 0 0
set_option maxHeartbeats 4000000 in
set_option maxRecDepth 100000 in
theorem sX3_fallenOf (v0 : Nat) (v1 : Nat) (hv0 : isF v0) (hv1 : isH v1) (x : ab_X) (K : Int32 → Prop) (d bc bs : Nat) (hdp : 2 ≤ d) (h : wX3_fallenOf v0 v1 x K) : EW MX3_fallenOf 0 [(0, .ref v0), (1, .ref v1)] [] (aS x) d bc bs (liP x K) := by
  unfold wX3_fallenOf at h
  refine EW_iconst (pc2 := 1) (v := 0) rfl dX3_fallenOf_0 (by decide) ?_
  refine EW_istore_n (pc2 := 2) rfl dX3_fallenOf_1 (by decide) [1, 2, 0] [(0, .ref v0), (1, .ref v1), (2, .int 0)] rfl ?_
  refine EW_iconst (pc2 := 3) (v := 0) rfl dX3_fallenOf_2 (by decide) ?_
  refine EW_istore_n (pc2 := 4) rfl dX3_fallenOf_3 (by decide) [1, 2, 3, 0] [(0, .ref v0), (1, .ref v1), (2, .int 0), (3, .int 0)] rfl ?_
  exact sX3_fallenOf_4 v0 v1 0 0 hv0 hv1 x K d bc bs hdp h
