theorem mlRX0_180 : Cond.methodLink RX0 180 yX0_soonest ∈ ab_G ∧ Cond.instanceMethod yX0_soonest ∈ ab_G ∧ Cond.selects RX0 yX0_soonest yX0_soonest ∈ ab_G := ⟨ab_in 1123 (by decide +kernel) (by decide +kernel), ab_in 1124 (by decide +kernel) (by decide +kernel), ab_in 1125 (by decide +kernel) (by decide +kernel)⟩
theorem mlRX0_184 : Cond.methodLink RX0 184 yX2_set ∈ ab_G ∧ Cond.instanceMethod yX2_set ∈ ab_G ∧ Cond.selects RX2 yX2_set yX2_set ∈ ab_G := ⟨ab_in 1019 (by decide +kernel) (by decide +kernel), ab_in 1020 (by decide +kernel) (by decide +kernel), ab_in 1021 (by decide +kernel) (by decide +kernel)⟩
theorem mlRX0_208 : Cond.methodLink RX0 208 yX0_isSpare ∈ ab_G ∧ Cond.instanceMethod yX0_isSpare ∈ ab_G ∧ Cond.selects RX0 yX0_isSpare yX0_isSpare ∈ ab_G := ⟨ab_in 1139 (by decide +kernel) (by decide +kernel), ab_in 1140 (by decide +kernel) (by decide +kernel), ab_in 1141 (by decide +kernel) (by decide +kernel)⟩
theorem mlRX0_194 : Cond.methodLink RX0 194 yX0_arrivalOf ∈ ab_G ∧ Cond.instanceMethod yX0_arrivalOf ∈ ab_G ∧ Cond.selects RX0 yX0_arrivalOf yX0_arrivalOf ∈ ab_G := ⟨ab_in 1009 (by decide +kernel) (by decide +kernel), ab_in 1010 (by decide +kernel) (by decide +kernel), ab_in 1011 (by decide +kernel) (by decide +kernel)⟩
theorem mlRX0_205 : Cond.methodLink RX0 205 yX0_barePost ∈ ab_G ∧ Cond.instanceMethod yX0_barePost ∈ ab_G ∧ Cond.selects RX0 yX0_barePost yX0_barePost ∈ ab_G := ⟨ab_in 1131 (by decide +kernel) (by decide +kernel), ab_in 1132 (by decide +kernel) (by decide +kernel), ab_in 1133 (by decide +kernel) (by decide +kernel)⟩
abbrev MX0_moveAll : ab_M := (yX0_moveAll, cX0_moveAll, 5, none)
theorem dX0_moveAll_0 : decode cX0_moveAll 0 = .ok (.iconst 0, 1) := by decide +kernel
theorem dX0_moveAll_1 : decode cX0_moveAll 1 = .ok (.istore_n 2, 1) := by decide +kernel
theorem dX0_moveAll_2 : decode cX0_moveAll 2 = .ok (.iload_n 2, 1) := by decide +kernel
theorem dX0_moveAll_3 : decode cX0_moveAll 3 = .ok (.iload_n 1, 1) := by decide +kernel
theorem dX0_moveAll_4 : decode cX0_moveAll 4 = .ok (.if_icmp .ge 102, 3) := by decide +kernel
theorem dX0_moveAll_7 : decode cX0_moveAll 7 = .ok (.aload_n 0, 1) := by decide +kernel
theorem dX0_moveAll_8 : decode cX0_moveAll 8 = .ok (.invokevirtual 205, 3) := by decide +kernel
theorem dX0_moveAll_11 : decode cX0_moveAll 11 = .ok (.istore_n 3, 1) := by decide +kernel
theorem dX0_moveAll_12 : decode cX0_moveAll 12 = .ok (.iload_n 3, 1) := by decide +kernel
theorem dX0_moveAll_13 : decode cX0_moveAll 13 = .ok (.iconst (-1), 1) := by decide +kernel
theorem dX0_moveAll_14 : decode cX0_moveAll 14 = .ok (.if_icmp .ne 4, 3) := by decide +kernel
theorem dX0_moveAll_17 : decode cX0_moveAll 17 = .ok (.return_, 1) := by decide +kernel
theorem dX0_moveAll_18 : decode cX0_moveAll 18 = .ok (.iconst 0, 1) := by decide +kernel
theorem dX0_moveAll_19 : decode cX0_moveAll 19 = .ok (.istore 4, 2) := by decide +kernel
theorem dX0_moveAll_21 : decode cX0_moveAll 21 = .ok (.iload 4, 2) := by decide +kernel
theorem dX0_moveAll_23 : decode cX0_moveAll 23 = .ok (.aload_n 0, 1) := by decide +kernel
theorem dX0_moveAll_24 : decode cX0_moveAll 24 = .ok (.getfield 55, 3) := by decide +kernel
theorem dX0_moveAll_27 : decode cX0_moveAll 27 = .ok (.if_icmp .ge 41, 3) := by decide +kernel
theorem dX0_moveAll_30 : decode cX0_moveAll 30 = .ok (.aload_n 0, 1) := by decide +kernel
theorem dX0_moveAll_31 : decode cX0_moveAll 31 = .ok (.getfield 39, 3) := by decide +kernel
theorem dX0_moveAll_34 : decode cX0_moveAll 34 = .ok (.iload 4, 2) := by decide +kernel
theorem dX0_moveAll_36 : decode cX0_moveAll 36 = .ok (.aload_n 0, 1) := by decide +kernel
theorem dX0_moveAll_37 : decode cX0_moveAll 37 = .ok (.iload 4, 2) := by decide +kernel
theorem dX0_moveAll_39 : decode cX0_moveAll 39 = .ok (.invokevirtual 208, 3) := by decide +kernel
theorem dX0_moveAll_42 : decode cX0_moveAll 42 = .ok (.ifCond .eq 18, 3) := by decide +kernel
theorem dX0_moveAll_45 : decode cX0_moveAll 45 = .ok (.aload_n 0, 1) := by decide +kernel
theorem dX0_moveAll_46 : decode cX0_moveAll 46 = .ok (.aload_n 0, 1) := by decide +kernel
theorem dX0_moveAll_47 : decode cX0_moveAll 47 = .ok (.getfield 11, 3) := by decide +kernel
theorem dX0_moveAll_50 : decode cX0_moveAll 50 = .ok (.iload 4, 2) := by decide +kernel
theorem dX0_moveAll_52 : decode cX0_moveAll 52 = .ok (.aaload, 1) := by decide +kernel
theorem dX0_moveAll_53 : decode cX0_moveAll 53 = .ok (.iload_n 3, 1) := by decide +kernel
theorem dX0_moveAll_54 : decode cX0_moveAll 54 = .ok (.invokevirtual 194, 3) := by decide +kernel
theorem dX0_moveAll_57 : decode cX0_moveAll 57 = .ok (.goto 4, 3) := by decide +kernel
theorem dX0_moveAll_60 : decode cX0_moveAll 60 = .ok (.iconst (-1), 1) := by decide +kernel
theorem dX0_moveAll_61 : decode cX0_moveAll 61 = .ok (.iastore, 1) := by decide +kernel
theorem dX0_moveAll_62 : decode cX0_moveAll 62 = .ok (.iinc 4 1, 3) := by decide +kernel
theorem dX0_moveAll_65 : decode cX0_moveAll 65 = .ok (.goto (-44), 3) := by decide +kernel
theorem dX0_moveAll_68 : decode cX0_moveAll 68 = .ok (.aload_n 0, 1) := by decide +kernel
theorem dX0_moveAll_69 : decode cX0_moveAll 69 = .ok (.invokevirtual 180, 3) := by decide +kernel
theorem dX0_moveAll_72 : decode cX0_moveAll 72 = .ok (.istore 4, 2) := by decide +kernel
theorem dX0_moveAll_74 : decode cX0_moveAll 74 = .ok (.iload 4, 2) := by decide +kernel
theorem dX0_moveAll_76 : decode cX0_moveAll 76 = .ok (.iconst (-1), 1) := by decide +kernel
theorem dX0_moveAll_77 : decode cX0_moveAll 77 = .ok (.if_icmp .ne 4, 3) := by decide +kernel
theorem dX0_moveAll_80 : decode cX0_moveAll 80 = .ok (.return_, 1) := by decide +kernel
theorem dX0_moveAll_81 : decode cX0_moveAll 81 = .ok (.aload_n 0, 1) := by decide +kernel
theorem dX0_moveAll_82 : decode cX0_moveAll 82 = .ok (.getfield 11, 3) := by decide +kernel
theorem dX0_moveAll_85 : decode cX0_moveAll 85 = .ok (.iload 4, 2) := by decide +kernel
theorem dX0_moveAll_87 : decode cX0_moveAll 87 = .ok (.aaload, 1) := by decide +kernel
theorem dX0_moveAll_88 : decode cX0_moveAll 88 = .ok (.iconst 3, 1) := by decide +kernel
theorem dX0_moveAll_89 : decode cX0_moveAll 89 = .ok (.iload_n 3, 1) := by decide +kernel
theorem dX0_moveAll_90 : decode cX0_moveAll 90 = .ok (.aload_n 0, 1) := by decide +kernel
theorem dX0_moveAll_91 : decode cX0_moveAll 91 = .ok (.getfield 39, 3) := by decide +kernel
theorem dX0_moveAll_94 : decode cX0_moveAll 94 = .ok (.iload 4, 2) := by decide +kernel
theorem dX0_moveAll_96 : decode cX0_moveAll 96 = .ok (.iaload, 1) := by decide +kernel
theorem dX0_moveAll_97 : decode cX0_moveAll 97 = .ok (.invokevirtual 184, 3) := by decide +kernel
theorem dX0_moveAll_100 : decode cX0_moveAll 100 = .ok (.iinc 2 1, 3) := by decide +kernel
theorem dX0_moveAll_103 : decode cX0_moveAll 103 = .ok (.goto (-101), 3) := by decide +kernel
theorem dX0_moveAll_106 : decode cX0_moveAll 106 = .ok (.return_, 1) := by decide +kernel
theorem okX0_moveAll : ab_okM MX0_moveAll 1 := ⟨by decide, ⟨by decide, by decide⟩, ab_in 1130 (by decide +kernel) (by decide +kernel), ab_in 92 (by decide +kernel) (by decide +kernel), by decide +kernel, by decide⟩
set_option maxHeartbeats 4000000 in
set_option maxRecDepth 100000 in
def lX0_moveAll_21 (v1 : Int32) (v2 : Int32) (v3 : Int32) (K : ab_X → Prop) (L2 : Int32 → ab_X → Prop) (L21 : Int32 → ab_X → Prop) (v4 : Int32) (x : ab_X) : Prop := (((x.1 66 3) ≤ v4 → wX0_soonest x (fun r2 => ((¬ r2 = (-1) → (vp_in r2 16 ∧ vp_in r2 16 ∧ wX2_set (82 + Int32.toNatClampNeg r2) 3 v3 (x.1 80 (Int32.toNatClampNeg r2)) x (fun x5 => L2 (v2 + 1) x5))) ∧ (r2 = (-1) → K x)))) ∧ (¬ (x.1 66 3) ≤ v4 → wX0_isSpare v4 x (fun r6 => ((r6 = 0 → (vp_in v4 16 ∧ L21 (v4 + 1) (wr x 80 (Int32.toNatClampNeg v4) (-1)))) ∧ (¬ r6 = 0 → (vp_in v4 16 ∧ wX0_arrivalOf (82 + Int32.toNatClampNeg v4) v3 x (fun r9 x10 => (vp_in v4 16 ∧ L21 (v4 + 1) (wr x10 80 (Int32.toNatClampNeg v4) r9)))))))))
set_option maxHeartbeats 4000000 in
set_option maxRecDepth 100000 in
theorem sX0_moveAll_21 (v1 : Int32) (v2 : Int32) (v3 : Int32) (v4 : Int32)  (x : ab_X) (K : ab_X → Prop) (L2 : Int32 → ab_X → Prop) (d bc bs : Nat) (hdp : 3 ≤ d) (hL2 : ∀ (v2 : Int32) (x : ab_X), L2 v2 x → EW MX0_moveAll 2 [(0, .ref 66), (1, .int v1), (2, .int v2)] [] (aS x) d bc bs (liV K)) (h : Lp2 (lX0_moveAll_21 v1 v2 v3 K L2) v4 x) : EW MX0_moveAll 21 [(0, .ref 66), (1, .int v1), (2, .int v2), (3, .int v3), (4, .int v4)] [] (aS x) d bc bs (liV K) := by
  refine Lp2.use (P := fun v4 x => EW MX0_moveAll 21 [(0, .ref 66), (1, .int v1), (2, .int v2), (3, .int v3), (4, .int v4)] [] (aS x) d bc bs (liV K)) (fun L21 v4 x hL21 h => ?_) v4 x h
  unfold lX0_moveAll_21 at h
  refine EW_iload (pc2 := 23) rfl dX0_moveAll_21 4 rfl ?_
  refine EW_aload_n (pc2 := 24) rfl dX0_moveAll_23 0 rfl ?_
  refine AW_geti ⟨gfRX0_55, rfl⟩ (pc2 := 27) rfl dX0_moveAll_24 q66 ?_
  refine EW_icmp_ge (tgt := 68) (pc2 := 30) rfl dX0_moveAll_27 (by decide) (fun q => ?_) (fun q => ?_)
  · replace h := h.1 q
    refine EW_aload_n (pc2 := 69) rfl dX0_moveAll_68 0 rfl ?_
    refine AW_invV (M' := MX0_soonest) [] (rest := []) mlRX0_180 okX0_soonest (pc2 := 72) rfl dX0_moveAll_69 rfl rfl (Nat.le_of_ble_eq_true rfl) (Nat.le_of_ble_eq_true rfl) (d' := 0) (by omega) q66 ⟨by decide, rfl⟩ (EW_mono (fun _ _ hr => ?_) (sX0_soonest   x _ _ 0 0 (Nat.le_refl _) h))
    obtain ⟨r2, rfl, rfl, h⟩ := hr
    refine EW_istore (pc2 := 74) rfl dX0_moveAll_72 (by decide) [1, 2, 3, 4, 0] [(0, .ref 66), (1, .int v1), (2, .int v2), (3, .int v3), (4, .int r2)] rfl ?_
    refine EW_iload (pc2 := 76) rfl dX0_moveAll_74 4 rfl ?_
    refine EW_iconst (pc2 := 77) (v := (-1)) rfl dX0_moveAll_76 (by decide) ?_
    refine EW_icmp_ne (tgt := 81) (pc2 := 80) rfl dX0_moveAll_77 (by decide) (fun q => ?_) (fun q => ?_)
    · replace h := h.1 q
      refine EW_aload_n (pc2 := 82) rfl dX0_moveAll_81 0 rfl ?_
      refine AW_getr (r := 67) ⟨gfRX0_11, rfl⟩ (pc2 := 85) rfl dX0_moveAll_82 q66 rfl ?_
      refine EW_iload (pc2 := 87) rfl dX0_moveAll_85 4 rfl ?_
      obtain ⟨b3, h⟩ := h
      refine AW_aald6 (pc2 := 88) rfl dX0_moveAll_87 b3 ?_
      refine EW_iconst (pc2 := 89) (v := 3) rfl dX0_moveAll_88 (by decide) ?_
      refine EW_iload_n (pc2 := 90) rfl dX0_moveAll_89 3 rfl ?_
      refine EW_aload_n (pc2 := 91) rfl dX0_moveAll_90 0 rfl ?_
      refine AW_getr (r := 80) ⟨gfRX0_39, rfl⟩ (pc2 := 94) rfl dX0_moveAll_91 q66 rfl ?_
      refine EW_iload (pc2 := 96) rfl dX0_moveAll_94 4 rfl ?_
      obtain ⟨b4, h⟩ := h
      refine AW_iald (pc2 := 97) rfl dX0_moveAll_96 q80 b4 ?_
      refine AW_invV (M' := MX2_set) [.int 3, .int v3, .int (x.1 80 (Int32.toNatClampNeg r2))] (rest := []) mlRX0_184 okX2_set (pc2 := 100) rfl dX0_moveAll_97 rfl rfl (Nat.le_of_ble_eq_true rfl) (Nat.le_of_ble_eq_true rfl) (d' := 1) (by omega) (isW.o (isW_of b3)) ⟨by decide, rfl⟩ (EW_mono (fun _ _ hr => ?_) (sX2_set (82 + Int32.toNatClampNeg r2) 3 v3 (x.1 80 (Int32.toNatClampNeg r2)) (isW_of b3) x _ _ 0 0 (Nat.le_refl _) h))
      obtain ⟨x5, rfl, rfl, h⟩ := hr
      refine EW_iinc (v2 + 1) (pc2 := 103) rfl dX0_moveAll_100 2 rfl rfl (by decide) [1, 2, 0, 3, 4] [(0, .ref 66), (1, .int v1), (2, .int (v2 + 1)), (3, .int v3), (4, .int r2)] rfl ?_
      refine EW_goto (tgt := 2) dX0_moveAll_103 (by decide) ?_
      refine EW_ls [0, 1, 2] rfl ?_
      exact hL2 (v2 + 1) x5 h
    · replace h := h.2 q
      exact EW_vret rfl dX0_moveAll_80 ⟨_, rfl, rfl, h⟩
  · replace h := h.2 q
    refine EW_aload_n (pc2 := 31) rfl dX0_moveAll_30 0 rfl ?_
    refine AW_getr (r := 80) ⟨gfRX0_39, rfl⟩ (pc2 := 34) rfl dX0_moveAll_31 q66 rfl ?_
    refine EW_iload (pc2 := 36) rfl dX0_moveAll_34 4 rfl ?_
    refine EW_aload_n (pc2 := 37) rfl dX0_moveAll_36 0 rfl ?_
    refine EW_iload (pc2 := 39) rfl dX0_moveAll_37 4 rfl ?_
    refine AW_invV (M' := MX0_isSpare) [.int v4] (rest := [.int v4, .ref 80]) mlRX0_208 okX0_isSpare (pc2 := 42) rfl dX0_moveAll_39 rfl rfl (Nat.le_of_ble_eq_true rfl) (Nat.le_of_ble_eq_true rfl) (d' := 0) (by omega) q66 ⟨by decide, rfl⟩ (EW_mono (fun _ _ hr => ?_) (sX0_isSpare v4  x _ _ 0 0 (Nat.le_refl _) h))
    obtain ⟨r6, rfl, rfl, h⟩ := hr
    refine EW_if_eq (tgt := 60) (pc2 := 45) rfl dX0_moveAll_42 (by decide) (fun q => ?_) (fun q => ?_)
    · replace h := h.1 q
      refine EW_iconst (pc2 := 61) (v := (-1)) rfl dX0_moveAll_60 (by decide) ?_
      obtain ⟨b7, h⟩ := h
      refine AW_iast (pc2 := 62) rfl dX0_moveAll_61 q80 b7 ?_
      refine EW_iinc (v4 + 1) (pc2 := 65) rfl dX0_moveAll_62 4 rfl rfl (by decide) [1, 2, 3, 4, 0] [(0, .ref 66), (1, .int v1), (2, .int v2), (3, .int v3), (4, .int (v4 + 1))] rfl ?_
      refine EW_goto (tgt := 21) dX0_moveAll_65 (by decide) ?_
      exact hL21 (v4 + 1) (wr x 80 (Int32.toNatClampNeg v4) (-1)) h
    · replace h := h.2 q
      refine EW_aload_n (pc2 := 46) rfl dX0_moveAll_45 0 rfl ?_
      refine EW_aload_n (pc2 := 47) rfl dX0_moveAll_46 0 rfl ?_
      refine AW_getr (r := 67) ⟨gfRX0_11, rfl⟩ (pc2 := 50) rfl dX0_moveAll_47 q66 rfl ?_
      refine EW_iload (pc2 := 52) rfl dX0_moveAll_50 4 rfl ?_
      obtain ⟨b8, h⟩ := h
      refine AW_aald6 (pc2 := 53) rfl dX0_moveAll_52 b8 ?_
      refine EW_iload_n (pc2 := 54) rfl dX0_moveAll_53 3 rfl ?_
      refine AW_invV (M' := MX0_arrivalOf) [.ref (82 + Int32.toNatClampNeg v4), .int v3] (rest := [.int v4, .ref 80]) mlRX0_194 okX0_arrivalOf (pc2 := 57) rfl dX0_moveAll_54 rfl rfl (Nat.le_of_ble_eq_true rfl) (Nat.le_of_ble_eq_true rfl) (d' := 2) (by omega) q66 ⟨by decide, rfl⟩ (EW_mono (fun _ _ hr => ?_) (sX0_arrivalOf (82 + Int32.toNatClampNeg v4) v3 (isW_of b8) x _ _ 0 0 (Nat.le_refl _) h))
      obtain ⟨r9, x10, rfl, rfl, h⟩ := hr
      refine EW_goto (tgt := 61) dX0_moveAll_57 (by decide) ?_
      obtain ⟨b11, h⟩ := h
      refine AW_iast (pc2 := 62) rfl dX0_moveAll_61 q80 b11 ?_
      refine EW_iinc (v4 + 1) (pc2 := 65) rfl dX0_moveAll_62 4 rfl rfl (by decide) [1, 2, 3, 4, 0] [(0, .ref 66), (1, .int v1), (2, .int v2), (3, .int v3), (4, .int (v4 + 1))] rfl ?_
      refine EW_goto (tgt := 21) dX0_moveAll_65 (by decide) ?_
      exact hL21 (v4 + 1) (wr x10 80 (Int32.toNatClampNeg v4) r9) h
set_option maxHeartbeats 4000000 in
set_option maxRecDepth 100000 in
def lX0_moveAll_2 (v1 : Int32) (K : ab_X → Prop)  (L2 : Int32 → ab_X → Prop) (v2 : Int32) (x : ab_X) : Prop := ((v1 ≤ v2 → K x) ∧ (¬ v1 ≤ v2 → wX0_barePost x (fun r1 => ((¬ r1 = (-1) → Lp2 (lX0_moveAll_21 v1 v2 r1 K L2) 0 x) ∧ (r1 = (-1) → K x)))))
set_option maxHeartbeats 4000000 in
set_option maxRecDepth 100000 in
theorem sX0_moveAll_2 (v1 : Int32) (v2 : Int32)  (x : ab_X) (K : ab_X → Prop)  (d bc bs : Nat) (hdp : 3 ≤ d)  (h : Lp2 (lX0_moveAll_2 v1 K ) v2 x) : EW MX0_moveAll 2 [(0, .ref 66), (1, .int v1), (2, .int v2)] [] (aS x) d bc bs (liV K) := by
  refine Lp2.use (P := fun v2 x => EW MX0_moveAll 2 [(0, .ref 66), (1, .int v1), (2, .int v2)] [] (aS x) d bc bs (liV K)) (fun L2 v2 x hL2 h => ?_) v2 x h
  unfold lX0_moveAll_2 at h
  refine EW_iload_n (pc2 := 3) rfl dX0_moveAll_2 2 rfl ?_
  refine EW_iload_n (pc2 := 4) rfl dX0_moveAll_3 1 rfl ?_
  refine EW_icmp_ge (tgt := 106) (pc2 := 7) rfl dX0_moveAll_4 (by decide) (fun q => ?_) (fun q => ?_)
  · replace h := h.1 q
    exact EW_vret rfl dX0_moveAll_106 ⟨_, rfl, rfl, h⟩
  · replace h := h.2 q
    refine EW_aload_n (pc2 := 8) rfl dX0_moveAll_7 0 rfl ?_
    refine AW_invV (M' := MX0_barePost) [] (rest := []) mlRX0_205 okX0_barePost (pc2 := 11) rfl dX0_moveAll_8 rfl rfl (Nat.le_of_ble_eq_true rfl) (Nat.le_of_ble_eq_true rfl) (d' := 1) (by omega) q66 ⟨by decide, rfl⟩ (EW_mono (fun _ _ hr => ?_) (sX0_barePost   x _ _ 0 0 (Nat.le_refl _) h))
    obtain ⟨r1, rfl, rfl, h⟩ := hr
    refine EW_istore_n (pc2 := 12) rfl dX0_moveAll_11 (by decide) [1, 2, 3, 0] [(0, .ref 66), (1, .int v1), (2, .int v2), (3, .int r1)] rfl ?_
    refine EW_iload_n (pc2 := 13) rfl dX0_moveAll_12 3 rfl ?_
    refine EW_iconst (pc2 := 14) (v := (-1)) rfl dX0_moveAll_13 (by decide) ?_
    refine EW_icmp_ne (tgt := 18) (pc2 := 17) rfl dX0_moveAll_14 (by decide) (fun q => ?_) (fun q => ?_)
    · replace h := h.1 q
      refine EW_iconst (pc2 := 19) (v := 0) rfl dX0_moveAll_18 (by decide) ?_
      refine EW_istore (pc2 := 21) rfl dX0_moveAll_19 (by decide) [1, 2, 3, 4, 0] [(0, .ref 66), (1, .int v1), (2, .int v2), (3, .int r1), (4, .int 0)] rfl ?_
      exact sX0_moveAll_21 v1 v2 r1 0 x K L2 d bc bs hdp hL2 h
    · replace h := h.2 q
      exact EW_vret rfl dX0_moveAll_17 ⟨_, rfl, rfl, h⟩
set_option maxHeartbeats 4000000 in
set_option maxRecDepth 100000 in
def wX0_moveAll (v1 : Int32) (x : ab_X) (K : ab_X → Prop) : Prop := Lp2 (lX0_moveAll_2 v1 K ) 0 x
set_option maxHeartbeats 4000000 in
set_option maxRecDepth 100000 in
theorem sX0_moveAll (v1 : Int32)  (x : ab_X) (K : ab_X → Prop) (d bc bs : Nat) (hdp : 3 ≤ d) (h : wX0_moveAll v1 x K) : EW MX0_moveAll 0 [(0, .ref 66), (1, .int v1)] [] (aS x) d bc bs (liV K) := by
  unfold wX0_moveAll at h
  refine EW_iconst (pc2 := 1) (v := 0) rfl dX0_moveAll_0 (by decide) ?_
  refine EW_istore_n (pc2 := 2) rfl dX0_moveAll_1 (by decide) [1, 2, 0] [(0, .ref 66), (1, .int v1), (2, .int 0)] rfl ?_
  exact sX0_moveAll_2 v1 0 x K d bc bs hdp h
theorem gfRX0_84 : ab_L RX0 84 1 2 := ⟨by decide, by decide, ab_in 511 (by decide +kernel) (by decide +kernel)⟩
abbrev MX0_openAt : ab_M := (yX0_openAt, cX0_openAt, 3, (some .int))
theorem dX0_openAt_0 : decode cX0_openAt 0 = .ok (.iconst 0, 1) := by decide +kernel
theorem dX0_openAt_1 : decode cX0_openAt 1 = .ok (.istore_n 2, 1) := by decide +kernel
theorem dX0_openAt_2 : decode cX0_openAt 2 = .ok (.iload_n 2, 1) := by decide +kernel
theorem dX0_openAt_3 : decode cX0_openAt 3 = .ok (.aload_n 0, 1) := by decide +kernel
theorem dX0_openAt_4 : decode cX0_openAt 4 = .ok (.getfield 81, 3) := by decide +kernel
theorem dX0_openAt_7 : decode cX0_openAt 7 = .ok (.if_icmp .ge 36, 3) := by decide +kernel
theorem dX0_openAt_10 : decode cX0_openAt 10 = .ok (.aload_n 0, 1) := by decide +kernel
theorem dX0_openAt_11 : decode cX0_openAt 11 = .ok (.getfield 19, 3) := by decide +kernel
theorem dX0_openAt_14 : decode cX0_openAt 14 = .ok (.iload_n 2, 1) := by decide +kernel
theorem dX0_openAt_15 : decode cX0_openAt 15 = .ok (.aaload, 1) := by decide +kernel
theorem dX0_openAt_16 : decode cX0_openAt 16 = .ok (.getfield 84, 3) := by decide +kernel
theorem dX0_openAt_19 : decode cX0_openAt 19 = .ok (.ifCond .ne 18, 3) := by decide +kernel
theorem dX0_openAt_22 : decode cX0_openAt 22 = .ok (.aload_n 0, 1) := by decide +kernel
theorem dX0_openAt_23 : decode cX0_openAt 23 = .ok (.getfield 19, 3) := by decide +kernel
theorem dX0_openAt_26 : decode cX0_openAt 26 = .ok (.iload_n 2, 1) := by decide +kernel
theorem dX0_openAt_27 : decode cX0_openAt 27 = .ok (.aaload, 1) := by decide +kernel
theorem dX0_openAt_28 : decode cX0_openAt 28 = .ok (.getfield 88, 3) := by decide +kernel
theorem dX0_openAt_31 : decode cX0_openAt 31 = .ok (.iload_n 1, 1) := by decide +kernel
theorem dX0_openAt_32 : decode cX0_openAt 32 = .ok (.if_icmp .ne 5, 3) := by decide +kernel
theorem dX0_openAt_35 : decode cX0_openAt 35 = .ok (.iload_n 2, 1) := by decide +kernel
theorem dX0_openAt_36 : decode cX0_openAt 36 = .ok (.ireturn, 1) := by decide +kernel
theorem dX0_openAt_37 : decode cX0_openAt 37 = .ok (.iinc 2 1, 3) := by decide +kernel
theorem dX0_openAt_40 : decode cX0_openAt 40 = .ok (.goto (-38), 3) := by decide +kernel
theorem dX0_openAt_43 : decode cX0_openAt 43 = .ok (.iconst (-1), 1) := by decide +kernel
theorem dX0_openAt_44 : decode cX0_openAt 44 = .ok (.ireturn, 1) := by decide +kernel
theorem okX0_openAt : ab_okM MX0_openAt 1 := ⟨by decide, ⟨by decide, by decide⟩, ab_in 1050 (by decide +kernel) (by decide +kernel), ab_in 92 (by decide +kernel) (by decide +kernel), by decide +kernel, by decide⟩
set_option maxHeartbeats 4000000 in
set_option maxRecDepth 100000 in
def lX0_openAt_2 (v1 : Int32) (x : ab_X) (K : Int32 → Prop)  (L2 : Int32 → Prop) (v2 : Int32) : Prop := (((x.1 66 5) ≤ v2 → K (-1)) ∧ (¬ (x.1 66 5) ≤ v2 → (vp_in v2 60 ∧ ((¬ (x.1 (98 + Int32.toNatClampNeg v2) 2) = 0 → L2 (v2 + 1)) ∧ ((x.1 (98 + Int32.toNatClampNeg v2) 2) = 0 → (vp_in v2 60 ∧ ((¬ (x.1 (98 + Int32.toNatClampNeg v2) 0) = v1 → L2 (v2 + 1)) ∧ ((x.1 (98 + Int32.toNatClampNeg v2) 0) = v1 → K v2))))))))
set_option maxHeartbeats 4000000 in
set_option maxRecDepth 100000 in
theorem sX0_openAt_2 (v1 : Int32) (v2 : Int32)  (x : ab_X) (K : Int32 → Prop)  (d bc bs : Nat) (hdp : 0 ≤ d)  (h : Lp1 (lX0_openAt_2 v1 x K ) v2) : EW MX0_openAt 2 [(0, .ref 66), (1, .int v1), (2, .int v2)] [] (aS x) d bc bs (liP x K) := by
  refine Lp1.use (P := fun v2 => EW MX0_openAt 2 [(0, .ref 66), (1, .int v1), (2, .int v2)] [] (aS x) d bc bs (liP x K)) (fun L2 v2 hL2 h => ?_) v2 h
  unfold lX0_openAt_2 at h
  refine EW_iload_n (pc2 := 3) rfl dX0_openAt_2 2 rfl ?_
  refine EW_aload_n (pc2 := 4) rfl dX0_openAt_3 0 rfl ?_
  refine AW_geti ⟨gfRX0_81, rfl⟩ (pc2 := 7) rfl dX0_openAt_4 q66 ?_
  refine EW_icmp_ge (tgt := 43) (pc2 := 10) rfl dX0_openAt_7 (by decide) (fun q => ?_) (fun q => ?_)
  · replace h := h.1 q
    refine EW_iconst (pc2 := 44) (v := (-1)) rfl dX0_openAt_43 (by decide) ?_
    exact AW_iret rfl dX0_openAt_44 ⟨_, rfl, rfl, h⟩
  · replace h := h.2 q
    refine EW_aload_n (pc2 := 11) rfl dX0_openAt_10 0 rfl ?_
    refine AW_getr (r := 68) ⟨gfRX0_19, rfl⟩ (pc2 := 14) rfl dX0_openAt_11 q66 rfl ?_
    refine EW_iload_n (pc2 := 15) rfl dX0_openAt_14 2 rfl ?_
    obtain ⟨b1, h⟩ := h
    refine AW_aald7 (pc2 := 16) rfl dX0_openAt_15 b1 ?_
    refine AW_geti ⟨gfRX0_84, rfl⟩ (pc2 := 19) rfl dX0_openAt_16 (isK.o (isK_of b1)) ?_
    refine EW_if_ne (tgt := 37) (pc2 := 22) rfl dX0_openAt_19 (by decide) (fun q => ?_) (fun q => ?_)
    · replace h := h.1 q
      refine EW_iinc (v2 + 1) (pc2 := 40) rfl dX0_openAt_37 2 rfl rfl (by decide) [1, 2, 0] [(0, .ref 66), (1, .int v1), (2, .int (v2 + 1))] rfl ?_
      refine EW_goto (tgt := 2) dX0_openAt_40 (by decide) ?_
      exact hL2 (v2 + 1) h
    · replace h := h.2 q
      refine EW_aload_n (pc2 := 23) rfl dX0_openAt_22 0 rfl ?_
      refine AW_getr (r := 68) ⟨gfRX0_19, rfl⟩ (pc2 := 26) rfl dX0_openAt_23 q66 rfl ?_
      refine EW_iload_n (pc2 := 27) rfl dX0_openAt_26 2 rfl ?_
      obtain ⟨b2, h⟩ := h
      refine AW_aald7 (pc2 := 28) rfl dX0_openAt_27 b2 ?_
      refine AW_geti ⟨gfRX0_88, rfl⟩ (pc2 := 31) rfl dX0_openAt_28 (isK.o (isK_of b2)) ?_
      refine EW_iload_n (pc2 := 32) rfl dX0_openAt_31 1 rfl ?_
      refine EW_icmp_ne (tgt := 37) (pc2 := 35) rfl dX0_openAt_32 (by decide) (fun q => ?_) (fun q => ?_)
      · replace h := h.1 q
        refine EW_iinc (v2 + 1) (pc2 := 40) rfl dX0_openAt_37 2 rfl rfl (by decide) [1, 2, 0] [(0, .ref 66), (1, .int v1), (2, .int (v2 + 1))] rfl ?_
        refine EW_goto (tgt := 2) dX0_openAt_40 (by decide) ?_
        exact hL2 (v2 + 1) h
      · replace h := h.2 q
        refine EW_iload_n (pc2 := 36) rfl dX0_openAt_35 2 rfl ?_
        exact AW_iret rfl dX0_openAt_36 ⟨_, rfl, rfl, h⟩
set_option maxHeartbeats 4000000 in
set_option maxRecDepth 100000 in
def wX0_openAt (v1 : Int32) (x : ab_X) (K : Int32 → Prop) : Prop := Lp1 (lX0_openAt_2 v1 x K ) 0
set_option maxHeartbeats 4000000 in
set_option maxRecDepth 100000 in
theorem sX0_openAt (v1 : Int32)  (x : ab_X) (K : Int32 → Prop) (d bc bs : Nat) (hdp : 0 ≤ d) (h : wX0_openAt v1 x K) : EW MX0_openAt 0 [(0, .ref 66), (1, .int v1)] [] (aS x) d bc bs (liP x K) := by
  unfold wX0_openAt at h
  refine EW_iconst (pc2 := 1) (v := 0) rfl dX0_openAt_0 (by decide) ?_
  refine EW_istore_n (pc2 := 2) rfl dX0_openAt_1 (by decide) [1, 2, 0] [(0, .ref 66), (1, .int v1), (2, .int 0)] rfl ?_
  exact sX0_openAt_2 v1 0 x K d bc bs hdp h
abbrev MX0_callsThatAre : ab_M := (yX0_callsThatAre, cX0_callsThatAre, 4, (some .int))
theorem dX0_callsThatAre_0 : decode cX0_callsThatAre 0 = .ok (.iconst 0, 1) := by decide +kernel
theorem dX0_callsThatAre_1 : decode cX0_callsThatAre 1 = .ok (.istore_n 2, 1) := by decide +kernel
theorem dX0_callsThatAre_2 : decode cX0_callsThatAre 2 = .ok (.iconst 0, 1) := by decide +kernel
theorem dX0_callsThatAre_3 : decode cX0_callsThatAre 3 = .ok (.istore_n 3, 1) := by decide +kernel
theorem dX0_callsThatAre_4 : decode cX0_callsThatAre 4 = .ok (.iload_n 3, 1) := by decide +kernel
theorem dX0_callsThatAre_5 : decode cX0_callsThatAre 5 = .ok (.aload_n 0, 1) := by decide +kernel
theorem dX0_callsThatAre_6 : decode cX0_callsThatAre 6 = .ok (.getfield 81, 3) := by decide +kernel
theorem dX0_callsThatAre_9 : decode cX0_callsThatAre 9 = .ok (.if_icmp .ge 30, 3) := by decide +kernel
theorem dX0_callsThatAre_12 : decode cX0_callsThatAre 12 = .ok (.iload_n 2, 1) := by decide +kernel
theorem dX0_callsThatAre_13 : decode cX0_callsThatAre 13 = .ok (.aload_n 0, 1) := by decide +kernel
theorem dX0_callsThatAre_14 : decode cX0_callsThatAre 14 = .ok (.getfield 19, 3) := by decide +kernel
theorem dX0_callsThatAre_17 : decode cX0_callsThatAre 17 = .ok (.iload_n 3, 1) := by decide +kernel
theorem dX0_callsThatAre_18 : decode cX0_callsThatAre 18 = .ok (.aaload, 1) := by decide +kernel
theorem dX0_callsThatAre_19 : decode cX0_callsThatAre 19 = .ok (.getfield 84, 3) := by decide +kernel
theorem dX0_callsThatAre_22 : decode cX0_callsThatAre 22 = .ok (.iload_n 1, 1) := by decide +kernel
theorem dX0_callsThatAre_23 : decode cX0_callsThatAre 23 = .ok (.if_icmp .ne 7, 3) := by decide +kernel
theorem dX0_callsThatAre_26 : decode cX0_callsThatAre 26 = .ok (.iconst 1, 1) := by decide +kernel
theorem dX0_callsThatAre_27 : decode cX0_callsThatAre 27 = .ok (.goto 4, 3) := by decide +kernel
theorem dX0_callsThatAre_30 : decode cX0_callsThatAre 30 = .ok (.iconst 0, 1) := by decide +kernel
theorem dX0_callsThatAre_31 : decode cX0_callsThatAre 31 = .ok (.iadd, 1) := by decide +kernel
theorem dX0_callsThatAre_32 : decode cX0_callsThatAre 32 = .ok (.istore_n 2, 1) := by decide +kernel
theorem dX0_callsThatAre_33 : decode cX0_callsThatAre 33 = .ok (.iinc 3 1, 3) := by decide +kernel
theorem dX0_callsThatAre_36 : decode cX0_callsThatAre 36 = .ok (.goto (-32), 3) := by decide +kernel
theorem dX0_callsThatAre_39 : decode cX0_callsThatAre 39 = .ok (.iload_n 2, 1) := by decide +kernel
theorem dX0_callsThatAre_40 : decode cX0_callsThatAre 40 = .ok (.ireturn, 1) := by decide +kernel
theorem okX0_callsThatAre : ab_okM MX0_callsThatAre 1 := ⟨by decide, ⟨by decide, by decide⟩, ab_in 1072 (by decide +kernel) (by decide +kernel), ab_in 92 (by decide +kernel) (by decide +kernel), by decide +kernel, by decide⟩
set_option maxHeartbeats 4000000 in
set_option maxRecDepth 100000 in
def wX0_callsThatAre_31 (v1 : Int32) (v3 : Int32) (s0 : Int32) (s1 : Int32) (x : ab_X) (K : Int32 → Prop) (L4 : Int32 → Int32 → Prop) : Prop := L4 (s0 + s1) (v3 + 1)
set_option maxHeartbeats 4000000 in
set_option maxRecDepth 100000 in
theorem sX0_callsThatAre_31 (v1 : Int32) (v3 : Int32) (s0 : Int32) (s1 : Int32)  (x : ab_X) (K : Int32 → Prop) (L4 : Int32 → Int32 → Prop) (d bc bs : Nat) (hdp : 0 ≤ d) (hL4 : ∀ (v2 : Int32) (v3 : Int32), L4 v2 v3 → EW MX0_callsThatAre 4 [(0, .ref 66), (1, .int v1), (2, .int v2), (3, .int v3)] [] (aS x) d bc bs (liP x K)) (h : wX0_callsThatAre_31 v1 v3 s0 s1 x K L4) : EW MX0_callsThatAre 31 [(0, .ref 66), (1, .int v1), (3, .int v3)] [.int s1, .int s0] (aS x) d bc bs (liP x K) := by
  unfold wX0_callsThatAre_31 at h
  refine EW_iadd (pc2 := 32) rfl dX0_callsThatAre_31 ?_
  refine EW_istore_n (pc2 := 33) rfl dX0_callsThatAre_32 (by decide) [1, 2, 0, 3] [(0, .ref 66), (1, .int v1), (2, .int (s0 + s1)), (3, .int v3)] rfl ?_
  refine EW_iinc (v3 + 1) (pc2 := 36) rfl dX0_callsThatAre_33 3 rfl rfl (by decide) [1, 2, 3, 0] [(0, .ref 66), (1, .int v1), (2, .int (s0 + s1)), (3, .int (v3 + 1))] rfl ?_
  refine EW_goto (tgt := 4) dX0_callsThatAre_36 (by decide) ?_
  exact hL4 (s0 + s1) (v3 + 1) h
set_option maxHeartbeats 4000000 in
set_option maxRecDepth 100000 in
def lX0_callsThatAre_4 (v1 : Int32) (x : ab_X) (K : Int32 → Prop)  (L4 : Int32 → Int32 → Prop) (v2 : Int32) (v3 : Int32) : Prop := (((x.1 66 5) ≤ v3 → K v2) ∧ (¬ (x.1 66 5) ≤ v3 → (vp_in v3 60 ∧ ((¬ (x.1 (98 + Int32.toNatClampNeg v3) 2) = v1 → wX0_callsThatAre_31 v1 v3 v2 0 x K L4) ∧ ((x.1 (98 + Int32.toNatClampNeg v3) 2) = v1 → wX0_callsThatAre_31 v1 v3 v2 1 x K L4)))))
set_option maxHeartbeats 4000000 in
set_option maxRecDepth 100000 in
theorem sX0_callsThatAre_4 (v1 : Int32) (v2 : Int32) (v3 : Int32)  (x : ab_X) (K : Int32 → Prop)  (d bc bs : Nat) (hdp : 0 ≤ d)  (h : Lp2 (lX0_callsThatAre_4 v1 x K ) v2 v3) : EW MX0_callsThatAre 4 [(0, .ref 66), (1, .int v1), (2, .int v2), (3, .int v3)] [] (aS x) d bc bs (liP x K) := by
  refine Lp2.use (P := fun v2 v3 => EW MX0_callsThatAre 4 [(0, .ref 66), (1, .int v1), (2, .int v2), (3, .int v3)] [] (aS x) d bc bs (liP x K)) (fun L4 v2 v3 hL4 h => ?_) v2 v3 h
  unfold lX0_callsThatAre_4 at h
  refine EW_iload_n (pc2 := 5) rfl dX0_callsThatAre_4 3 rfl ?_
  refine EW_aload_n (pc2 := 6) rfl dX0_callsThatAre_5 0 rfl ?_
  refine AW_geti ⟨gfRX0_81, rfl⟩ (pc2 := 9) rfl dX0_callsThatAre_6 q66 ?_
  refine EW_icmp_ge (tgt := 39) (pc2 := 12) rfl dX0_callsThatAre_9 (by decide) (fun q => ?_) (fun q => ?_)
  · replace h := h.1 q
    refine EW_iload_n (pc2 := 40) rfl dX0_callsThatAre_39 2 rfl ?_
    exact AW_iret rfl dX0_callsThatAre_40 ⟨_, rfl, rfl, h⟩
  · replace h := h.2 q
    refine EW_iload_n (pc2 := 13) rfl dX0_callsThatAre_12 2 rfl ?_
    refine EW_aload_n (pc2 := 14) rfl dX0_callsThatAre_13 0 rfl ?_
    refine AW_getr (r := 68) ⟨gfRX0_19, rfl⟩ (pc2 := 17) rfl dX0_callsThatAre_14 q66 rfl ?_
    refine EW_iload_n (pc2 := 18) rfl dX0_callsThatAre_17 3 rfl ?_
    obtain ⟨b1, h⟩ := h
    refine AW_aald7 (pc2 := 19) rfl dX0_callsThatAre_18 b1 ?_
    refine AW_geti ⟨gfRX0_84, rfl⟩ (pc2 := 22) rfl dX0_callsThatAre_19 (isK.o (isK_of b1)) ?_
    refine EW_iload_n (pc2 := 23) rfl dX0_callsThatAre_22 1 rfl ?_
    refine EW_icmp_ne (tgt := 30) (pc2 := 26) rfl dX0_callsThatAre_23 (by decide) (fun q => ?_) (fun q => ?_)
    · replace h := h.1 q
      refine EW_iconst (pc2 := 31) (v := 0) rfl dX0_callsThatAre_30 (by decide) ?_
      refine EW_ls [0, 1, 3] rfl ?_
      exact sX0_callsThatAre_31 v1 v3 v2 0 x K L4 d bc bs hdp hL4 h
    · replace h := h.2 q
      refine EW_iconst (pc2 := 27) (v := 1) rfl dX0_callsThatAre_26 (by decide) ?_
      refine EW_goto (tgt := 31) dX0_callsThatAre_27 (by decide) ?_
      refine EW_ls [0, 1, 3] rfl ?_
      exact sX0_callsThatAre_31 v1 v3 v2 1 x K L4 d bc bs hdp hL4 h
set_option maxHeartbeats 4000000 in
set_option maxRecDepth 100000 in
def wX0_callsThatAre (v1 : Int32) (x : ab_X) (K : Int32 → Prop) : Prop := Lp2 (lX0_callsThatAre_4 v1 x K ) 0 0
set_option maxHeartbeats 4000000 in
set_option maxRecDepth 100000 in
theorem sX0_callsThatAre (v1 : Int32)  (x : ab_X) (K : Int32 → Prop) (d bc bs : Nat) (hdp : 0 ≤ d) (h : wX0_callsThatAre v1 x K) : EW MX0_callsThatAre 0 [(0, .ref 66), (1, .int v1)] [] (aS x) d bc bs (liP x K) := by
  unfold wX0_callsThatAre at h
  refine EW_iconst (pc2 := 1) (v := 0) rfl dX0_callsThatAre_0 (by decide) ?_
  refine EW_istore_n (pc2 := 2) rfl dX0_callsThatAre_1 (by decide) [1, 2, 0] [(0, .ref 66), (1, .int v1), (2, .int 0)] rfl ?_
  refine EW_iconst (pc2 := 3) (v := 0) rfl dX0_callsThatAre_2 (by decide) ?_
  refine EW_istore_n (pc2 := 4) rfl dX0_callsThatAre_3 (by decide) [1, 2, 3, 0] [(0, .ref 66), (1, .int v1), (2, .int 0), (3, .int 0)] rfl ?_
  exact sX0_callsThatAre_4 v1 0 0 x K d bc bs hdp h
theorem mlRX0_94 : Cond.methodLink RX0 94 yX6_partOf ∈ ab_G ∧ Cond.static yX6_partOf ∈ ab_G := ⟨ab_in 1060 (by decide +kernel) (by decide +kernel), ab_in 813 (by decide +kernel) (by decide +kernel)⟩
abbrev MX0_falseHundredths : ab_M := (yX0_falseHundredths, cX0_falseHundredths, 7, (some .int))
theorem dX0_falseHundredths_0 : decode cX0_falseHundredths 0 = .ok (.iconst 0, 1) := by decide +kernel
theorem dX0_falseHundredths_1 : decode cX0_falseHundredths 1 = .ok (.istore_n 3, 1) := by decide +kernel
theorem dX0_falseHundredths_2 : decode cX0_falseHundredths 2 = .ok (.iconst 0, 1) := by decide +kernel
theorem dX0_falseHundredths_3 : decode cX0_falseHundredths 3 = .ok (.istore 4, 2) := by decide +kernel
theorem dX0_falseHundredths_5 : decode cX0_falseHundredths 5 = .ok (.iconst 0, 1) := by decide +kernel
theorem dX0_falseHundredths_6 : decode cX0_falseHundredths 6 = .ok (.istore 5, 2) := by decide +kernel
theorem dX0_falseHundredths_8 : decode cX0_falseHundredths 8 = .ok (.iload 5, 2) := by decide +kernel
theorem dX0_falseHundredths_10 : decode cX0_falseHundredths 10 = .ok (.aload_n 0, 1) := by decide +kernel
theorem dX0_falseHundredths_11 : decode cX0_falseHundredths 11 = .ok (.getfield 81, 3) := by decide +kernel
theorem dX0_falseHundredths_14 : decode cX0_falseHundredths 14 = .ok (.if_icmp .ge 69, 3) := by decide +kernel
theorem dX0_falseHundredths_17 : decode cX0_falseHundredths 17 = .ok (.aload_n 0, 1) := by decide +kernel
theorem dX0_falseHundredths_18 : decode cX0_falseHundredths 18 = .ok (.getfield 19, 3) := by decide +kernel
theorem dX0_falseHundredths_21 : decode cX0_falseHundredths 21 = .ok (.iload 5, 2) := by decide +kernel
theorem dX0_falseHundredths_23 : decode cX0_falseHundredths 23 = .ok (.aaload, 1) := by decide +kernel
theorem dX0_falseHundredths_24 : decode cX0_falseHundredths 24 = .ok (.astore 6, 2) := by decide +kernel
theorem dX0_falseHundredths_26 : decode cX0_falseHundredths 26 = .ok (.aload 6, 2) := by decide +kernel
theorem dX0_falseHundredths_28 : decode cX0_falseHundredths 28 = .ok (.getfield 88, 3) := by decide +kernel
theorem dX0_falseHundredths_31 : decode cX0_falseHundredths 31 = .ok (.iload_n 1, 1) := by decide +kernel
theorem dX0_falseHundredths_32 : decode cX0_falseHundredths 32 = .ok (.if_icmp .ne 45, 3) := by decide +kernel
theorem dX0_falseHundredths_35 : decode cX0_falseHundredths 35 = .ok (.aload 6, 2) := by decide +kernel
theorem dX0_falseHundredths_37 : decode cX0_falseHundredths 37 = .ok (.getfield 84, 3) := by decide +kernel
theorem dX0_falseHundredths_40 : decode cX0_falseHundredths 40 = .ok (.ifCond .eq 37, 3) := by decide +kernel
theorem dX0_falseHundredths_43 : decode cX0_falseHundredths 43 = .ok (.aload 6, 2) := by decide +kernel
theorem dX0_falseHundredths_45 : decode cX0_falseHundredths 45 = .ok (.getfield 91, 3) := by decide +kernel
theorem dX0_falseHundredths_48 : decode cX0_falseHundredths 48 = .ok (.invokestatic 94, 3) := by decide +kernel
theorem dX0_falseHundredths_51 : decode cX0_falseHundredths 51 = .ok (.iload_n 2, 1) := by decide +kernel
theorem dX0_falseHundredths_52 : decode cX0_falseHundredths 52 = .ok (.if_icmp .ne 25, 3) := by decide +kernel
theorem dX0_falseHundredths_55 : decode cX0_falseHundredths 55 = .ok (.iinc 3 1, 3) := by decide +kernel
theorem dX0_falseHundredths_58 : decode cX0_falseHundredths 58 = .ok (.iload 4, 2) := by decide +kernel
theorem dX0_falseHundredths_60 : decode cX0_falseHundredths 60 = .ok (.aload 6, 2) := by decide +kernel
theorem dX0_falseHundredths_62 : decode cX0_falseHundredths 62 = .ok (.getfield 84, 3) := by decide +kernel
theorem dX0_falseHundredths_65 : decode cX0_falseHundredths 65 = .ok (.iconst 2, 1) := by decide +kernel
theorem dX0_falseHundredths_66 : decode cX0_falseHundredths 66 = .ok (.if_icmp .ne 7, 3) := by decide +kernel
theorem dX0_falseHundredths_69 : decode cX0_falseHundredths 69 = .ok (.iconst 1, 1) := by decide +kernel
theorem dX0_falseHundredths_70 : decode cX0_falseHundredths 70 = .ok (.goto 4, 3) := by decide +kernel
theorem dX0_falseHundredths_73 : decode cX0_falseHundredths 73 = .ok (.iconst 0, 1) := by decide +kernel
theorem dX0_falseHundredths_74 : decode cX0_falseHundredths 74 = .ok (.iadd, 1) := by decide +kernel
theorem dX0_falseHundredths_75 : decode cX0_falseHundredths 75 = .ok (.istore 4, 2) := by decide +kernel
theorem dX0_falseHundredths_77 : decode cX0_falseHundredths 77 = .ok (.iinc 5 1, 3) := by decide +kernel
theorem dX0_falseHundredths_80 : decode cX0_falseHundredths 80 = .ok (.goto (-72), 3) := by decide +kernel
theorem dX0_falseHundredths_83 : decode cX0_falseHundredths 83 = .ok (.iload_n 3, 1) := by decide +kernel
theorem dX0_falseHundredths_84 : decode cX0_falseHundredths 84 = .ok (.ifCond .ne 7, 3) := by decide +kernel
theorem dX0_falseHundredths_87 : decode cX0_falseHundredths 87 = .ok (.iconst 0, 1) := by decide +kernel
theorem dX0_falseHundredths_88 : decode cX0_falseHundredths 88 = .ok (.goto 10, 3) := by decide +kernel
theorem dX0_falseHundredths_91 : decode cX0_falseHundredths 91 = .ok (.iload 4, 2) := by decide +kernel
theorem dX0_falseHundredths_93 : decode cX0_falseHundredths 93 = .ok (.bipush 100, 2) := by decide +kernel
theorem dX0_falseHundredths_95 : decode cX0_falseHundredths 95 = .ok (.imul, 1) := by decide +kernel
theorem dX0_falseHundredths_96 : decode cX0_falseHundredths 96 = .ok (.iload_n 3, 1) := by decide +kernel
theorem dX0_falseHundredths_97 : decode cX0_falseHundredths 97 = .ok (.idiv, 1) := by decide +kernel
theorem dX0_falseHundredths_98 : decode cX0_falseHundredths 98 = .ok (.ireturn, 1) := by decide +kernel
theorem okX0_falseHundredths : ab_okM MX0_falseHundredths 2 := ⟨by decide, ⟨by decide, by decide⟩, ab_in 1064 (by decide +kernel) (by decide +kernel), ab_in 92 (by decide +kernel) (by decide +kernel), by decide +kernel, by decide⟩
set_option maxHeartbeats 4000000 in
set_option maxRecDepth 100000 in
def wX0_falseHundredths_74 (v1 : Int32) (v2 : Int32) (v3 : Int32) (v5 : Int32) (s0 : Int32) (s1 : Int32) (x : ab_X) (K : Int32 → Prop) (L8 : Int32 → Int32 → Int32 → Prop) : Prop := L8 v3 (s0 + s1) (v5 + 1)
set_option maxHeartbeats 4000000 in
set_option maxRecDepth 100000 in
theorem sX0_falseHundredths_74 (v1 : Int32) (v2 : Int32) (v3 : Int32) (v5 : Int32) (s0 : Int32) (s1 : Int32)  (x : ab_X) (K : Int32 → Prop) (L8 : Int32 → Int32 → Int32 → Prop) (d bc bs : Nat) (hdp : 1 ≤ d) (hL8 : ∀ (v3 : Int32) (v4 : Int32) (v5 : Int32), L8 v3 v4 v5 → EW MX0_falseHundredths 8 [(0, .ref 66), (1, .int v1), (2, .int v2), (3, .int v3), (4, .int v4), (5, .int v5)] [] (aS x) d bc bs (liP x K)) (h : wX0_falseHundredths_74 v1 v2 v3 v5 s0 s1 x K L8) : EW MX0_falseHundredths 74 [(0, .ref 66), (1, .int v1), (2, .int v2), (3, .int v3), (5, .int v5)] [.int s1, .int s0] (aS x) d bc bs (liP x K) := by
  unfold wX0_falseHundredths_74 at h
  refine EW_iadd (pc2 := 75) rfl dX0_falseHundredths_74 ?_
  refine EW_istore (pc2 := 77) rfl dX0_falseHundredths_75 (by decide) [1, 2, 3, 4, 0, 5] [(0, .ref 66), (1, .int v1), (2, .int v2), (3, .int v3), (4, .int (s0 + s1)), (5, .int v5)] rfl ?_
  refine EW_iinc (v5 + 1) (pc2 := 80) rfl dX0_falseHundredths_77 5 rfl rfl (by decide) [1, 2, 3, 4, 5, 0] [(0, .ref 66), (1, .int v1), (2, .int v2), (3, .int v3), (4, .int (s0 + s1)), (5, .int (v5 + 1))] rfl ?_
  refine EW_goto (tgt := 8) dX0_falseHundredths_80 (by decide) ?_
  exact hL8 v3 (s0 + s1) (v5 + 1) h
set_option maxHeartbeats 4000000 in
set_option maxRecDepth 100000 in
def lX0_falseHundredths_8 (v1 : Int32) (v2 : Int32) (x : ab_X) (K : Int32 → Prop)  (L8 : Int32 → Int32 → Int32 → Prop) (v3 : Int32) (v4 : Int32) (v5 : Int32) : Prop := (((x.1 66 5) ≤ v5 → ((¬ v3 = 0 → (¬ v3 = 0 ∧ K ((v4 * 100) / v3))) ∧ (v3 = 0 → K 0))) ∧ (¬ (x.1 66 5) ≤ v5 → (vp_in v5 60 ∧ ((¬ (x.1 (98 + Int32.toNatClampNeg v5) 0) = v1 → L8 v3 v4 (v5 + 1)) ∧ ((x.1 (98 + Int32.toNatClampNeg v5) 0) = v1 → (((x.1 (98 + Int32.toNatClampNeg v5) 2) = 0 → L8 v3 v4 (v5 + 1)) ∧ (¬ (x.1 (98 + Int32.toNatClampNeg v5) 2) = 0 → wX6_partOf (x.1 (98 + Int32.toNatClampNeg v5) 3) x (fun r2 => ((¬ r2 = v2 → L8 v3 v4 (v5 + 1)) ∧ (r2 = v2 → ((¬ (x.1 (98 + Int32.toNatClampNeg v5) 2) = 2 → wX0_falseHundredths_74 v1 v2 (v3 + 1) v5 v4 0 x K L8) ∧ ((x.1 (98 + Int32.toNatClampNeg v5) 2) = 2 → wX0_falseHundredths_74 v1 v2 (v3 + 1) v5 v4 1 x K L8))))))))))))
set_option maxHeartbeats 4000000 in
set_option maxRecDepth 100000 in
theorem sX0_falseHundredths_8 (v1 : Int32) (v2 : Int32) (v3 : Int32) (v4 : Int32) (v5 : Int32)  (x : ab_X) (K : Int32 → Prop)  (d bc bs : Nat) (hdp : 1 ≤ d)  (h : Lp3 (lX0_falseHundredths_8 v1 v2 x K ) v3 v4 v5) : EW MX0_falseHundredths 8 [(0, .ref 66), (1, .int v1), (2, .int v2), (3, .int v3), (4, .int v4), (5, .int v5)] [] (aS x) d bc bs (liP x K) := by
  refine Lp3.use (P := fun v3 v4 v5 => EW MX0_falseHundredths 8 [(0, .ref 66), (1, .int v1), (2, .int v2), (3, .int v3), (4, .int v4), (5, .int v5)] [] (aS x) d bc bs (liP x K)) (fun L8 v3 v4 v5 hL8 h => ?_) v3 v4 v5 h
  unfold lX0_falseHundredths_8 at h
  refine EW_iload (pc2 := 10) rfl dX0_falseHundredths_8 5 rfl ?_
  refine EW_aload_n (pc2 := 11) rfl dX0_falseHundredths_10 0 rfl ?_
  refine AW_geti ⟨gfRX0_81, rfl⟩ (pc2 := 14) rfl dX0_falseHundredths_11 q66 ?_
  refine EW_icmp_ge (tgt := 83) (pc2 := 17) rfl dX0_falseHundredths_14 (by decide) (fun q => ?_) (fun q => ?_)
  · replace h := h.1 q
    refine EW_iload_n (pc2 := 84) rfl dX0_falseHundredths_83 3 rfl ?_
    refine EW_if_ne (tgt := 91) (pc2 := 87) rfl dX0_falseHundredths_84 (by decide) (fun q => ?_) (fun q => ?_)
    · replace h := h.1 q
      refine EW_iload (pc2 := 93) rfl dX0_falseHundredths_91 4 rfl ?_
      refine EW_bipush (pc2 := 95) (v := 100) rfl dX0_falseHundredths_93 (by decide) ?_
      refine EW_imul (pc2 := 96) rfl dX0_falseHundredths_95 ?_
      refine EW_iload_n (pc2 := 97) rfl dX0_falseHundredths_96 3 rfl ?_
      obtain ⟨hz, h⟩ := h
      refine EW_idiv (pc2 := 98) rfl dX0_falseHundredths_97 hz ?_
      exact AW_iret rfl dX0_falseHundredths_98 ⟨_, rfl, rfl, h⟩
    · replace h := h.2 q
      refine EW_iconst (pc2 := 88) (v := 0) rfl dX0_falseHundredths_87 (by decide) ?_
      refine EW_goto (tgt := 98) dX0_falseHundredths_88 (by decide) ?_
      exact AW_iret rfl dX0_falseHundredths_98 ⟨_, rfl, rfl, h⟩
  · replace h := h.2 q
    refine EW_aload_n (pc2 := 18) rfl dX0_falseHundredths_17 0 rfl ?_
    refine AW_getr (r := 68) ⟨gfRX0_19, rfl⟩ (pc2 := 21) rfl dX0_falseHundredths_18 q66 rfl ?_
    refine EW_iload (pc2 := 23) rfl dX0_falseHundredths_21 5 rfl ?_
    obtain ⟨b1, h⟩ := h
    refine AW_aald7 (pc2 := 24) rfl dX0_falseHundredths_23 b1 ?_
    refine EW_astore (pc2 := 26) rfl dX0_falseHundredths_24 (by decide) [1, 2, 3, 4, 5, 6, 0] [(0, .ref 66), (1, .int v1), (2, .int v2), (3, .int v3), (4, .int v4), (5, .int v5), (6, .ref (98 + Int32.toNatClampNeg v5))] rfl ?_
    refine EW_aload (pc2 := 28) rfl dX0_falseHundredths_26 6 rfl ?_
    refine AW_geti ⟨gfRX0_88, rfl⟩ (pc2 := 31) rfl dX0_falseHundredths_28 (isK.o (isK_of b1)) ?_
    refine EW_iload_n (pc2 := 32) rfl dX0_falseHundredths_31 1 rfl ?_
    refine EW_icmp_ne (tgt := 77) (pc2 := 35) rfl dX0_falseHundredths_32 (by decide) (fun q => ?_) (fun q => ?_)
    · replace h := h.1 q
      refine EW_iinc (v5 + 1) (pc2 := 80) rfl dX0_falseHundredths_77 5 rfl rfl (by decide) [1, 2, 3, 4, 5, 0, 6] [(0, .ref 66), (1, .int v1), (2, .int v2), (3, .int v3), (4, .int v4), (5, .int (v5 + 1)), (6, .ref (98 + Int32.toNatClampNeg v5))] rfl ?_
      refine EW_goto (tgt := 8) dX0_falseHundredths_80 (by decide) ?_
      refine EW_ls [0, 1, 2, 3, 4, 5] rfl ?_
      exact hL8 v3 v4 (v5 + 1) h
    · replace h := h.2 q
      refine EW_aload (pc2 := 37) rfl dX0_falseHundredths_35 6 rfl ?_
      refine AW_geti ⟨gfRX0_84, rfl⟩ (pc2 := 40) rfl dX0_falseHundredths_37 (isK.o (isK_of b1)) ?_
      refine EW_if_eq (tgt := 77) (pc2 := 43) rfl dX0_falseHundredths_40 (by decide) (fun q => ?_) (fun q => ?_)
      · replace h := h.1 q
        refine EW_iinc (v5 + 1) (pc2 := 80) rfl dX0_falseHundredths_77 5 rfl rfl (by decide) [1, 2, 3, 4, 5, 0, 6] [(0, .ref 66), (1, .int v1), (2, .int v2), (3, .int v3), (4, .int v4), (5, .int (v5 + 1)), (6, .ref (98 + Int32.toNatClampNeg v5))] rfl ?_
        refine EW_goto (tgt := 8) dX0_falseHundredths_80 (by decide) ?_
        refine EW_ls [0, 1, 2, 3, 4, 5] rfl ?_
        exact hL8 v3 v4 (v5 + 1) h
      · replace h := h.2 q
        refine EW_aload (pc2 := 45) rfl dX0_falseHundredths_43 6 rfl ?_
        refine AW_geti ⟨gfRX0_91, rfl⟩ (pc2 := 48) rfl dX0_falseHundredths_45 (isK.o (isK_of b1)) ?_
        refine AW_invS (M' := MX6_partOf) [.int (x.1 (98 + Int32.toNatClampNeg v5) 3)] (rest := []) mlRX0_94 okX6_partOf (pc2 := 51) rfl dX0_falseHundredths_48 rfl rfl (Nat.le_of_ble_eq_true rfl) (Nat.le_of_ble_eq_true rfl) (d' := 0) (by omega) (EW_mono (fun _ _ hr => ?_) (sX6_partOf (x.1 (98 + Int32.toNatClampNeg v5) 3)  x _ _ 0 0 (Nat.le_refl _) h))
        obtain ⟨r2, rfl, rfl, h⟩ := hr
        refine EW_iload_n (pc2 := 52) rfl dX0_falseHundredths_51 2 rfl ?_
        refine EW_icmp_ne (tgt := 77) (pc2 := 55) rfl dX0_falseHundredths_52 (by decide) (fun q => ?_) (fun q => ?_)
        · replace h := h.1 q
          refine EW_iinc (v5 + 1) (pc2 := 80) rfl dX0_falseHundredths_77 5 rfl rfl (by decide) [1, 2, 3, 4, 5, 0, 6] [(0, .ref 66), (1, .int v1), (2, .int v2), (3, .int v3), (4, .int v4), (5, .int (v5 + 1)), (6, .ref (98 + Int32.toNatClampNeg v5))] rfl ?_
          refine EW_goto (tgt := 8) dX0_falseHundredths_80 (by decide) ?_
          refine EW_ls [0, 1, 2, 3, 4, 5] rfl ?_
          exact hL8 v3 v4 (v5 + 1) h
        · replace h := h.2 q
          refine EW_iinc (v3 + 1) (pc2 := 58) rfl dX0_falseHundredths_55 3 rfl rfl (by decide) [1, 2, 3, 0, 4, 5, 6] [(0, .ref 66), (1, .int v1), (2, .int v2), (3, .int (v3 + 1)), (4, .int v4), (5, .int v5), (6, .ref (98 + Int32.toNatClampNeg v5))] rfl ?_
          refine EW_iload (pc2 := 60) rfl dX0_falseHundredths_58 4 rfl ?_
          refine EW_aload (pc2 := 62) rfl dX0_falseHundredths_60 6 rfl ?_
          refine AW_geti ⟨gfRX0_84, rfl⟩ (pc2 := 65) rfl dX0_falseHundredths_62 (isK.o (isK_of b1)) ?_
          refine EW_iconst (pc2 := 66) (v := 2) rfl dX0_falseHundredths_65 (by decide) ?_
          refine EW_icmp_ne (tgt := 73) (pc2 := 69) rfl dX0_falseHundredths_66 (by decide) (fun q => ?_) (fun q => ?_)
          · replace h := h.1 q
            refine EW_iconst (pc2 := 74) (v := 0) rfl dX0_falseHundredths_73 (by decide) ?_
            refine EW_ls [0, 1, 2, 3, 5] rfl ?_
            exact sX0_falseHundredths_74 v1 v2 (v3 + 1) v5 v4 0 x K L8 d bc bs hdp hL8 h
          · replace h := h.2 q
            refine EW_iconst (pc2 := 70) (v := 1) rfl dX0_falseHundredths_69 (by decide) ?_
            refine EW_goto (tgt := 74) dX0_falseHundredths_70 (by decide) ?_
            refine EW_ls [0, 1, 2, 3, 5] rfl ?_
            exact sX0_falseHundredths_74 v1 v2 (v3 + 1) v5 v4 1 x K L8 d bc bs hdp hL8 h
set_option maxHeartbeats 4000000 in
set_option maxRecDepth 100000 in
def wX0_falseHundredths (v1 : Int32) (v2 : Int32) (x : ab_X) (K : Int32 → Prop) : Prop := Lp3 (lX0_falseHundredths_8 v1 v2 x K ) 0 0 0
set_option maxHeartbeats 4000000 in
set_option maxRecDepth 100000 in
theorem sX0_falseHundredths (v1 : Int32) (v2 : Int32)  (x : ab_X) (K : Int32 → Prop) (d bc bs : Nat) (hdp : 1 ≤ d) (h : wX0_falseHundredths v1 v2 x K) : EW MX0_falseHundredths 0 [(0, .ref 66), (1, .int v1), (2, .int v2)] [] (aS x) d bc bs (liP x K) := by
  unfold wX0_falseHundredths at h
  refine EW_iconst (pc2 := 1) (v := 0) rfl dX0_falseHundredths_0 (by decide) ?_
  refine EW_istore_n (pc2 := 2) rfl dX0_falseHundredths_1 (by decide) [1, 2, 3, 0] [(0, .ref 66), (1, .int v1), (2, .int v2), (3, .int 0)] rfl ?_
  refine EW_iconst (pc2 := 3) (v := 0) rfl dX0_falseHundredths_2 (by decide) ?_
  refine EW_istore (pc2 := 5) rfl dX0_falseHundredths_3 (by decide) [1, 2, 3, 4, 0] [(0, .ref 66), (1, .int v1), (2, .int v2), (3, .int 0), (4, .int 0)] rfl ?_
  refine EW_iconst (pc2 := 6) (v := 0) rfl dX0_falseHundredths_5 (by decide) ?_
  refine EW_istore (pc2 := 8) rfl dX0_falseHundredths_6 (by decide) [1, 2, 3, 4, 5, 0] [(0, .ref 66), (1, .int v1), (2, .int v2), (3, .int 0), (4, .int 0), (5, .int 0)] rfl ?_
  exact sX0_falseHundredths_8 v1 v2 0 0 0 x K d bc bs hdp h
abbrev MX0_readyOf : ab_M := (yX0_readyOf, cX0_readyOf, 4, (some .int))
theorem dX0_readyOf_0 : decode cX0_readyOf 0 = .ok (.iconst 0, 1) := by decide +kernel
theorem dX0_readyOf_1 : decode cX0_readyOf 1 = .ok (.istore_n 2, 1) := by decide +kernel
theorem dX0_readyOf_2 : decode cX0_readyOf 2 = .ok (.iconst 0, 1) := by decide +kernel
theorem dX0_readyOf_3 : decode cX0_readyOf 3 = .ok (.istore_n 3, 1) := by decide +kernel
theorem dX0_readyOf_4 : decode cX0_readyOf 4 = .ok (.iload_n 3, 1) := by decide +kernel
theorem dX0_readyOf_5 : decode cX0_readyOf 5 = .ok (.aload_n 0, 1) := by decide +kernel
theorem dX0_readyOf_6 : decode cX0_readyOf 6 = .ok (.getfield 55, 3) := by decide +kernel
theorem dX0_readyOf_9 : decode cX0_readyOf 9 = .ok (.if_icmp .ge 42, 3) := by decide +kernel
theorem dX0_readyOf_12 : decode cX0_readyOf 12 = .ok (.iload_n 2, 1) := by decide +kernel
theorem dX0_readyOf_13 : decode cX0_readyOf 13 = .ok (.aload_n 0, 1) := by decide +kernel
theorem dX0_readyOf_14 : decode cX0_readyOf 14 = .ok (.getfield 11, 3) := by decide +kernel
theorem dX0_readyOf_17 : decode cX0_readyOf 17 = .ok (.iload_n 3, 1) := by decide +kernel
theorem dX0_readyOf_18 : decode cX0_readyOf 18 = .ok (.aaload, 1) := by decide +kernel
theorem dX0_readyOf_19 : decode cX0_readyOf 19 = .ok (.getfield 63, 3) := by decide +kernel
theorem dX0_readyOf_22 : decode cX0_readyOf 22 = .ok (.iload_n 1, 1) := by decide +kernel
theorem dX0_readyOf_23 : decode cX0_readyOf 23 = .ok (.if_icmp .ne 19, 3) := by decide +kernel
theorem dX0_readyOf_26 : decode cX0_readyOf 26 = .ok (.aload_n 0, 1) := by decide +kernel
theorem dX0_readyOf_27 : decode cX0_readyOf 27 = .ok (.getfield 11, 3) := by decide +kernel
theorem dX0_readyOf_30 : decode cX0_readyOf 30 = .ok (.iload_n 3, 1) := by decide +kernel
theorem dX0_readyOf_31 : decode cX0_readyOf 31 = .ok (.aaload, 1) := by decide +kernel
theorem dX0_readyOf_32 : decode cX0_readyOf 32 = .ok (.getfield 75, 3) := by decide +kernel
theorem dX0_readyOf_35 : decode cX0_readyOf 35 = .ok (.ifCond .ne 7, 3) := by decide +kernel
theorem dX0_readyOf_38 : decode cX0_readyOf 38 = .ok (.iconst 1, 1) := by decide +kernel
theorem dX0_readyOf_39 : decode cX0_readyOf 39 = .ok (.goto 4, 3) := by decide +kernel
theorem dX0_readyOf_42 : decode cX0_readyOf 42 = .ok (.iconst 0, 1) := by decide +kernel
theorem dX0_readyOf_43 : decode cX0_readyOf 43 = .ok (.iadd, 1) := by decide +kernel
theorem dX0_readyOf_44 : decode cX0_readyOf 44 = .ok (.istore_n 2, 1) := by decide +kernel
theorem dX0_readyOf_45 : decode cX0_readyOf 45 = .ok (.iinc 3 1, 3) := by decide +kernel
theorem dX0_readyOf_48 : decode cX0_readyOf 48 = .ok (.goto (-44), 3) := by decide +kernel
theorem dX0_readyOf_51 : decode cX0_readyOf 51 = .ok (.iload_n 2, 1) := by decide +kernel
theorem dX0_readyOf_52 : decode cX0_readyOf 52 = .ok (.ireturn, 1) := by decide +kernel
theorem okX0_readyOf : ab_okM MX0_readyOf 1 := ⟨by decide, ⟨by decide, by decide⟩, ab_in 1068 (by decide +kernel) (by decide +kernel), ab_in 92 (by decide +kernel) (by decide +kernel), by decide +kernel, by decide⟩
set_option maxHeartbeats 4000000 in
set_option maxRecDepth 100000 in
def wX0_readyOf_43 (v1 : Int32) (v3 : Int32) (s0 : Int32) (s1 : Int32) (x : ab_X) (K : Int32 → Prop) (L4 : Int32 → Int32 → Prop) : Prop := L4 (s0 + s1) (v3 + 1)
set_option maxHeartbeats 4000000 in
set_option maxRecDepth 100000 in
theorem sX0_readyOf_43 (v1 : Int32) (v3 : Int32) (s0 : Int32) (s1 : Int32)  (x : ab_X) (K : Int32 → Prop) (L4 : Int32 → Int32 → Prop) (d bc bs : Nat) (hdp : 0 ≤ d) (hL4 : ∀ (v2 : Int32) (v3 : Int32), L4 v2 v3 → EW MX0_readyOf 4 [(0, .ref 66), (1, .int v1), (2, .int v2), (3, .int v3)] [] (aS x) d bc bs (liP x K)) (h : wX0_readyOf_43 v1 v3 s0 s1 x K L4) : EW MX0_readyOf 43 [(0, .ref 66), (1, .int v1), (3, .int v3)] [.int s1, .int s0] (aS x) d bc bs (liP x K) := by
  unfold wX0_readyOf_43 at h
  refine EW_iadd (pc2 := 44) rfl dX0_readyOf_43 ?_
  refine EW_istore_n (pc2 := 45) rfl dX0_readyOf_44 (by decide) [1, 2, 0, 3] [(0, .ref 66), (1, .int v1), (2, .int (s0 + s1)), (3, .int v3)] rfl ?_
  refine EW_iinc (v3 + 1) (pc2 := 48) rfl dX0_readyOf_45 3 rfl rfl (by decide) [1, 2, 3, 0] [(0, .ref 66), (1, .int v1), (2, .int (s0 + s1)), (3, .int (v3 + 1))] rfl ?_
  refine EW_goto (tgt := 4) dX0_readyOf_48 (by decide) ?_
  exact hL4 (s0 + s1) (v3 + 1) h
set_option maxHeartbeats 4000000 in
set_option maxRecDepth 100000 in
def wX0_readyOf_42 (v1 : Int32) (v3 : Int32) (s0 : Int32) (x : ab_X) (K : Int32 → Prop) (L4 : Int32 → Int32 → Prop) : Prop := wX0_readyOf_43 v1 v3 s0 0 x K L4
set_option maxHeartbeats 4000000 in
set_option maxRecDepth 100000 in
theorem sX0_readyOf_42 (v1 : Int32) (v3 : Int32) (s0 : Int32)  (x : ab_X) (K : Int32 → Prop) (L4 : Int32 → Int32 → Prop) (d bc bs : Nat) (hdp : 0 ≤ d) (hL4 : ∀ (v2 : Int32) (v3 : Int32), L4 v2 v3 → EW MX0_readyOf 4 [(0, .ref 66), (1, .int v1), (2, .int v2), (3, .int v3)] [] (aS x) d bc bs (liP x K)) (h : wX0_readyOf_42 v1 v3 s0 x K L4) : EW MX0_readyOf 42 [(0, .ref 66), (1, .int v1), (3, .int v3)] [.int s0] (aS x) d bc bs (liP x K) := by
  unfold wX0_readyOf_42 at h
  refine EW_iconst (pc2 := 43) (v := 0) rfl dX0_readyOf_42 (by decide) ?_
  exact sX0_readyOf_43 v1 v3 s0 0 x K L4 d bc bs hdp hL4 h
set_option maxHeartbeats 4000000 in
set_option maxRecDepth 100000 in
def lX0_readyOf_4 (v1 : Int32) (x : ab_X) (K : Int32 → Prop)  (L4 : Int32 → Int32 → Prop) (v2 : Int32) (v3 : Int32) : Prop := (((x.1 66 3) ≤ v3 → K v2) ∧ (¬ (x.1 66 3) ≤ v3 → (vp_in v3 16 ∧ ((¬ (x.1 (82 + Int32.toNatClampNeg v3) 0) = v1 → wX0_readyOf_42 v1 v3 v2 x K L4) ∧ ((x.1 (82 + Int32.toNatClampNeg v3) 0) = v1 → (vp_in v3 16 ∧ ((¬ (x.1 (82 + Int32.toNatClampNeg v3) 8) = 0 → wX0_readyOf_42 v1 v3 v2 x K L4) ∧ ((x.1 (82 + Int32.toNatClampNeg v3) 8) = 0 → wX0_readyOf_43 v1 v3 v2 1 x K L4))))))))
set_option maxHeartbeats 4000000 in
set_option maxRecDepth 100000 in
theorem sX0_readyOf_4 (v1 : Int32) (v2 : Int32) (v3 : Int32)  (x : ab_X) (K : Int32 → Prop)  (d bc bs : Nat) (hdp : 0 ≤ d)  (h : Lp2 (lX0_readyOf_4 v1 x K ) v2 v3) : EW MX0_readyOf 4 [(0, .ref 66), (1, .int v1), (2, .int v2), (3, .int v3)] [] (aS x) d bc bs (liP x K) := by
  refine Lp2.use (P := fun v2 v3 => EW MX0_readyOf 4 [(0, .ref 66), (1, .int v1), (2, .int v2), (3, .int v3)] [] (aS x) d bc bs (liP x K)) (fun L4 v2 v3 hL4 h => ?_) v2 v3 h
  unfold lX0_readyOf_4 at h
  refine EW_iload_n (pc2 := 5) rfl dX0_readyOf_4 3 rfl ?_
  refine EW_aload_n (pc2 := 6) rfl dX0_readyOf_5 0 rfl ?_
  refine AW_geti ⟨gfRX0_55, rfl⟩ (pc2 := 9) rfl dX0_readyOf_6 q66 ?_
  refine EW_icmp_ge (tgt := 51) (pc2 := 12) rfl dX0_readyOf_9 (by decide) (fun q => ?_) (fun q => ?_)
  · replace h := h.1 q
    refine EW_iload_n (pc2 := 52) rfl dX0_readyOf_51 2 rfl ?_
    exact AW_iret rfl dX0_readyOf_52 ⟨_, rfl, rfl, h⟩
  · replace h := h.2 q
    refine EW_iload_n (pc2 := 13) rfl dX0_readyOf_12 2 rfl ?_
    refine EW_aload_n (pc2 := 14) rfl dX0_readyOf_13 0 rfl ?_
    refine AW_getr (r := 67) ⟨gfRX0_11, rfl⟩ (pc2 := 17) rfl dX0_readyOf_14 q66 rfl ?_
    refine EW_iload_n (pc2 := 18) rfl dX0_readyOf_17 3 rfl ?_
    obtain ⟨b1, h⟩ := h
    refine AW_aald6 (pc2 := 19) rfl dX0_readyOf_18 b1 ?_
    refine AW_geti ⟨gfRX0_63, rfl⟩ (pc2 := 22) rfl dX0_readyOf_19 (isW.o (isW_of b1)) ?_
    refine EW_iload_n (pc2 := 23) rfl dX0_readyOf_22 1 rfl ?_
    refine EW_icmp_ne (tgt := 42) (pc2 := 26) rfl dX0_readyOf_23 (by decide) (fun q => ?_) (fun q => ?_)
    · replace h := h.1 q
      refine EW_ls [0, 1, 3] rfl ?_
      exact sX0_readyOf_42 v1 v3 v2 x K L4 d bc bs hdp hL4 h
    · replace h := h.2 q
      refine EW_aload_n (pc2 := 27) rfl dX0_readyOf_26 0 rfl ?_
      refine AW_getr (r := 67) ⟨gfRX0_11, rfl⟩ (pc2 := 30) rfl dX0_readyOf_27 q66 rfl ?_
      refine EW_iload_n (pc2 := 31) rfl dX0_readyOf_30 3 rfl ?_
      obtain ⟨b2, h⟩ := h
      refine AW_aald6 (pc2 := 32) rfl dX0_readyOf_31 b2 ?_
      refine AW_geti ⟨gfRX0_75, rfl⟩ (pc2 := 35) rfl dX0_readyOf_32 (isW.o (isW_of b2)) ?_
      refine EW_if_ne (tgt := 42) (pc2 := 38) rfl dX0_readyOf_35 (by decide) (fun q => ?_) (fun q => ?_)
      · replace h := h.1 q
        refine EW_ls [0, 1, 3] rfl ?_
        exact sX0_readyOf_42 v1 v3 v2 x K L4 d bc bs hdp hL4 h
      · replace h := h.2 q
        refine EW_iconst (pc2 := 39) (v := 1) rfl dX0_readyOf_38 (by decide) ?_
        refine EW_goto (tgt := 43) dX0_readyOf_39 (by decide) ?_
        refine EW_ls [0, 1, 3] rfl ?_
        exact sX0_readyOf_43 v1 v3 v2 1 x K L4 d bc bs hdp hL4 h
set_option maxHeartbeats 4000000 in
set_option maxRecDepth 100000 in
def wX0_readyOf (v1 : Int32) (x : ab_X) (K : Int32 → Prop) : Prop := Lp2 (lX0_readyOf_4 v1 x K ) 0 0
set_option maxHeartbeats 4000000 in
set_option maxRecDepth 100000 in
theorem sX0_readyOf (v1 : Int32)  (x : ab_X) (K : Int32 → Prop) (d bc bs : Nat) (hdp : 0 ≤ d) (h : wX0_readyOf v1 x K) : EW MX0_readyOf 0 [(0, .ref 66), (1, .int v1)] [] (aS x) d bc bs (liP x K) := by
  unfold wX0_readyOf at h
  refine EW_iconst (pc2 := 1) (v := 0) rfl dX0_readyOf_0 (by decide) ?_
  refine EW_istore_n (pc2 := 2) rfl dX0_readyOf_1 (by decide) [1, 2, 0] [(0, .ref 66), (1, .int v1), (2, .int 0)] rfl ?_
  refine EW_iconst (pc2 := 3) (v := 0) rfl dX0_readyOf_2 (by decide) ?_
  refine EW_istore_n (pc2 := 4) rfl dX0_readyOf_3 (by decide) [1, 2, 3, 0] [(0, .ref 66), (1, .int v1), (2, .int 0), (3, .int 0)] rfl ?_
  exact sX0_readyOf_4 v1 0 0 x K d bc bs hdp h
