theorem mlRX0_280 : Cond.methodLink RX0 280 yX2_hasHose ∈ ab_G ∧ Cond.instanceMethod yX2_hasHose ∈ ab_G ∧ Cond.selects RX2 yX2_hasHose yX2_hasHose ∈ ab_G := ⟨ab_in 1397 (by decide +kernel) (by decide +kernel), ab_in 972 (by decide +kernel) (by decide +kernel), ab_in 973 (by decide +kernel) (by decide +kernel)⟩
theorem mlRX0_284 : Cond.methodLink RX0 284 yX0_aim ∈ ab_G ∧ Cond.instanceMethod yX0_aim ∈ ab_G ∧ Cond.selects RX0 yX0_aim yX0_aim ∈ ab_G := ⟨ab_in 1398 (by decide +kernel) (by decide +kernel), ab_in 1399 (by decide +kernel) (by decide +kernel), ab_in 1400 (by decide +kernel) (by decide +kernel)⟩
theorem mlRX0_276 : Cond.methodLink RX0 276 yX0_takeOut ∈ ab_G ∧ Cond.instanceMethod yX0_takeOut ∈ ab_G ∧ Cond.selects RX0 yX0_takeOut yX0_takeOut ∈ ab_G := ⟨ab_in 1391 (by decide +kernel) (by decide +kernel), ab_in 1392 (by decide +kernel) (by decide +kernel), ab_in 1393 (by decide +kernel) (by decide +kernel)⟩
theorem mlRX0_273 : Cond.methodLink RX0 273 yX2_beginMinute ∈ ab_G ∧ Cond.instanceMethod yX2_beginMinute ∈ ab_G ∧ Cond.selects RX2 yX2_beginMinute yX2_beginMinute ∈ ab_G := ⟨ab_in 1387 (by decide +kernel) (by decide +kernel), ab_in 1388 (by decide +kernel) (by decide +kernel), ab_in 1389 (by decide +kernel) (by decide +kernel)⟩
abbrev MX0_workAll : ab_M := (yX0_workAll, cX0_workAll, 3, none)
theorem dX0_workAll_0 : decode cX0_workAll 0 = .ok (.aload_n 0, 1) := by decide +kernel
theorem dX0_workAll_1 : decode cX0_workAll 1 = .ok (.getfield 49, 3) := by decide +kernel
theorem dX0_workAll_4 : decode cX0_workAll 4 = .ok (.getfield 100, 3) := by decide +kernel
theorem dX0_workAll_7 : decode cX0_workAll 7 = .ok (.invokevirtual 270, 3) := by decide +kernel
theorem dX0_workAll_10 : decode cX0_workAll 10 = .ok (.iconst 0, 1) := by decide +kernel
theorem dX0_workAll_11 : decode cX0_workAll 11 = .ok (.istore_n 1, 1) := by decide +kernel
theorem dX0_workAll_12 : decode cX0_workAll 12 = .ok (.iload_n 1, 1) := by decide +kernel
theorem dX0_workAll_13 : decode cX0_workAll 13 = .ok (.aload_n 0, 1) := by decide +kernel
theorem dX0_workAll_14 : decode cX0_workAll 14 = .ok (.getfield 55, 3) := by decide +kernel
theorem dX0_workAll_17 : decode cX0_workAll 17 = .ok (.if_icmp .ge 18, 3) := by decide +kernel
theorem dX0_workAll_20 : decode cX0_workAll 20 = .ok (.aload_n 0, 1) := by decide +kernel
theorem dX0_workAll_21 : decode cX0_workAll 21 = .ok (.getfield 11, 3) := by decide +kernel
theorem dX0_workAll_24 : decode cX0_workAll 24 = .ok (.iload_n 1, 1) := by decide +kernel
theorem dX0_workAll_25 : decode cX0_workAll 25 = .ok (.aaload, 1) := by decide +kernel
theorem dX0_workAll_26 : decode cX0_workAll 26 = .ok (.invokevirtual 273, 3) := by decide +kernel
theorem dX0_workAll_29 : decode cX0_workAll 29 = .ok (.iinc 1 1, 3) := by decide +kernel
theorem dX0_workAll_32 : decode cX0_workAll 32 = .ok (.goto (-20), 3) := by decide +kernel
theorem dX0_workAll_35 : decode cX0_workAll 35 = .ok (.iconst 0, 1) := by decide +kernel
theorem dX0_workAll_36 : decode cX0_workAll 36 = .ok (.istore_n 1, 1) := by decide +kernel
theorem dX0_workAll_37 : decode cX0_workAll 37 = .ok (.iload_n 1, 1) := by decide +kernel
theorem dX0_workAll_38 : decode cX0_workAll 38 = .ok (.aload_n 0, 1) := by decide +kernel
theorem dX0_workAll_39 : decode cX0_workAll 39 = .ok (.getfield 55, 3) := by decide +kernel
theorem dX0_workAll_42 : decode cX0_workAll 42 = .ok (.if_icmp .ge 90, 3) := by decide +kernel
theorem dX0_workAll_45 : decode cX0_workAll 45 = .ok (.aload_n 0, 1) := by decide +kernel
theorem dX0_workAll_46 : decode cX0_workAll 46 = .ok (.getfield 11, 3) := by decide +kernel
theorem dX0_workAll_49 : decode cX0_workAll 49 = .ok (.iload_n 1, 1) := by decide +kernel
theorem dX0_workAll_50 : decode cX0_workAll 50 = .ok (.aaload, 1) := by decide +kernel
theorem dX0_workAll_51 : decode cX0_workAll 51 = .ok (.astore_n 2, 1) := by decide +kernel
theorem dX0_workAll_52 : decode cX0_workAll 52 = .ok (.aload_n 2, 1) := by decide +kernel
theorem dX0_workAll_53 : decode cX0_workAll 53 = .ok (.getfield 75, 3) := by decide +kernel
theorem dX0_workAll_56 : decode cX0_workAll 56 = .ok (.iconst 2, 1) := by decide +kernel
theorem dX0_workAll_57 : decode cX0_workAll 57 = .ok (.if_icmp .ne 69, 3) := by decide +kernel
theorem dX0_workAll_60 : decode cX0_workAll 60 = .ok (.aload_n 0, 1) := by decide +kernel
theorem dX0_workAll_61 : decode cX0_workAll 61 = .ok (.getfield 49, 3) := by decide +kernel
theorem dX0_workAll_64 : decode cX0_workAll 64 = .ok (.aload_n 2, 1) := by decide +kernel
theorem dX0_workAll_65 : decode cX0_workAll 65 = .ok (.getfield 78, 3) := by decide +kernel
theorem dX0_workAll_68 : decode cX0_workAll 68 = .ok (.invokevirtual 263, 3) := by decide +kernel
theorem dX0_workAll_71 : decode cX0_workAll 71 = .ok (.ifCond .eq 55, 3) := by decide +kernel
theorem dX0_workAll_74 : decode cX0_workAll 74 = .ok (.aload_n 2, 1) := by decide +kernel
theorem dX0_workAll_75 : decode cX0_workAll 75 = .ok (.getfield 63, 3) := by decide +kernel
theorem dX0_workAll_78 : decode cX0_workAll 78 = .ok (.iconst 2, 1) := by decide +kernel
theorem dX0_workAll_79 : decode cX0_workAll 79 = .ok (.if_icmp .ne 23, 3) := by decide +kernel
theorem dX0_workAll_82 : decode cX0_workAll 82 = .ok (.aload_n 0, 1) := by decide +kernel
theorem dX0_workAll_83 : decode cX0_workAll 83 = .ok (.aload_n 2, 1) := by decide +kernel
theorem dX0_workAll_84 : decode cX0_workAll 84 = .ok (.aload_n 0, 1) := by decide +kernel
theorem dX0_workAll_85 : decode cX0_workAll 85 = .ok (.getfield 49, 3) := by decide +kernel
theorem dX0_workAll_88 : decode cX0_workAll 88 = .ok (.getfield 148, 3) := by decide +kernel
theorem dX0_workAll_91 : decode cX0_workAll 91 = .ok (.aload_n 2, 1) := by decide +kernel
theorem dX0_workAll_92 : decode cX0_workAll 92 = .ok (.getfield 78, 3) := by decide +kernel
theorem dX0_workAll_95 : decode cX0_workAll 95 = .ok (.aaload, 1) := by decide +kernel
theorem dX0_workAll_96 : decode cX0_workAll 96 = .ok (.invokevirtual 276, 3) := by decide +kernel
theorem dX0_workAll_99 : decode cX0_workAll 99 = .ok (.goto 27, 3) := by decide +kernel
theorem dX0_workAll_102 : decode cX0_workAll 102 = .ok (.aload_n 2, 1) := by decide +kernel
theorem dX0_workAll_103 : decode cX0_workAll 103 = .ok (.invokevirtual 280, 3) := by decide +kernel
theorem dX0_workAll_106 : decode cX0_workAll 106 = .ok (.ifCond .eq 20, 3) := by decide +kernel
theorem dX0_workAll_109 : decode cX0_workAll 109 = .ok (.aload_n 0, 1) := by decide +kernel
theorem dX0_workAll_110 : decode cX0_workAll 110 = .ok (.aload_n 2, 1) := by decide +kernel
theorem dX0_workAll_111 : decode cX0_workAll 111 = .ok (.aload_n 0, 1) := by decide +kernel
theorem dX0_workAll_112 : decode cX0_workAll 112 = .ok (.getfield 49, 3) := by decide +kernel
theorem dX0_workAll_115 : decode cX0_workAll 115 = .ok (.getfield 148, 3) := by decide +kernel
theorem dX0_workAll_118 : decode cX0_workAll 118 = .ok (.aload_n 2, 1) := by decide +kernel
theorem dX0_workAll_119 : decode cX0_workAll 119 = .ok (.getfield 78, 3) := by decide +kernel
theorem dX0_workAll_122 : decode cX0_workAll 122 = .ok (.aaload, 1) := by decide +kernel
theorem dX0_workAll_123 : decode cX0_workAll 123 = .ok (.invokevirtual 284, 3) := by decide +kernel
theorem dX0_workAll_126 : decode cX0_workAll 126 = .ok (.iinc 1 1, 3) := by decide +kernel
theorem dX0_workAll_129 : decode cX0_workAll 129 = .ok (.goto (-92), 3) := by decide +kernel
theorem dX0_workAll_132 : decode cX0_workAll 132 = .ok (.return_, 1) := by decide +kernel
theorem okX0_workAll : ab_okM MX0_workAll 0 := ⟨by decide, ⟨by decide, by decide⟩, ab_in 1381 (by decide +kernel) (by decide +kernel), ab_in 92 (by decide +kernel) (by decide +kernel), by decide +kernel, by decide⟩
set_option maxHeartbeats 4000000 in
set_option maxRecDepth 100000 in
def lX0_workAll_37  (K : ab_X → Prop)  (L37 : Int32 → ab_X → Prop) (v1 : Int32) (x : ab_X) : Prop := (((x.1 66 3) ≤ v1 → K x) ∧ (¬ (x.1 66 3) ≤ v1 → (vp_in v1 16 ∧ ((¬ (x.1 (82 + Int32.toNatClampNeg v1) 8) = 2 → L37 (v1 + 1) x) ∧ ((x.1 (82 + Int32.toNatClampNeg v1) 8) = 2 → wX10_has (x.1 (82 + Int32.toNatClampNeg v1) 12) x (fun r5 => ((r5 = 0 → L37 (v1 + 1) x) ∧ (¬ r5 = 0 → ((¬ (x.1 (82 + Int32.toNatClampNeg v1) 0) = 2 → wX2_hasHose (82 + Int32.toNatClampNeg v1) x (fun r6 => ((r6 = 0 → L37 (v1 + 1) x) ∧ (¬ r6 = 0 → (vp_in (x.1 (82 + Int32.toNatClampNeg v1) 12) 12 ∧ wX0_aim (82 + Int32.toNatClampNeg v1) (30 + 3 * Int32.toNatClampNeg (x.1 (82 + Int32.toNatClampNeg v1) 12)) x (fun x8 => L37 (v1 + 1) x8)))))) ∧ ((x.1 (82 + Int32.toNatClampNeg v1) 0) = 2 → (vp_in (x.1 (82 + Int32.toNatClampNeg v1) 12) 12 ∧ wX0_takeOut (82 + Int32.toNatClampNeg v1) (30 + 3 * Int32.toNatClampNeg (x.1 (82 + Int32.toNatClampNeg v1) 12)) x (fun x10 => L37 (v1 + 1) x10))))))))))))
set_option maxHeartbeats 4000000 in
set_option maxRecDepth 100000 in
theorem sX0_workAll_37 (v1 : Int32)  (x : ab_X) (K : ab_X → Prop)  (d bc bs : Nat) (hdp : 5 ≤ d)  (h : Lp2 (lX0_workAll_37  K ) v1 x) : EW MX0_workAll 37 [(0, .ref 66), (1, .int v1)] [] (aS x) d bc bs (liV K) := by
  refine Lp2.use (P := fun v1 x => EW MX0_workAll 37 [(0, .ref 66), (1, .int v1)] [] (aS x) d bc bs (liV K)) (fun L37 v1 x hL37 h => ?_) v1 x h
  unfold lX0_workAll_37 at h
  refine EW_iload_n (pc2 := 38) rfl dX0_workAll_37 1 rfl ?_
  refine EW_aload_n (pc2 := 39) rfl dX0_workAll_38 0 rfl ?_
  refine AW_geti ⟨gfRX0_55, rfl⟩ (pc2 := 42) rfl dX0_workAll_39 q66 ?_
  refine EW_icmp_ge (tgt := 132) (pc2 := 45) rfl dX0_workAll_42 (by decide) (fun q => ?_) (fun q => ?_)
  · replace h := h.1 q
    exact EW_vret rfl dX0_workAll_132 ⟨_, rfl, rfl, h⟩
  · replace h := h.2 q
    refine EW_aload_n (pc2 := 46) rfl dX0_workAll_45 0 rfl ?_
    refine AW_getr (r := 67) ⟨gfRX0_11, rfl⟩ (pc2 := 49) rfl dX0_workAll_46 q66 rfl ?_
    refine EW_iload_n (pc2 := 50) rfl dX0_workAll_49 1 rfl ?_
    obtain ⟨b4, h⟩ := h
    refine AW_aald6 (pc2 := 51) rfl dX0_workAll_50 b4 ?_
    refine EW_astore_n (pc2 := 52) rfl dX0_workAll_51 (by decide) [1, 2, 0] [(0, .ref 66), (1, .int v1), (2, .ref (82 + Int32.toNatClampNeg v1))] rfl ?_
    refine EW_aload_n (pc2 := 53) rfl dX0_workAll_52 2 rfl ?_
    refine AW_geti ⟨gfRX0_75, rfl⟩ (pc2 := 56) rfl dX0_workAll_53 (isW.o (isW_of b4)) ?_
    refine EW_iconst (pc2 := 57) (v := 2) rfl dX0_workAll_56 (by decide) ?_
    refine EW_icmp_ne (tgt := 126) (pc2 := 60) rfl dX0_workAll_57 (by decide) (fun q => ?_) (fun q => ?_)
    · replace h := h.1 q
      refine EW_iinc (v1 + 1) (pc2 := 129) rfl dX0_workAll_126 1 rfl rfl (by decide) [1, 0, 2] [(0, .ref 66), (1, .int (v1 + 1)), (2, .ref (82 + Int32.toNatClampNeg v1))] rfl ?_
      refine EW_goto (tgt := 37) dX0_workAll_129 (by decide) ?_
      refine EW_ls [0, 1] rfl ?_
      exact hL37 (v1 + 1) x h
    · replace h := h.2 q
      refine EW_aload_n (pc2 := 61) rfl dX0_workAll_60 0 rfl ?_
      refine AW_getr (r := 9) ⟨gfRX0_49, rfl⟩ (pc2 := 64) rfl dX0_workAll_61 q66 rfl ?_
      refine EW_aload_n (pc2 := 65) rfl dX0_workAll_64 2 rfl ?_
      refine AW_geti ⟨gfRX0_78, rfl⟩ (pc2 := 68) rfl dX0_workAll_65 (isW.o (isW_of b4)) ?_
      refine AW_invV (M' := MX10_has) [.int (x.1 (82 + Int32.toNatClampNeg v1) 12)] (rest := []) mlRX0_263 okX10_has (pc2 := 71) rfl dX0_workAll_68 rfl rfl (Nat.le_of_ble_eq_true rfl) (Nat.le_of_ble_eq_true rfl) (d' := 1) (by omega) q9 ⟨by decide, rfl⟩ (EW_mono (fun _ _ hr => ?_) (sX10_has (x.1 (82 + Int32.toNatClampNeg v1) 12)  x _ _ 0 0 (Nat.le_refl _) h))
      obtain ⟨r5, rfl, rfl, h⟩ := hr
      refine EW_if_eq (tgt := 126) (pc2 := 74) rfl dX0_workAll_71 (by decide) (fun q => ?_) (fun q => ?_)
      · replace h := h.1 q
        refine EW_iinc (v1 + 1) (pc2 := 129) rfl dX0_workAll_126 1 rfl rfl (by decide) [1, 0, 2] [(0, .ref 66), (1, .int (v1 + 1)), (2, .ref (82 + Int32.toNatClampNeg v1))] rfl ?_
        refine EW_goto (tgt := 37) dX0_workAll_129 (by decide) ?_
        refine EW_ls [0, 1] rfl ?_
        exact hL37 (v1 + 1) x h
      · replace h := h.2 q
        refine EW_aload_n (pc2 := 75) rfl dX0_workAll_74 2 rfl ?_
        refine AW_geti ⟨gfRX0_63, rfl⟩ (pc2 := 78) rfl dX0_workAll_75 (isW.o (isW_of b4)) ?_
        refine EW_iconst (pc2 := 79) (v := 2) rfl dX0_workAll_78 (by decide) ?_
        refine EW_icmp_ne (tgt := 102) (pc2 := 82) rfl dX0_workAll_79 (by decide) (fun q => ?_) (fun q => ?_)
        · replace h := h.1 q
          refine EW_aload_n (pc2 := 103) rfl dX0_workAll_102 2 rfl ?_
          refine AW_invV (M' := MX2_hasHose) [] (rest := []) mlRX0_280 okX2_hasHose (pc2 := 106) rfl dX0_workAll_103 rfl rfl (Nat.le_of_ble_eq_true rfl) (Nat.le_of_ble_eq_true rfl) (d' := 0) (by omega) (isW.o (isW_of b4)) ⟨by decide, rfl⟩ (EW_mono (fun _ _ hr => ?_) (sX2_hasHose (82 + Int32.toNatClampNeg v1) (isW_of b4) x _ _ 0 0 (Nat.le_refl _) h))
          obtain ⟨r6, rfl, rfl, h⟩ := hr
          refine EW_if_eq (tgt := 126) (pc2 := 109) rfl dX0_workAll_106 (by decide) (fun q => ?_) (fun q => ?_)
          · replace h := h.1 q
            refine EW_iinc (v1 + 1) (pc2 := 129) rfl dX0_workAll_126 1 rfl rfl (by decide) [1, 0, 2] [(0, .ref 66), (1, .int (v1 + 1)), (2, .ref (82 + Int32.toNatClampNeg v1))] rfl ?_
            refine EW_goto (tgt := 37) dX0_workAll_129 (by decide) ?_
            refine EW_ls [0, 1] rfl ?_
            exact hL37 (v1 + 1) x h
          · replace h := h.2 q
            refine EW_aload_n (pc2 := 110) rfl dX0_workAll_109 0 rfl ?_
            refine EW_aload_n (pc2 := 111) rfl dX0_workAll_110 2 rfl ?_
            refine EW_aload_n (pc2 := 112) rfl dX0_workAll_111 0 rfl ?_
            refine AW_getr (r := 9) ⟨gfRX0_49, rfl⟩ (pc2 := 115) rfl dX0_workAll_112 q66 rfl ?_
            refine AW_getr (r := 10) ⟨gfRX0_148, rfl⟩ (pc2 := 118) rfl dX0_workAll_115 q9 rfl ?_
            refine EW_aload_n (pc2 := 119) rfl dX0_workAll_118 2 rfl ?_
            refine AW_geti ⟨gfRX0_78, rfl⟩ (pc2 := 122) rfl dX0_workAll_119 (isW.o (isW_of b4)) ?_
            obtain ⟨b7, h⟩ := h
            refine AW_aald5 (pc2 := 123) rfl dX0_workAll_122 b7 ?_
            refine AW_invV (M' := MX0_aim) [.ref (82 + Int32.toNatClampNeg v1), .ref (30 + 3 * Int32.toNatClampNeg (x.1 (82 + Int32.toNatClampNeg v1) 12))] (rest := []) mlRX0_284 okX0_aim (pc2 := 126) rfl dX0_workAll_123 rfl rfl (Nat.le_of_ble_eq_true rfl) (Nat.le_of_ble_eq_true rfl) (d' := 4) (by omega) q66 ⟨by decide, rfl⟩ (EW_mono (fun _ _ hr => ?_) (sX0_aim (82 + Int32.toNatClampNeg v1) (30 + 3 * Int32.toNatClampNeg (x.1 (82 + Int32.toNatClampNeg v1) 12)) (isW_of b4) (isH_of b7) x _ _ 0 0 (Nat.le_refl _) h))
            obtain ⟨x8, rfl, rfl, h⟩ := hr
            refine EW_iinc (v1 + 1) (pc2 := 129) rfl dX0_workAll_126 1 rfl rfl (by decide) [1, 0, 2] [(0, .ref 66), (1, .int (v1 + 1)), (2, .ref (82 + Int32.toNatClampNeg v1))] rfl ?_
            refine EW_goto (tgt := 37) dX0_workAll_129 (by decide) ?_
            refine EW_ls [0, 1] rfl ?_
            exact hL37 (v1 + 1) x8 h
        · replace h := h.2 q
          refine EW_aload_n (pc2 := 83) rfl dX0_workAll_82 0 rfl ?_
          refine EW_aload_n (pc2 := 84) rfl dX0_workAll_83 2 rfl ?_
          refine EW_aload_n (pc2 := 85) rfl dX0_workAll_84 0 rfl ?_
          refine AW_getr (r := 9) ⟨gfRX0_49, rfl⟩ (pc2 := 88) rfl dX0_workAll_85 q66 rfl ?_
          refine AW_getr (r := 10) ⟨gfRX0_148, rfl⟩ (pc2 := 91) rfl dX0_workAll_88 q9 rfl ?_
          refine EW_aload_n (pc2 := 92) rfl dX0_workAll_91 2 rfl ?_
          refine AW_geti ⟨gfRX0_78, rfl⟩ (pc2 := 95) rfl dX0_workAll_92 (isW.o (isW_of b4)) ?_
          obtain ⟨b9, h⟩ := h
          refine AW_aald5 (pc2 := 96) rfl dX0_workAll_95 b9 ?_
          refine AW_invV (M' := MX0_takeOut) [.ref (82 + Int32.toNatClampNeg v1), .ref (30 + 3 * Int32.toNatClampNeg (x.1 (82 + Int32.toNatClampNeg v1) 12))] (rest := []) mlRX0_276 okX0_takeOut (pc2 := 99) rfl dX0_workAll_96 rfl rfl (Nat.le_of_ble_eq_true rfl) (Nat.le_of_ble_eq_true rfl) (d' := 2) (by omega) q66 ⟨by decide, rfl⟩ (EW_mono (fun _ _ hr => ?_) (sX0_takeOut (82 + Int32.toNatClampNeg v1) (30 + 3 * Int32.toNatClampNeg (x.1 (82 + Int32.toNatClampNeg v1) 12)) (isW_of b4) (isH_of b9) x _ _ 0 0 (Nat.le_refl _) h))
          obtain ⟨x10, rfl, rfl, h⟩ := hr
          refine EW_goto (tgt := 126) dX0_workAll_99 (by decide) ?_
          refine EW_iinc (v1 + 1) (pc2 := 129) rfl dX0_workAll_126 1 rfl rfl (by decide) [1, 0, 2] [(0, .ref 66), (1, .int (v1 + 1)), (2, .ref (82 + Int32.toNatClampNeg v1))] rfl ?_
          refine EW_goto (tgt := 37) dX0_workAll_129 (by decide) ?_
          refine EW_ls [0, 1] rfl ?_
          exact hL37 (v1 + 1) x10 h
set_option maxHeartbeats 4000000 in
set_option maxRecDepth 100000 in
def lX0_workAll_12  (K : ab_X → Prop)  (L12 : Int32 → ab_X → Prop) (v1 : Int32) (x : ab_X) : Prop := (((x.1 66 3) ≤ v1 → Lp2 (lX0_workAll_37 K ) 0 x) ∧ (¬ (x.1 66 3) ≤ v1 → (vp_in v1 16 ∧ wX2_beginMinute (82 + Int32.toNatClampNeg v1) x (fun x3 => L12 (v1 + 1) x3))))
set_option maxHeartbeats 4000000 in
set_option maxRecDepth 100000 in
theorem sX0_workAll_12 (v1 : Int32)  (x : ab_X) (K : ab_X → Prop)  (d bc bs : Nat) (hdp : 5 ≤ d)  (h : Lp2 (lX0_workAll_12  K ) v1 x) : EW MX0_workAll 12 [(0, .ref 66), (1, .int v1)] [] (aS x) d bc bs (liV K) := by
  refine Lp2.use (P := fun v1 x => EW MX0_workAll 12 [(0, .ref 66), (1, .int v1)] [] (aS x) d bc bs (liV K)) (fun L12 v1 x hL12 h => ?_) v1 x h
  unfold lX0_workAll_12 at h
  refine EW_iload_n (pc2 := 13) rfl dX0_workAll_12 1 rfl ?_
  refine EW_aload_n (pc2 := 14) rfl dX0_workAll_13 0 rfl ?_
  refine AW_geti ⟨gfRX0_55, rfl⟩ (pc2 := 17) rfl dX0_workAll_14 q66 ?_
  refine EW_icmp_ge (tgt := 35) (pc2 := 20) rfl dX0_workAll_17 (by decide) (fun q => ?_) (fun q => ?_)
  · replace h := h.1 q
    refine EW_iconst (pc2 := 36) (v := 0) rfl dX0_workAll_35 (by decide) ?_
    refine EW_istore_n (pc2 := 37) rfl dX0_workAll_36 (by decide) [1, 0] [(0, .ref 66), (1, .int 0)] rfl ?_
    exact sX0_workAll_37 0 x K d bc bs hdp h
  · replace h := h.2 q
    refine EW_aload_n (pc2 := 21) rfl dX0_workAll_20 0 rfl ?_
    refine AW_getr (r := 67) ⟨gfRX0_11, rfl⟩ (pc2 := 24) rfl dX0_workAll_21 q66 rfl ?_
    refine EW_iload_n (pc2 := 25) rfl dX0_workAll_24 1 rfl ?_
    obtain ⟨b2, h⟩ := h
    refine AW_aald6 (pc2 := 26) rfl dX0_workAll_25 b2 ?_
    refine AW_invV (M' := MX2_beginMinute) [] (rest := []) mlRX0_273 okX2_beginMinute (pc2 := 29) rfl dX0_workAll_26 rfl rfl (Nat.le_of_ble_eq_true rfl) (Nat.le_of_ble_eq_true rfl) (d' := 0) (by omega) (isW.o (isW_of b2)) ⟨by decide, rfl⟩ (EW_mono (fun _ _ hr => ?_) (sX2_beginMinute (82 + Int32.toNatClampNeg v1) (isW_of b2) x _ _ 0 0 (Nat.le_refl _) h))
    obtain ⟨x3, rfl, rfl, h⟩ := hr
    refine EW_iinc (v1 + 1) (pc2 := 32) rfl dX0_workAll_29 1 rfl rfl (by decide) [1, 0] [(0, .ref 66), (1, .int (v1 + 1))] rfl ?_
    refine EW_goto (tgt := 12) dX0_workAll_32 (by decide) ?_
    exact hL12 (v1 + 1) x3 h
set_option maxHeartbeats 4000000 in
set_option maxRecDepth 100000 in
def wX0_workAll  (x : ab_X) (K : ab_X → Prop) : Prop := wX3_dry 11 x (fun x1 => Lp2 (lX0_workAll_12 K ) 0 x1)
set_option maxHeartbeats 4000000 in
set_option maxRecDepth 100000 in
theorem sX0_workAll   (x : ab_X) (K : ab_X → Prop) (d bc bs : Nat) (hdp : 5 ≤ d) (h : wX0_workAll  x K) : EW MX0_workAll 0 [(0, .ref 66)] [] (aS x) d bc bs (liV K) := by
  unfold wX0_workAll at h
  refine EW_aload_n (pc2 := 1) rfl dX0_workAll_0 0 rfl ?_
  refine AW_getr (r := 9) ⟨gfRX0_49, rfl⟩ (pc2 := 4) rfl dX0_workAll_1 q66 rfl ?_
  refine AW_getr (r := 11) ⟨gfRX0_100, rfl⟩ (pc2 := 7) rfl dX0_workAll_4 q9 rfl ?_
  refine AW_invV (M' := MX3_dry) [] (rest := []) mlRX0_270 okX3_dry (pc2 := 10) rfl dX0_workAll_7 rfl rfl (Nat.le_of_ble_eq_true rfl) (Nat.le_of_ble_eq_true rfl) (d' := 1) (by omega) q11 ⟨by decide, rfl⟩ (EW_mono (fun _ _ hr => ?_) (sX3_dry 11 (Or.inl rfl : isF 11) x _ _ 0 0 (Nat.le_refl _) h))
  obtain ⟨x1, rfl, rfl, h⟩ := hr
  refine EW_iconst (pc2 := 11) (v := 0) rfl dX0_workAll_10 (by decide) ?_
  refine EW_istore_n (pc2 := 12) rfl dX0_workAll_11 (by decide) [1, 0] [(0, .ref 66), (1, .int 0)] rfl ?_
  exact sX0_workAll_12 0 x1 K d bc bs hdp h
abbrev MX3_deadlyRooms : ab_M := (yX3_deadlyRooms, cX3_deadlyRooms, 6, (some .int))
theorem dX3_deadlyRooms_0 : decode cX3_deadlyRooms 0 = .ok (.iconst 0, 1) := by decide +kernel
theorem dX3_deadlyRooms_1 : decode cX3_deadlyRooms 1 = .ok (.istore_n 3, 1) := by decide +kernel
theorem dX3_deadlyRooms_2 : decode cX3_deadlyRooms 2 = .ok (.iconst 0, 1) := by decide +kernel
theorem dX3_deadlyRooms_3 : decode cX3_deadlyRooms 3 = .ok (.istore 4, 2) := by decide +kernel
theorem dX3_deadlyRooms_5 : decode cX3_deadlyRooms 5 = .ok (.iload 4, 2) := by decide +kernel
theorem dX3_deadlyRooms_7 : decode cX3_deadlyRooms 7 = .ok (.aload_n 1, 1) := by decide +kernel
theorem dX3_deadlyRooms_8 : decode cX3_deadlyRooms 8 = .ok (.getfield 60, 3) := by decide +kernel
theorem dX3_deadlyRooms_11 : decode cX3_deadlyRooms 11 = .ok (.if_icmp .ge 54, 3) := by decide +kernel
theorem dX3_deadlyRooms_14 : decode cX3_deadlyRooms 14 = .ok (.aload_n 1, 1) := by decide +kernel
theorem dX3_deadlyRooms_15 : decode cX3_deadlyRooms 15 = .ok (.iload_n 2, 1) := by decide +kernel
theorem dX3_deadlyRooms_16 : decode cX3_deadlyRooms 16 = .ok (.aload_n 1, 1) := by decide +kernel
theorem dX3_deadlyRooms_17 : decode cX3_deadlyRooms 17 = .ok (.getfield 60, 3) := by decide +kernel
theorem dX3_deadlyRooms_20 : decode cX3_deadlyRooms 20 = .ok (.imul, 1) := by decide +kernel
theorem dX3_deadlyRooms_21 : decode cX3_deadlyRooms 21 = .ok (.iload 4, 2) := by decide +kernel
theorem dX3_deadlyRooms_23 : decode cX3_deadlyRooms 23 = .ok (.iadd, 1) := by decide +kernel
theorem dX3_deadlyRooms_24 : decode cX3_deadlyRooms 24 = .ok (.invokevirtual 63, 3) := by decide +kernel
theorem dX3_deadlyRooms_27 : decode cX3_deadlyRooms 27 = .ok (.istore 5, 2) := by decide +kernel
theorem dX3_deadlyRooms_29 : decode cX3_deadlyRooms 29 = .ok (.iload_n 3, 1) := by decide +kernel
theorem dX3_deadlyRooms_30 : decode cX3_deadlyRooms 30 = .ok (.aload_n 0, 1) := by decide +kernel
theorem dX3_deadlyRooms_31 : decode cX3_deadlyRooms 31 = .ok (.iload 5, 2) := by decide +kernel
theorem dX3_deadlyRooms_33 : decode cX3_deadlyRooms 33 = .ok (.invokevirtual 66, 3) := by decide +kernel
theorem dX3_deadlyRooms_36 : decode cX3_deadlyRooms 36 = .ok (.ifCond .eq 20, 3) := by decide +kernel
theorem dX3_deadlyRooms_39 : decode cX3_deadlyRooms 39 = .ok (.aload_n 0, 1) := by decide +kernel
theorem dX3_deadlyRooms_40 : decode cX3_deadlyRooms 40 = .ok (.getfield 9, 3) := by decide +kernel
theorem dX3_deadlyRooms_43 : decode cX3_deadlyRooms 43 = .ok (.iload 5, 2) := by decide +kernel
theorem dX3_deadlyRooms_45 : decode cX3_deadlyRooms 45 = .ok (.iaload, 1) := by decide +kernel
theorem dX3_deadlyRooms_46 : decode cX3_deadlyRooms 46 = .ok (.sipush 600, 3) := by decide +kernel
theorem dX3_deadlyRooms_49 : decode cX3_deadlyRooms 49 = .ok (.if_icmp .lt 7, 3) := by decide +kernel
theorem dX3_deadlyRooms_52 : decode cX3_deadlyRooms 52 = .ok (.iconst 1, 1) := by decide +kernel
theorem dX3_deadlyRooms_53 : decode cX3_deadlyRooms 53 = .ok (.goto 4, 3) := by decide +kernel
theorem dX3_deadlyRooms_56 : decode cX3_deadlyRooms 56 = .ok (.iconst 0, 1) := by decide +kernel
theorem dX3_deadlyRooms_57 : decode cX3_deadlyRooms 57 = .ok (.iadd, 1) := by decide +kernel
theorem dX3_deadlyRooms_58 : decode cX3_deadlyRooms 58 = .ok (.istore_n 3, 1) := by decide +kernel
theorem dX3_deadlyRooms_59 : decode cX3_deadlyRooms 59 = .ok (.iinc 4 1, 3) := by decide +kernel
theorem dX3_deadlyRooms_62 : decode cX3_deadlyRooms 62 = .ok (.goto (-57), 3) := by decide +kernel
theorem dX3_deadlyRooms_65 : decode cX3_deadlyRooms 65 = .ok (.iload_n 3, 1) := by decide +kernel
theorem dX3_deadlyRooms_66 : decode cX3_deadlyRooms 66 = .ok (.ireturn, 1) := by decide +kernel
theorem okX3_deadlyRooms : ab_okM MX3_deadlyRooms 2 := ⟨by decide, ⟨by decide, by decide⟩, ab_in 1481 (by decide +kernel) (by decide +kernel), ab_in 90 (by decide +kernel) (by decide +kernel), by decide +kernel, by decide⟩
set_option maxHeartbeats 4000000 in
set_option maxRecDepth 100000 in
def wX3_deadlyRooms_57 (v0 : Nat) (v1 : Nat) (v2 : Int32) (v4 : Int32) (s0 : Int32) (s1 : Int32) (x : ab_X) (K : Int32 → Prop) (L5 : Int32 → Int32 → Prop) : Prop := L5 (s0 + s1) (v4 + 1)
set_option maxHeartbeats 4000000 in
set_option maxRecDepth 100000 in
theorem sX3_deadlyRooms_57 (v0 : Nat) (v1 : Nat) (v2 : Int32) (v4 : Int32) (s0 : Int32) (s1 : Int32) (hv0 : isF v0) (hv1 : isH v1) (x : ab_X) (K : Int32 → Prop) (L5 : Int32 → Int32 → Prop) (d bc bs : Nat) (hdp : 1 ≤ d) (hL5 : ∀ (v3 : Int32) (v4 : Int32), L5 v3 v4 → EW MX3_deadlyRooms 5 [(0, .ref v0), (1, .ref v1), (2, .int v2), (3, .int v3), (4, .int v4)] [] (aS x) d bc bs (liP x K)) (h : wX3_deadlyRooms_57 v0 v1 v2 v4 s0 s1 x K L5) : EW MX3_deadlyRooms 57 [(0, .ref v0), (1, .ref v1), (2, .int v2), (4, .int v4)] [.int s1, .int s0] (aS x) d bc bs (liP x K) := by
  unfold wX3_deadlyRooms_57 at h
  refine EW_iadd (pc2 := 58) rfl dX3_deadlyRooms_57 ?_
  refine EW_istore_n (pc2 := 59) rfl dX3_deadlyRooms_58 (by decide) [1, 2, 3, 0, 4] [(0, .ref v0), (1, .ref v1), (2, .int v2), (3, .int (s0 + s1)), (4, .int v4)] rfl ?_
  refine EW_iinc (v4 + 1) (pc2 := 62) rfl dX3_deadlyRooms_59 4 rfl rfl (by decide) [1, 2, 3, 4, 0] [(0, .ref v0), (1, .ref v1), (2, .int v2), (3, .int (s0 + s1)), (4, .int (v4 + 1))] rfl ?_
  refine EW_goto (tgt := 5) dX3_deadlyRooms_62 (by decide) ?_
  exact hL5 (s0 + s1) (v4 + 1) h
set_option maxHeartbeats 4000000 in
set_option maxRecDepth 100000 in
def wX3_deadlyRooms_56 (v0 : Nat) (v1 : Nat) (v2 : Int32) (v4 : Int32) (s0 : Int32) (x : ab_X) (K : Int32 → Prop) (L5 : Int32 → Int32 → Prop) : Prop := wX3_deadlyRooms_57 v0 v1 v2 v4 s0 0 x K L5
set_option maxHeartbeats 4000000 in
set_option maxRecDepth 100000 in
theorem sX3_deadlyRooms_56 (v0 : Nat) (v1 : Nat) (v2 : Int32) (v4 : Int32) (s0 : Int32) (hv0 : isF v0) (hv1 : isH v1) (x : ab_X) (K : Int32 → Prop) (L5 : Int32 → Int32 → Prop) (d bc bs : Nat) (hdp : 1 ≤ d) (hL5 : ∀ (v3 : Int32) (v4 : Int32), L5 v3 v4 → EW MX3_deadlyRooms 5 [(0, .ref v0), (1, .ref v1), (2, .int v2), (3, .int v3), (4, .int v4)] [] (aS x) d bc bs (liP x K)) (h : wX3_deadlyRooms_56 v0 v1 v2 v4 s0 x K L5) : EW MX3_deadlyRooms 56 [(0, .ref v0), (1, .ref v1), (2, .int v2), (4, .int v4)] [.int s0] (aS x) d bc bs (liP x K) := by
  unfold wX3_deadlyRooms_56 at h
  refine EW_iconst (pc2 := 57) (v := 0) rfl dX3_deadlyRooms_56 (by decide) ?_
  exact sX3_deadlyRooms_57 v0 v1 v2 v4 s0 0 hv0 hv1 x K L5 d bc bs hdp hL5 h
set_option maxHeartbeats 4000000 in
set_option maxRecDepth 100000 in
def lX3_deadlyRooms_5 (v0 : Nat) (v1 : Nat) (v2 : Int32) (x : ab_X) (K : Int32 → Prop)  (L5 : Int32 → Int32 → Prop) (v3 : Int32) (v4 : Int32) : Prop := (((x.1 v1 4) ≤ v4 → K v3) ∧ (¬ (x.1 v1 4) ≤ v4 → wX4_place v1 ((v2 * (x.1 v1 4)) + v4) x (fun r1 => wX3_burns v0 r1 x (fun r2 => ((r2 = 0 → wX3_deadlyRooms_56 v0 v1 v2 v4 v3 x K L5) ∧ (¬ r2 = 0 → (vp_in r1 288 ∧ (((x.1 (v0 + 1) (Int32.toNatClampNeg r1)) < 600 → wX3_deadlyRooms_56 v0 v1 v2 v4 v3 x K L5) ∧ (¬ (x.1 (v0 + 1) (Int32.toNatClampNeg r1)) < 600 → wX3_deadlyRooms_57 v0 v1 v2 v4 v3 1 x K L5)))))))))
set_option maxHeartbeats 4000000 in
set_option maxRecDepth 100000 in
theorem sX3_deadlyRooms_5 (v0 : Nat) (v1 : Nat) (v2 : Int32) (v3 : Int32) (v4 : Int32) (hv0 : isF v0) (hv1 : isH v1) (x : ab_X) (K : Int32 → Prop)  (d bc bs : Nat) (hdp : 1 ≤ d)  (h : Lp2 (lX3_deadlyRooms_5 v0 v1 v2 x K ) v3 v4) : EW MX3_deadlyRooms 5 [(0, .ref v0), (1, .ref v1), (2, .int v2), (3, .int v3), (4, .int v4)] [] (aS x) d bc bs (liP x K) := by
  refine Lp2.use (P := fun v3 v4 => EW MX3_deadlyRooms 5 [(0, .ref v0), (1, .ref v1), (2, .int v2), (3, .int v3), (4, .int v4)] [] (aS x) d bc bs (liP x K)) (fun L5 v3 v4 hL5 h => ?_) v3 v4 h
  unfold lX3_deadlyRooms_5 at h
  refine EW_iload (pc2 := 7) rfl dX3_deadlyRooms_5 4 rfl ?_
  refine EW_aload_n (pc2 := 8) rfl dX3_deadlyRooms_7 1 rfl ?_
  refine AW_geti ⟨gfRX3_60, rfl⟩ (pc2 := 11) rfl dX3_deadlyRooms_8 (isH.o hv1) ?_
  refine EW_icmp_ge (tgt := 65) (pc2 := 14) rfl dX3_deadlyRooms_11 (by decide) (fun q => ?_) (fun q => ?_)
  · replace h := h.1 q
    refine EW_iload_n (pc2 := 66) rfl dX3_deadlyRooms_65 3 rfl ?_
    exact AW_iret rfl dX3_deadlyRooms_66 ⟨_, rfl, rfl, h⟩
  · replace h := h.2 q
    refine EW_aload_n (pc2 := 15) rfl dX3_deadlyRooms_14 1 rfl ?_
    refine EW_iload_n (pc2 := 16) rfl dX3_deadlyRooms_15 2 rfl ?_
    refine EW_aload_n (pc2 := 17) rfl dX3_deadlyRooms_16 1 rfl ?_
    refine AW_geti ⟨gfRX3_60, rfl⟩ (pc2 := 20) rfl dX3_deadlyRooms_17 (isH.o hv1) ?_
    refine EW_imul (pc2 := 21) rfl dX3_deadlyRooms_20 ?_
    refine EW_iload (pc2 := 23) rfl dX3_deadlyRooms_21 4 rfl ?_
    refine EW_iadd (pc2 := 24) rfl dX3_deadlyRooms_23 ?_
    refine AW_invV (M' := MX4_place) [.int ((v2 * (x.1 v1 4)) + v4)] (rest := []) mlRX3_63 okX4_place (pc2 := 27) rfl dX3_deadlyRooms_24 rfl rfl (Nat.le_of_ble_eq_true rfl) (Nat.le_of_ble_eq_true rfl) (d' := 0) (by omega) (isH.o hv1) ⟨by decide, rfl⟩ (EW_mono (fun _ _ hr => ?_) (sX4_place v1 ((v2 * (x.1 v1 4)) + v4) hv1 x _ _ 0 0 (Nat.le_refl _) h))
    obtain ⟨r1, rfl, rfl, h⟩ := hr
    refine EW_istore (pc2 := 29) rfl dX3_deadlyRooms_27 (by decide) [1, 2, 3, 4, 5, 0] [(0, .ref v0), (1, .ref v1), (2, .int v2), (3, .int v3), (4, .int v4), (5, .int r1)] rfl ?_
    refine EW_iload_n (pc2 := 30) rfl dX3_deadlyRooms_29 3 rfl ?_
    refine EW_aload_n (pc2 := 31) rfl dX3_deadlyRooms_30 0 rfl ?_
    refine EW_iload (pc2 := 33) rfl dX3_deadlyRooms_31 5 rfl ?_
    refine AW_invV (M' := MX3_burns) [.int r1] (rest := [.int v3]) mlRX3_66 okX3_burns (pc2 := 36) rfl dX3_deadlyRooms_33 rfl rfl (Nat.le_of_ble_eq_true rfl) (Nat.le_of_ble_eq_true rfl) (d' := 0) (by omega) (isF.o hv0) ⟨by decide, rfl⟩ (EW_mono (fun _ _ hr => ?_) (sX3_burns v0 r1 hv0 x _ _ 0 0 (Nat.le_refl _) h))
    obtain ⟨r2, rfl, rfl, h⟩ := hr
    refine EW_if_eq (tgt := 56) (pc2 := 39) rfl dX3_deadlyRooms_36 (by decide) (fun q => ?_) (fun q => ?_)
    · replace h := h.1 q
      refine EW_ls [0, 1, 2, 4] rfl ?_
      exact sX3_deadlyRooms_56 v0 v1 v2 v4 v3 hv0 hv1 x K L5 d bc bs hdp hL5 h
    · replace h := h.2 q
      refine EW_aload_n (pc2 := 40) rfl dX3_deadlyRooms_39 0 rfl ?_
      refine AW_getr (r := (v0 + 1)) ⟨gfRX3_9, rfl⟩ (pc2 := 43) rfl dX3_deadlyRooms_40 (isF.o hv0) (isF.r0 hv0) ?_
      refine EW_iload (pc2 := 45) rfl dX3_deadlyRooms_43 5 rfl ?_
      obtain ⟨b3, h⟩ := h
      refine AW_iald (pc2 := 46) rfl dX3_deadlyRooms_45 (isF.a0 hv0) b3 ?_
      refine EW_sipush (pc2 := 49) (v := 600) rfl dX3_deadlyRooms_46 (by decide) ?_
      refine EW_icmp_lt (tgt := 56) (pc2 := 52) rfl dX3_deadlyRooms_49 (by decide) (fun q => ?_) (fun q => ?_)
      · replace h := h.1 q
        refine EW_ls [0, 1, 2, 4] rfl ?_
        exact sX3_deadlyRooms_56 v0 v1 v2 v4 v3 hv0 hv1 x K L5 d bc bs hdp hL5 h
      · replace h := h.2 q
        refine EW_iconst (pc2 := 53) (v := 1) rfl dX3_deadlyRooms_52 (by decide) ?_
        refine EW_goto (tgt := 57) dX3_deadlyRooms_53 (by decide) ?_
        refine EW_ls [0, 1, 2, 4] rfl ?_
        exact sX3_deadlyRooms_57 v0 v1 v2 v4 v3 1 hv0 hv1 x K L5 d bc bs hdp hL5 h
set_option maxHeartbeats 4000000 in
set_option maxRecDepth 100000 in
def wX3_deadlyRooms (v0 : Nat) (v1 : Nat) (v2 : Int32) (x : ab_X) (K : Int32 → Prop) : Prop := Lp2 (lX3_deadlyRooms_5 v0 v1 v2 x K ) 0 0
set_option maxHeartbeats 4000000 in
set_option maxRecDepth 100000 in
theorem sX3_deadlyRooms (v0 : Nat) (v1 : Nat) (v2 : Int32) (hv0 : isF v0) (hv1 : isH v1) (x : ab_X) (K : Int32 → Prop) (d bc bs : Nat) (hdp : 1 ≤ d) (h : wX3_deadlyRooms v0 v1 v2 x K) : EW MX3_deadlyRooms 0 [(0, .ref v0), (1, .ref v1), (2, .int v2)] [] (aS x) d bc bs (liP x K) := by
  unfold wX3_deadlyRooms at h
  refine EW_iconst (pc2 := 1) (v := 0) rfl dX3_deadlyRooms_0 (by decide) ?_
  refine EW_istore_n (pc2 := 2) rfl dX3_deadlyRooms_1 (by decide) [1, 2, 3, 0] [(0, .ref v0), (1, .ref v1), (2, .int v2), (3, .int 0)] rfl ?_
  refine EW_iconst (pc2 := 3) (v := 0) rfl dX3_deadlyRooms_2 (by decide) ?_
  refine EW_istore (pc2 := 5) rfl dX3_deadlyRooms_3 (by decide) [1, 2, 3, 4, 0] [(0, .ref v0), (1, .ref v1), (2, .int v2), (3, .int 0), (4, .int 0)] rfl ?_
  exact sX3_deadlyRooms_5 v0 v1 v2 0 0 hv0 hv1 x K d bc bs hdp h
theorem gfRX4_34 : ab_L RX4 34 4 13 := ⟨by decide, by decide, ab_in 260 (by decide +kernel) (by decide +kernel)⟩
theorem mmRX4_43 : Cond.methodLink RX4 43 Lib.Math.min.name ∈ ab_G ∧ Cond.static Lib.Math.min.name ∈ ab_G ∧ Cond.initialized "java/lang/Math" ∈ ab_G ∧ Cond.code Lib.Math.min.name Lib.Math.min.code 2 (some .int) ∈ ab_G := ⟨ab_in 1486 (by decide +kernel) (by decide +kernel), ab_in 787 (by decide +kernel) (by decide +kernel), ab_in 100 (by decide +kernel) (by decide +kernel), ab_in 788 (by decide +kernel) (by decide +kernel)⟩
theorem gfRX4_49 : ab_L RX4 49 4 15 := ⟨by decide, by decide, ab_in 267 (by decide +kernel) (by decide +kernel)⟩
abbrev MX4_takeLost : ab_M := (yX4_takeLost, cX4_takeLost, 4, none)
theorem dX4_takeLost_0 : decode cX4_takeLost 0 = .ok (.iload_n 2, 1) := by decide +kernel
theorem dX4_takeLost_1 : decode cX4_takeLost 1 = .ok (.aload_n 0, 1) := by decide +kernel
theorem dX4_takeLost_2 : decode cX4_takeLost 2 = .ok (.getfield 34, 3) := by decide +kernel
theorem dX4_takeLost_5 : decode cX4_takeLost 5 = .ok (.iload_n 1, 1) := by decide +kernel
theorem dX4_takeLost_6 : decode cX4_takeLost 6 = .ok (.iaload, 1) := by decide +kernel
theorem dX4_takeLost_7 : decode cX4_takeLost 7 = .ok (.invokestatic 43, 3) := by decide +kernel
theorem dX4_takeLost_10 : decode cX4_takeLost 10 = .ok (.istore_n 3, 1) := by decide +kernel
theorem dX4_takeLost_11 : decode cX4_takeLost 11 = .ok (.aload_n 0, 1) := by decide +kernel
theorem dX4_takeLost_12 : decode cX4_takeLost 12 = .ok (.getfield 34, 3) := by decide +kernel
theorem dX4_takeLost_15 : decode cX4_takeLost 15 = .ok (.iload_n 1, 1) := by decide +kernel
theorem dX4_takeLost_16 : decode cX4_takeLost 16 = .ok (.dup2, 1) := by decide +kernel
theorem dX4_takeLost_17 : decode cX4_takeLost 17 = .ok (.iaload, 1) := by decide +kernel
theorem dX4_takeLost_18 : decode cX4_takeLost 18 = .ok (.iload_n 3, 1) := by decide +kernel
theorem dX4_takeLost_19 : decode cX4_takeLost 19 = .ok (.isub, 1) := by decide +kernel
theorem dX4_takeLost_20 : decode cX4_takeLost 20 = .ok (.iastore, 1) := by decide +kernel
theorem dX4_takeLost_21 : decode cX4_takeLost 21 = .ok (.aload_n 0, 1) := by decide +kernel
theorem dX4_takeLost_22 : decode cX4_takeLost 22 = .ok (.dup, 1) := by decide +kernel
theorem dX4_takeLost_23 : decode cX4_takeLost 23 = .ok (.getfield 49, 3) := by decide +kernel
theorem dX4_takeLost_26 : decode cX4_takeLost 26 = .ok (.iload_n 3, 1) := by decide +kernel
theorem dX4_takeLost_27 : decode cX4_takeLost 27 = .ok (.iadd, 1) := by decide +kernel
theorem dX4_takeLost_28 : decode cX4_takeLost 28 = .ok (.putfield 49, 3) := by decide +kernel
theorem dX4_takeLost_31 : decode cX4_takeLost 31 = .ok (.return_, 1) := by decide +kernel
theorem okX4_takeLost : ab_okM MX4_takeLost 2 := ⟨by decide, ⟨by decide, by decide⟩, ab_in 1485 (by decide +kernel) (by decide +kernel), ab_in 91 (by decide +kernel) (by decide +kernel), by decide +kernel, by decide⟩
set_option maxHeartbeats 4000000 in
set_option maxRecDepth 100000 in
def wX4_takeLost (v0 : Nat) (v1 : Int32) (v2 : Int32) (x : ab_X) (K : ab_X → Prop) : Prop := (vp_in v1 6 ∧ vp_in v1 6 ∧ vp_in v1 6 ∧ K (wr (wr x (v0 + 2) (Int32.toNatClampNeg v1) ((x.1 (v0 + 2) (Int32.toNatClampNeg v1)) - (imin v2 (x.1 (v0 + 2) (Int32.toNatClampNeg v1))))) v0 15 (((wr x (v0 + 2) (Int32.toNatClampNeg v1) ((x.1 (v0 + 2) (Int32.toNatClampNeg v1)) - (imin v2 (x.1 (v0 + 2) (Int32.toNatClampNeg v1))))).1 v0 15) + (imin v2 (x.1 (v0 + 2) (Int32.toNatClampNeg v1))))))
set_option maxHeartbeats 4000000 in
set_option maxRecDepth 100000 in
theorem sX4_takeLost (v0 : Nat) (v1 : Int32) (v2 : Int32) (hv0 : isH v0) (x : ab_X) (K : ab_X → Prop) (d bc bs : Nat) (hdp : 1 ≤ d) (h : wX4_takeLost v0 v1 v2 x K) : EW MX4_takeLost 0 [(0, .ref v0), (1, .int v1), (2, .int v2)] [] (aS x) d bc bs (liV K) := by
  unfold wX4_takeLost at h
  refine EW_iload_n (pc2 := 1) rfl dX4_takeLost_0 2 rfl ?_
  refine EW_aload_n (pc2 := 2) rfl dX4_takeLost_1 0 rfl ?_
  refine AW_getr (r := (v0 + 2)) ⟨gfRX4_34, rfl⟩ (pc2 := 5) rfl dX4_takeLost_2 (isH.o hv0) (isH.r2 hv0) ?_
  refine EW_iload_n (pc2 := 6) rfl dX4_takeLost_5 1 rfl ?_
  obtain ⟨b1, h⟩ := h
  refine AW_iald (pc2 := 7) rfl dX4_takeLost_6 (isH.a2 hv0) b1 ?_
  refine AW_mmin mmRX4_43 (pc2 := 10) rfl dX4_takeLost_7 (Nat.le_of_ble_eq_true rfl) (by omega) ?_
  refine EW_istore_n (pc2 := 11) rfl dX4_takeLost_10 (by decide) [1, 2, 3, 0] [(0, .ref v0), (1, .int v1), (2, .int v2), (3, .int (imin v2 (x.1 (v0 + 2) (Int32.toNatClampNeg v1))))] rfl ?_
  refine EW_aload_n (pc2 := 12) rfl dX4_takeLost_11 0 rfl ?_
  refine AW_getr (r := (v0 + 2)) ⟨gfRX4_34, rfl⟩ (pc2 := 15) rfl dX4_takeLost_12 (isH.o hv0) (isH.r2 hv0) ?_
  refine EW_iload_n (pc2 := 16) rfl dX4_takeLost_15 1 rfl ?_
  refine EW_dup2 (pc2 := 17) rfl dX4_takeLost_16 rfl rfl ?_
  obtain ⟨b2, h⟩ := h
  refine AW_iald (pc2 := 18) rfl dX4_takeLost_17 (isH.a2 hv0) b2 ?_
  refine EW_iload_n (pc2 := 19) rfl dX4_takeLost_18 3 rfl ?_
  refine EW_isub (pc2 := 20) rfl dX4_takeLost_19 ?_
  obtain ⟨b3, h⟩ := h
  refine AW_iast (pc2 := 21) rfl dX4_takeLost_20 (isH.a2 hv0) b3 ?_
  refine EW_aload_n (pc2 := 22) rfl dX4_takeLost_21 0 rfl ?_
  refine EW_dup (pc2 := 23) rfl dX4_takeLost_22 rfl ?_
  refine AW_geti ⟨gfRX4_49, rfl⟩ (pc2 := 26) rfl dX4_takeLost_23 (isH.o hv0) ?_
  refine EW_iload_n (pc2 := 27) rfl dX4_takeLost_26 3 rfl ?_
  refine EW_iadd (pc2 := 28) rfl dX4_takeLost_27 ?_
  refine AW_puti ⟨gfRX4_49, rfl, rfl⟩ (pc2 := 31) rfl dX4_takeLost_28 (isH.o hv0) ?_
  exact EW_vret rfl dX4_takeLost_31 ⟨_, rfl, rfl, h⟩
theorem mlRX10_116 : Cond.methodLink RX10 116 yX4_takeLost ∈ ab_G ∧ Cond.instanceMethod yX4_takeLost ∈ ab_G ∧ Cond.selects RX4 yX4_takeLost yX4_takeLost ∈ ab_G := ⟨ab_in 1482 (by decide +kernel) (by decide +kernel), ab_in 1483 (by decide +kernel) (by decide +kernel), ab_in 1484 (by decide +kernel) (by decide +kernel)⟩
theorem gfRX10_105 : ab_L RX10 105 4 13 := ⟨by decide, by decide, ab_in 262 (by decide +kernel) (by decide +kernel)⟩
theorem mlRX10_108 : Cond.methodLink RX10 108 yX3_hasFallen ∈ ab_G ∧ Cond.instanceMethod yX3_hasFallen ∈ ab_G ∧ Cond.selects RX3 yX3_hasFallen yX3_hasFallen ∈ ab_G := ⟨ab_in 1477 (by decide +kernel) (by decide +kernel), ab_in 860 (by decide +kernel) (by decide +kernel), ab_in 861 (by decide +kernel) (by decide +kernel)⟩
theorem mlRX10_112 : Cond.methodLink RX10 112 yX3_deadlyRooms ∈ ab_G ∧ Cond.instanceMethod yX3_deadlyRooms ∈ ab_G ∧ Cond.selects RX3 yX3_deadlyRooms yX3_deadlyRooms ∈ ab_G := ⟨ab_in 1478 (by decide +kernel) (by decide +kernel), ab_in 1479 (by decide +kernel) (by decide +kernel), ab_in 1480 (by decide +kernel) (by decide +kernel)⟩
abbrev MX10_loseIn : ab_M := (yX10_loseIn, cX10_loseIn, 4, none)
theorem dX10_loseIn_0 : decode cX10_loseIn 0 = .ok (.iconst 0, 1) := by decide +kernel
theorem dX10_loseIn_1 : decode cX10_loseIn 1 = .ok (.istore_n 2, 1) := by decide +kernel
theorem dX10_loseIn_2 : decode cX10_loseIn 2 = .ok (.iload_n 2, 1) := by decide +kernel
theorem dX10_loseIn_3 : decode cX10_loseIn 3 = .ok (.aload_n 1, 1) := by decide +kernel
theorem dX10_loseIn_4 : decode cX10_loseIn 4 = .ok (.getfield 56, 3) := by decide +kernel
theorem dX10_loseIn_7 : decode cX10_loseIn 7 = .ok (.if_icmp .ge 55, 3) := by decide +kernel
theorem dX10_loseIn_10 : decode cX10_loseIn 10 = .ok (.aload_n 1, 1) := by decide +kernel
theorem dX10_loseIn_11 : decode cX10_loseIn 11 = .ok (.getfield 105, 3) := by decide +kernel
theorem dX10_loseIn_14 : decode cX10_loseIn 14 = .ok (.iload_n 2, 1) := by decide +kernel
theorem dX10_loseIn_15 : decode cX10_loseIn 15 = .ok (.iaload, 1) := by decide +kernel
theorem dX10_loseIn_16 : decode cX10_loseIn 16 = .ok (.ifCond .le 40, 3) := by decide +kernel
theorem dX10_loseIn_19 : decode cX10_loseIn 19 = .ok (.aload_n 0, 1) := by decide +kernel
theorem dX10_loseIn_20 : decode cX10_loseIn 20 = .ok (.getfield 20, 3) := by decide +kernel
theorem dX10_loseIn_23 : decode cX10_loseIn 23 = .ok (.aload_n 1, 1) := by decide +kernel
theorem dX10_loseIn_24 : decode cX10_loseIn 24 = .ok (.iload_n 2, 1) := by decide +kernel
theorem dX10_loseIn_25 : decode cX10_loseIn 25 = .ok (.invokevirtual 108, 3) := by decide +kernel
theorem dX10_loseIn_28 : decode cX10_loseIn 28 = .ok (.istore_n 3, 1) := by decide +kernel
theorem dX10_loseIn_29 : decode cX10_loseIn 29 = .ok (.aload_n 1, 1) := by decide +kernel
theorem dX10_loseIn_30 : decode cX10_loseIn 30 = .ok (.iload_n 2, 1) := by decide +kernel
theorem dX10_loseIn_31 : decode cX10_loseIn 31 = .ok (.iload_n 3, 1) := by decide +kernel
theorem dX10_loseIn_32 : decode cX10_loseIn 32 = .ok (.ifCond .eq 12, 3) := by decide +kernel
theorem dX10_loseIn_35 : decode cX10_loseIn 35 = .ok (.aload_n 1, 1) := by decide +kernel
theorem dX10_loseIn_36 : decode cX10_loseIn 36 = .ok (.getfield 105, 3) := by decide +kernel
theorem dX10_loseIn_39 : decode cX10_loseIn 39 = .ok (.iload_n 2, 1) := by decide +kernel
theorem dX10_loseIn_40 : decode cX10_loseIn 40 = .ok (.iaload, 1) := by decide +kernel
theorem dX10_loseIn_41 : decode cX10_loseIn 41 = .ok (.goto 12, 3) := by decide +kernel
theorem dX10_loseIn_44 : decode cX10_loseIn 44 = .ok (.aload_n 0, 1) := by decide +kernel
theorem dX10_loseIn_45 : decode cX10_loseIn 45 = .ok (.getfield 20, 3) := by decide +kernel
theorem dX10_loseIn_48 : decode cX10_loseIn 48 = .ok (.aload_n 1, 1) := by decide +kernel
theorem dX10_loseIn_49 : decode cX10_loseIn 49 = .ok (.iload_n 2, 1) := by decide +kernel
theorem dX10_loseIn_50 : decode cX10_loseIn 50 = .ok (.invokevirtual 112, 3) := by decide +kernel
theorem dX10_loseIn_53 : decode cX10_loseIn 53 = .ok (.invokevirtual 116, 3) := by decide +kernel
theorem dX10_loseIn_56 : decode cX10_loseIn 56 = .ok (.iinc 2 1, 3) := by decide +kernel
theorem dX10_loseIn_59 : decode cX10_loseIn 59 = .ok (.goto (-57), 3) := by decide +kernel
theorem dX10_loseIn_62 : decode cX10_loseIn 62 = .ok (.return_, 1) := by decide +kernel
theorem okX10_loseIn : ab_okM MX10_loseIn 1 := ⟨by decide, ⟨by decide, by decide⟩, ab_in 1476 (by decide +kernel) (by decide +kernel), ab_in 89 (by decide +kernel) (by decide +kernel), by decide +kernel, by decide⟩
set_option maxHeartbeats 4000000 in
set_option maxRecDepth 100000 in
def wX10_loseIn_53 (v1 : Nat) (v2 : Int32) (s0 : Nat) (s1 : Int32) (s2 : Int32) (x : ab_X) (K : ab_X → Prop) (L2 : Int32 → ab_X → Prop) : Prop := wX4_takeLost s0 s1 s2 x (fun x5 => L2 (v2 + 1) x5)
set_option maxHeartbeats 4000000 in
set_option maxRecDepth 100000 in
theorem sX10_loseIn_53 (v1 : Nat) (v2 : Int32) (s0 : Nat) (s1 : Int32) (s2 : Int32) (hv1 : isH v1) (hs0 : isH s0) (x : ab_X) (K : ab_X → Prop) (L2 : Int32 → ab_X → Prop) (d bc bs : Nat) (hdp : 2 ≤ d) (hL2 : ∀ (v2 : Int32) (x : ab_X), L2 v2 x → EW MX10_loseIn 2 [(0, .ref 9), (1, .ref v1), (2, .int v2)] [] (aS x) d bc bs (liV K)) (h : wX10_loseIn_53 v1 v2 s0 s1 s2 x K L2) : EW MX10_loseIn 53 [(0, .ref 9), (1, .ref v1), (2, .int v2)] [.int s2, .int s1, .ref s0] (aS x) d bc bs (liV K) := by
  unfold wX10_loseIn_53 at h
  refine AW_invV (M' := MX4_takeLost) [.int s1, .int s2] (rest := []) mlRX10_116 okX4_takeLost (pc2 := 56) rfl dX10_loseIn_53 rfl rfl (Nat.le_of_ble_eq_true rfl) (Nat.le_of_ble_eq_true rfl) (d' := 1) (by omega) (isH.o hs0) ⟨by decide, rfl⟩ (EW_mono (fun _ _ hr => ?_) (sX4_takeLost s0 s1 s2 hs0 x _ _ 0 0 (Nat.le_refl _) h))
  obtain ⟨x5, rfl, rfl, h⟩ := hr
  refine EW_iinc (v2 + 1) (pc2 := 59) rfl dX10_loseIn_56 2 rfl rfl (by decide) [1, 2, 0] [(0, .ref 9), (1, .ref v1), (2, .int (v2 + 1))] rfl ?_
  refine EW_goto (tgt := 2) dX10_loseIn_59 (by decide) ?_
  exact hL2 (v2 + 1) x5 h
set_option maxHeartbeats 4000000 in
set_option maxRecDepth 100000 in
def lX10_loseIn_2 (v1 : Nat) (K : ab_X → Prop)  (L2 : Int32 → ab_X → Prop) (v2 : Int32) (x : ab_X) : Prop := (((x.1 v1 3) ≤ v2 → K x) ∧ (¬ (x.1 v1 3) ≤ v2 → (vp_in v2 6 ∧ (((x.1 (v1 + 2) (Int32.toNatClampNeg v2)) ≤ 0 → L2 (v2 + 1) x) ∧ (¬ (x.1 (v1 + 2) (Int32.toNatClampNeg v2)) ≤ 0 → wX3_hasFallen 11 v1 v2 x (fun r2 => ((r2 = 0 → wX3_deadlyRooms 11 v1 v2 x (fun r3 => wX10_loseIn_53 v1 v2 v1 v2 r3 x K L2)) ∧ (¬ r2 = 0 → (vp_in v2 6 ∧ wX10_loseIn_53 v1 v2 v1 v2 (x.1 (v1 + 2) (Int32.toNatClampNeg v2)) x K L2)))))))))
set_option maxHeartbeats 4000000 in
set_option maxRecDepth 100000 in
theorem sX10_loseIn_2 (v1 : Nat) (v2 : Int32) (hv1 : isH v1) (x : ab_X) (K : ab_X → Prop)  (d bc bs : Nat) (hdp : 2 ≤ d)  (h : Lp2 (lX10_loseIn_2 v1 K ) v2 x) : EW MX10_loseIn 2 [(0, .ref 9), (1, .ref v1), (2, .int v2)] [] (aS x) d bc bs (liV K) := by
  refine Lp2.use (P := fun v2 x => EW MX10_loseIn 2 [(0, .ref 9), (1, .ref v1), (2, .int v2)] [] (aS x) d bc bs (liV K)) (fun L2 v2 x hL2 h => ?_) v2 x h
  unfold lX10_loseIn_2 at h
  refine EW_iload_n (pc2 := 3) rfl dX10_loseIn_2 2 rfl ?_
  refine EW_aload_n (pc2 := 4) rfl dX10_loseIn_3 1 rfl ?_
  refine AW_geti ⟨gfRX10_56, rfl⟩ (pc2 := 7) rfl dX10_loseIn_4 (isH.o hv1) ?_
  refine EW_icmp_ge (tgt := 62) (pc2 := 10) rfl dX10_loseIn_7 (by decide) (fun q => ?_) (fun q => ?_)
  · replace h := h.1 q
    exact EW_vret rfl dX10_loseIn_62 ⟨_, rfl, rfl, h⟩
  · replace h := h.2 q
    refine EW_aload_n (pc2 := 11) rfl dX10_loseIn_10 1 rfl ?_
    refine AW_getr (r := (v1 + 2)) ⟨gfRX10_105, rfl⟩ (pc2 := 14) rfl dX10_loseIn_11 (isH.o hv1) (isH.r2 hv1) ?_
    refine EW_iload_n (pc2 := 15) rfl dX10_loseIn_14 2 rfl ?_
    obtain ⟨b1, h⟩ := h
    refine AW_iald (pc2 := 16) rfl dX10_loseIn_15 (isH.a2 hv1) b1 ?_
    refine EW_if_le (tgt := 56) (pc2 := 19) rfl dX10_loseIn_16 (by decide) (fun q => ?_) (fun q => ?_)
    · replace h := h.1 q
      refine EW_iinc (v2 + 1) (pc2 := 59) rfl dX10_loseIn_56 2 rfl rfl (by decide) [1, 2, 0] [(0, .ref 9), (1, .ref v1), (2, .int (v2 + 1))] rfl ?_
      refine EW_goto (tgt := 2) dX10_loseIn_59 (by decide) ?_
      exact hL2 (v2 + 1) x h
    · replace h := h.2 q
      refine EW_aload_n (pc2 := 20) rfl dX10_loseIn_19 0 rfl ?_
      refine AW_getr (r := 11) ⟨gfRX10_20, rfl⟩ (pc2 := 23) rfl dX10_loseIn_20 q9 rfl ?_
      refine EW_aload_n (pc2 := 24) rfl dX10_loseIn_23 1 rfl ?_
      refine EW_iload_n (pc2 := 25) rfl dX10_loseIn_24 2 rfl ?_
      refine AW_invV (M' := MX3_hasFallen) [.ref v1, .int v2] (rest := []) mlRX10_108 okX3_hasFallen (pc2 := 28) rfl dX10_loseIn_25 rfl rfl (Nat.le_of_ble_eq_true rfl) (Nat.le_of_ble_eq_true rfl) (d' := 1) (by omega) q11 ⟨by decide, rfl⟩ (EW_mono (fun _ _ hr => ?_) (sX3_hasFallen 11 v1 v2 (Or.inl rfl : isF 11) hv1 x _ _ 0 0 (Nat.le_refl _) h))
      obtain ⟨r2, rfl, rfl, h⟩ := hr
      refine EW_istore_n (pc2 := 29) rfl dX10_loseIn_28 (by decide) [1, 2, 3, 0] [(0, .ref 9), (1, .ref v1), (2, .int v2), (3, .int r2)] rfl ?_
      refine EW_aload_n (pc2 := 30) rfl dX10_loseIn_29 1 rfl ?_
      refine EW_iload_n (pc2 := 31) rfl dX10_loseIn_30 2 rfl ?_
      refine EW_iload_n (pc2 := 32) rfl dX10_loseIn_31 3 rfl ?_
      refine EW_if_eq (tgt := 44) (pc2 := 35) rfl dX10_loseIn_32 (by decide) (fun q => ?_) (fun q => ?_)
      · replace h := h.1 q
        refine EW_aload_n (pc2 := 45) rfl dX10_loseIn_44 0 rfl ?_
        refine AW_getr (r := 11) ⟨gfRX10_20, rfl⟩ (pc2 := 48) rfl dX10_loseIn_45 q9 rfl ?_
        refine EW_aload_n (pc2 := 49) rfl dX10_loseIn_48 1 rfl ?_
        refine EW_iload_n (pc2 := 50) rfl dX10_loseIn_49 2 rfl ?_
        refine AW_invV (M' := MX3_deadlyRooms) [.ref v1, .int v2] (rest := [.int v2, .ref v1]) mlRX10_112 okX3_deadlyRooms (pc2 := 53) rfl dX10_loseIn_50 rfl rfl (Nat.le_of_ble_eq_true rfl) (Nat.le_of_ble_eq_true rfl) (d' := 1) (by omega) q11 ⟨by decide, rfl⟩ (EW_mono (fun _ _ hr => ?_) (sX3_deadlyRooms 11 v1 v2 (Or.inl rfl : isF 11) hv1 x _ _ 0 0 (Nat.le_refl _) h))
        obtain ⟨r3, rfl, rfl, h⟩ := hr
        refine EW_ls [0, 1, 2] rfl ?_
        exact sX10_loseIn_53 v1 v2 v1 v2 r3 hv1 hv1 x K L2 d bc bs hdp hL2 h
      · replace h := h.2 q
        refine EW_aload_n (pc2 := 36) rfl dX10_loseIn_35 1 rfl ?_
        refine AW_getr (r := (v1 + 2)) ⟨gfRX10_105, rfl⟩ (pc2 := 39) rfl dX10_loseIn_36 (isH.o hv1) (isH.r2 hv1) ?_
        refine EW_iload_n (pc2 := 40) rfl dX10_loseIn_39 2 rfl ?_
        obtain ⟨b4, h⟩ := h
        refine AW_iald (pc2 := 41) rfl dX10_loseIn_40 (isH.a2 hv1) b4 ?_
        refine EW_goto (tgt := 53) dX10_loseIn_41 (by decide) ?_
        refine EW_ls [0, 1, 2] rfl ?_
        exact sX10_loseIn_53 v1 v2 v1 v2 (x.1 (v1 + 2) (Int32.toNatClampNeg v2)) hv1 hv1 x K L2 d bc bs hdp hL2 h
set_option maxHeartbeats 4000000 in
set_option maxRecDepth 100000 in
def wX10_loseIn (v1 : Nat) (x : ab_X) (K : ab_X → Prop) : Prop := Lp2 (lX10_loseIn_2 v1 K ) 0 x
set_option maxHeartbeats 4000000 in
set_option maxRecDepth 100000 in
theorem sX10_loseIn (v1 : Nat) (hv1 : isH v1) (x : ab_X) (K : ab_X → Prop) (d bc bs : Nat) (hdp : 2 ≤ d) (h : wX10_loseIn v1 x K) : EW MX10_loseIn 0 [(0, .ref 9), (1, .ref v1)] [] (aS x) d bc bs (liV K) := by
  unfold wX10_loseIn at h
  refine EW_iconst (pc2 := 1) (v := 0) rfl dX10_loseIn_0 (by decide) ?_
  refine EW_istore_n (pc2 := 2) rfl dX10_loseIn_1 (by decide) [1, 2, 0] [(0, .ref 9), (1, .ref v1), (2, .int 0)] rfl ?_
  exact sX10_loseIn_2 v1 0 hv1 x K d bc bs hdp h
