abbrev MX12_room : ab_M := (yX12_room, cX12_room, 4, (some .int))
theorem dX12_room_0 : decode cX12_room 0 = .ok (.aload_n 0, 1) := by decide +kernel
theorem dX12_room_1 : decode cX12_room 1 = .ok (.iconst 0, 1) := by decide +kernel
theorem dX12_room_2 : decode cX12_room 2 = .ok (.putfield 297, 3) := by decide +kernel
theorem dX12_room_5 : decode cX12_room 5 = .ok (.aload_n 0, 1) := by decide +kernel
theorem dX12_room_6 : decode cX12_room 6 = .ok (.iload_n 1, 1) := by decide +kernel
theorem dX12_room_7 : decode cX12_room 7 = .ok (.iload_n 2, 1) := by decide +kernel
theorem dX12_room_8 : decode cX12_room 8 = .ok (.invokevirtual 354, 3) := by decide +kernel
theorem dX12_room_11 : decode cX12_room 11 = .ok (.ifCond .ne 5, 3) := by decide +kernel
theorem dX12_room_14 : decode cX12_room 14 = .ok (.iconst (-1), 1) := by decide +kernel
theorem dX12_room_15 : decode cX12_room 15 = .ok (.ireturn, 1) := by decide +kernel
theorem dX12_room_16 : decode cX12_room 16 = .ok (.iload_n 3, 1) := by decide +kernel
theorem dX12_room_17 : decode cX12_room 17 = .ok (.ifCond .ne 17, 3) := by decide +kernel
theorem dX12_room_20 : decode cX12_room 20 = .ok (.aload_n 0, 1) := by decide +kernel
theorem dX12_room_21 : decode cX12_room 21 = .ok (.getfield 68, 3) := by decide +kernel
theorem dX12_room_24 : decode cX12_room 24 = .ok (.bipush 24, 2) := by decide +kernel
theorem dX12_room_26 : decode cX12_room 26 = .ok (.iload_n 1, 1) := by decide +kernel
theorem dX12_room_27 : decode cX12_room 27 = .ok (.imul, 1) := by decide +kernel
theorem dX12_room_28 : decode cX12_room 28 = .ok (.iload_n 2, 1) := by decide +kernel
theorem dX12_room_29 : decode cX12_room 29 = .ok (.iadd, 1) := by decide +kernel
theorem dX12_room_30 : decode cX12_room 30 = .ok (.iaload, 1) := by decide +kernel
theorem dX12_room_31 : decode cX12_room 31 = .ok (.goto 45, 3) := by decide +kernel
theorem dX12_room_34 : decode cX12_room 34 = .ok (.iload_n 3, 1) := by decide +kernel
theorem dX12_room_35 : decode cX12_room 35 = .ok (.iconst 1, 1) := by decide +kernel
theorem dX12_room_36 : decode cX12_room 36 = .ok (.if_icmp .ne 17, 3) := by decide +kernel
theorem dX12_room_39 : decode cX12_room 39 = .ok (.aload_n 0, 1) := by decide +kernel
theorem dX12_room_40 : decode cX12_room 40 = .ok (.getfield 71, 3) := by decide +kernel
theorem dX12_room_43 : decode cX12_room 43 = .ok (.bipush 24, 2) := by decide +kernel
theorem dX12_room_45 : decode cX12_room 45 = .ok (.iload_n 1, 1) := by decide +kernel
theorem dX12_room_46 : decode cX12_room 46 = .ok (.imul, 1) := by decide +kernel
theorem dX12_room_47 : decode cX12_room 47 = .ok (.iload_n 2, 1) := by decide +kernel
theorem dX12_room_48 : decode cX12_room 48 = .ok (.iadd, 1) := by decide +kernel
theorem dX12_room_49 : decode cX12_room 49 = .ok (.iaload, 1) := by decide +kernel
theorem dX12_room_50 : decode cX12_room 50 = .ok (.goto 26, 3) := by decide +kernel
theorem dX12_room_53 : decode cX12_room 53 = .ok (.iload_n 3, 1) := by decide +kernel
theorem dX12_room_54 : decode cX12_room 54 = .ok (.iconst 2, 1) := by decide +kernel
theorem dX12_room_55 : decode cX12_room 55 = .ok (.if_icmp .ne 20, 3) := by decide +kernel
theorem dX12_room_58 : decode cX12_room 58 = .ok (.aload_n 0, 1) := by decide +kernel
theorem dX12_room_59 : decode cX12_room 59 = .ok (.iload_n 1, 1) := by decide +kernel
theorem dX12_room_60 : decode cX12_room 60 = .ok (.iload_n 2, 1) := by decide +kernel
theorem dX12_room_61 : decode cX12_room 61 = .ok (.invokevirtual 348, 3) := by decide +kernel
theorem dX12_room_64 : decode cX12_room 64 = .ok (.ifCond .eq 7, 3) := by decide +kernel
theorem dX12_room_67 : decode cX12_room 67 = .ok (.iconst 1, 1) := by decide +kernel
theorem dX12_room_68 : decode cX12_room 68 = .ok (.goto 8, 3) := by decide +kernel
theorem dX12_room_71 : decode cX12_room 71 = .ok (.iconst 0, 1) := by decide +kernel
theorem dX12_room_72 : decode cX12_room 72 = .ok (.goto 4, 3) := by decide +kernel
theorem dX12_room_75 : decode cX12_room 75 = .ok (.iconst (-1), 1) := by decide +kernel
theorem dX12_room_76 : decode cX12_room 76 = .ok (.ireturn, 1) := by decide +kernel
theorem okX12_room : ab_okM MX12_room 3 := ⟨by decide, ⟨by decide, by decide⟩, ab_in 2316 (by decide +kernel) (by decide +kernel), ab_in 99 (by decide +kernel) (by decide +kernel), by decide +kernel, by decide⟩
set_option maxHeartbeats 4000000 in
set_option maxRecDepth 100000 in
def wX12_room (v1 : Int32) (v2 : Int32) (v3 : Int32) (x : ab_X) (K : Int32 → ab_X → Prop) : Prop := wX12_isRoom v1 v2 (wr x 246 0 0) (fun r1 => ((¬ r1 = 0 → ((¬ v3 = 0 → ((¬ v3 = 1 → ((¬ v3 = 2 → K (-1) (wr x 246 0 0)) ∧ (v3 = 2 → wX12_burns v1 v2 (wr x 246 0 0) (fun r2 => ((r2 = 0 → K 0 (wr x 246 0 0)) ∧ (¬ r2 = 0 → K 1 (wr x 246 0 0))))))) ∧ (v3 = 1 → (vp_in ((24 * v1) + v2) 288 ∧ K ((wr x 246 0 0).1 267 (Int32.toNatClampNeg ((24 * v1) + v2))) (wr x 246 0 0))))) ∧ (v3 = 0 → (vp_in ((24 * v1) + v2) 288 ∧ K ((wr x 246 0 0).1 266 (Int32.toNatClampNeg ((24 * v1) + v2))) (wr x 246 0 0))))) ∧ (r1 = 0 → K (-1) (wr x 246 0 0))))
set_option maxHeartbeats 4000000 in
set_option maxRecDepth 100000 in
theorem sX12_room (v1 : Int32) (v2 : Int32) (v3 : Int32)  (x : ab_X) (K : Int32 → ab_X → Prop) (d bc bs : Nat) (hdp : 2 ≤ d) (h : wX12_room v1 v2 v3 x K) : EW MX12_room 0 [(0, .ref 246), (1, .int v1), (2, .int v2), (3, .int v3)] [] (aS x) d bc bs (liI K) := by
  unfold wX12_room at h
  refine EW_aload_n (pc2 := 1) rfl dX12_room_0 0 rfl ?_
  refine EW_iconst (pc2 := 2) (v := 0) rfl dX12_room_1 (by decide) ?_
  refine AW_puti ⟨gfRX12_297, rfl, rfl⟩ (pc2 := 5) rfl dX12_room_2 q246 ?_
  refine EW_aload_n (pc2 := 6) rfl dX12_room_5 0 rfl ?_
  refine EW_iload_n (pc2 := 7) rfl dX12_room_6 1 rfl ?_
  refine EW_iload_n (pc2 := 8) rfl dX12_room_7 2 rfl ?_
  refine AW_invV (M' := MX12_isRoom) [.int v1, .int v2] (rest := []) mlRX12_354 okX12_isRoom (pc2 := 11) rfl dX12_room_8 rfl rfl (Nat.le_of_ble_eq_true rfl) (Nat.le_of_ble_eq_true rfl) (d' := 1) (by omega) q246 ⟨by decide, rfl⟩ (EW_mono (fun _ _ hr => ?_) (sX12_isRoom v1 v2  (wr x 246 0 0) _ _ 0 0 (Nat.le_refl _) h))
  obtain ⟨r1, rfl, rfl, h⟩ := hr
  refine EW_if_ne (tgt := 16) (pc2 := 14) rfl dX12_room_11 (by decide) (fun q => ?_) (fun q => ?_)
  · replace h := h.1 q
    refine EW_iload_n (pc2 := 17) rfl dX12_room_16 3 rfl ?_
    refine EW_if_ne (tgt := 34) (pc2 := 20) rfl dX12_room_17 (by decide) (fun q => ?_) (fun q => ?_)
    · replace h := h.1 q
      refine EW_iload_n (pc2 := 35) rfl dX12_room_34 3 rfl ?_
      refine EW_iconst (pc2 := 36) (v := 1) rfl dX12_room_35 (by decide) ?_
      refine EW_icmp_ne (tgt := 53) (pc2 := 39) rfl dX12_room_36 (by decide) (fun q => ?_) (fun q => ?_)
      · replace h := h.1 q
        refine EW_iload_n (pc2 := 54) rfl dX12_room_53 3 rfl ?_
        refine EW_iconst (pc2 := 55) (v := 2) rfl dX12_room_54 (by decide) ?_
        refine EW_icmp_ne (tgt := 75) (pc2 := 58) rfl dX12_room_55 (by decide) (fun q => ?_) (fun q => ?_)
        · replace h := h.1 q
          refine EW_iconst (pc2 := 76) (v := (-1)) rfl dX12_room_75 (by decide) ?_
          exact AW_iret rfl dX12_room_76 ⟨_, _, rfl, rfl, h⟩
        · replace h := h.2 q
          refine EW_aload_n (pc2 := 59) rfl dX12_room_58 0 rfl ?_
          refine EW_iload_n (pc2 := 60) rfl dX12_room_59 1 rfl ?_
          refine EW_iload_n (pc2 := 61) rfl dX12_room_60 2 rfl ?_
          refine AW_invV (M' := MX12_burns) [.int v1, .int v2] (rest := []) mlRX12_348 okX12_burns (pc2 := 64) rfl dX12_room_61 rfl rfl (Nat.le_of_ble_eq_true rfl) (Nat.le_of_ble_eq_true rfl) (d' := 1) (by omega) q246 ⟨by decide, rfl⟩ (EW_mono (fun _ _ hr => ?_) (sX12_burns v1 v2  (wr x 246 0 0) _ _ 0 0 (Nat.le_refl _) h))
          obtain ⟨r2, rfl, rfl, h⟩ := hr
          refine EW_if_eq (tgt := 71) (pc2 := 67) rfl dX12_room_64 (by decide) (fun q => ?_) (fun q => ?_)
          · replace h := h.1 q
            refine EW_iconst (pc2 := 72) (v := 0) rfl dX12_room_71 (by decide) ?_
            refine EW_goto (tgt := 76) dX12_room_72 (by decide) ?_
            exact AW_iret rfl dX12_room_76 ⟨_, _, rfl, rfl, h⟩
          · replace h := h.2 q
            refine EW_iconst (pc2 := 68) (v := 1) rfl dX12_room_67 (by decide) ?_
            refine EW_goto (tgt := 76) dX12_room_68 (by decide) ?_
            exact AW_iret rfl dX12_room_76 ⟨_, _, rfl, rfl, h⟩
      · replace h := h.2 q
        refine EW_aload_n (pc2 := 40) rfl dX12_room_39 0 rfl ?_
        refine AW_getr (r := 267) ⟨gfRX12_71, rfl⟩ (pc2 := 43) rfl dX12_room_40 q246 rfl ?_
        refine EW_bipush (pc2 := 45) (v := 24) rfl dX12_room_43 (by decide) ?_
        refine EW_iload_n (pc2 := 46) rfl dX12_room_45 1 rfl ?_
        refine EW_imul (pc2 := 47) rfl dX12_room_46 ?_
        refine EW_iload_n (pc2 := 48) rfl dX12_room_47 2 rfl ?_
        refine EW_iadd (pc2 := 49) rfl dX12_room_48 ?_
        obtain ⟨b3, h⟩ := h
        refine AW_iald (pc2 := 50) rfl dX12_room_49 q267 b3 ?_
        refine EW_goto (tgt := 76) dX12_room_50 (by decide) ?_
        exact AW_iret rfl dX12_room_76 ⟨_, _, rfl, rfl, h⟩
    · replace h := h.2 q
      refine EW_aload_n (pc2 := 21) rfl dX12_room_20 0 rfl ?_
      refine AW_getr (r := 266) ⟨gfRX12_68, rfl⟩ (pc2 := 24) rfl dX12_room_21 q246 rfl ?_
      refine EW_bipush (pc2 := 26) (v := 24) rfl dX12_room_24 (by decide) ?_
      refine EW_iload_n (pc2 := 27) rfl dX12_room_26 1 rfl ?_
      refine EW_imul (pc2 := 28) rfl dX12_room_27 ?_
      refine EW_iload_n (pc2 := 29) rfl dX12_room_28 2 rfl ?_
      refine EW_iadd (pc2 := 30) rfl dX12_room_29 ?_
      obtain ⟨b4, h⟩ := h
      refine AW_iald (pc2 := 31) rfl dX12_room_30 q266 b4 ?_
      refine EW_goto (tgt := 76) dX12_room_31 (by decide) ?_
      exact AW_iret rfl dX12_room_76 ⟨_, _, rfl, rfl, h⟩
  · replace h := h.2 q
    refine EW_iconst (pc2 := 15) (v := (-1)) rfl dX12_room_14 (by decide) ?_
    exact AW_iret rfl dX12_room_15 ⟨_, _, rfl, rfl, h⟩
theorem mlRX12_630 : Cond.methodLink RX12 630 yX12_findTour ∈ ab_G ∧ Cond.instanceMethod yX12_findTour ∈ ab_G ∧ Cond.selects RX12 yX12_findTour yX12_findTour ∈ ab_G := ⟨ab_in 2663 (by decide +kernel) (by decide +kernel), ab_in 2665 (by decide +kernel) (by decide +kernel), ab_in 77 (by decide +kernel) (by decide +kernel)⟩
abbrev MX12_round : ab_M := (yX12_round, cX12_round, 4, (some .int))
theorem dX12_round_0 : decode cX12_round 0 = .ok (.aload_n 0, 1) := by decide +kernel
theorem dX12_round_1 : decode cX12_round 1 = .ok (.iload_n 1, 1) := by decide +kernel
theorem dX12_round_2 : decode cX12_round 2 = .ok (.iload_n 2, 1) := by decide +kernel
theorem dX12_round_3 : decode cX12_round 3 = .ok (.invokevirtual 630, 3) := by decide +kernel
theorem dX12_round_6 : decode cX12_round 6 = .ok (.ifCond .eq 12, 3) := by decide +kernel
theorem dX12_round_9 : decode cX12_round 9 = .ok (.iload_n 3, 1) := by decide +kernel
theorem dX12_round_10 : decode cX12_round 10 = .ok (.iconst 0, 1) := by decide +kernel
theorem dX12_round_11 : decode cX12_round 11 = .ok (.iconst 2, 1) := by decide +kernel
theorem dX12_round_12 : decode cX12_round 12 = .ok (.invokestatic 307, 3) := by decide +kernel
theorem dX12_round_15 : decode cX12_round 15 = .ok (.ifCond .ne 5, 3) := by decide +kernel
theorem dX12_round_18 : decode cX12_round 18 = .ok (.iconst (-1), 1) := by decide +kernel
theorem dX12_round_19 : decode cX12_round 19 = .ok (.ireturn, 1) := by decide +kernel
theorem dX12_round_20 : decode cX12_round 20 = .ok (.iload_n 3, 1) := by decide +kernel
theorem dX12_round_21 : decode cX12_round 21 = .ok (.ifCond .ne 10, 3) := by decide +kernel
theorem dX12_round_24 : decode cX12_round 24 = .ok (.aload_n 0, 1) := by decide +kernel
theorem dX12_round_25 : decode cX12_round 25 = .ok (.getfield 620, 3) := by decide +kernel
theorem dX12_round_28 : decode cX12_round 28 = .ok (.goto 19, 3) := by decide +kernel
theorem dX12_round_31 : decode cX12_round 31 = .ok (.iload_n 3, 1) := by decide +kernel
theorem dX12_round_32 : decode cX12_round 32 = .ok (.iconst 1, 1) := by decide +kernel
theorem dX12_round_33 : decode cX12_round 33 = .ok (.if_icmp .ne 10, 3) := by decide +kernel
theorem dX12_round_36 : decode cX12_round 36 = .ok (.aload_n 0, 1) := by decide +kernel
theorem dX12_round_37 : decode cX12_round 37 = .ok (.getfield 623, 3) := by decide +kernel
theorem dX12_round_40 : decode cX12_round 40 = .ok (.goto 7, 3) := by decide +kernel
theorem dX12_round_43 : decode cX12_round 43 = .ok (.aload_n 0, 1) := by decide +kernel
theorem dX12_round_44 : decode cX12_round 44 = .ok (.getfield 617, 3) := by decide +kernel
theorem dX12_round_47 : decode cX12_round 47 = .ok (.ireturn, 1) := by decide +kernel
theorem okX12_round : ab_okM MX12_round 3 := ⟨by decide, ⟨by decide, by decide⟩, ab_in 2662 (by decide +kernel) (by decide +kernel), ab_in 99 (by decide +kernel) (by decide +kernel), by decide +kernel, by decide⟩
set_option maxHeartbeats 4000000 in
set_option maxRecDepth 100000 in
def wX12_round (v1 : Int32) (v2 : Int32) (v3 : Int32) (x : ab_X) (K : Int32 → ab_X → Prop) : Prop := wX12_findTour v1 v2 x (fun r1 x2 => ((r1 = 0 → K (-1) x2) ∧ (¬ r1 = 0 → wX12_isIn v3 0 2 x2 (fun r3 => ((¬ r3 = 0 → ((¬ v3 = 0 → ((¬ v3 = 1 → K (x2.1 246 108) x2) ∧ (v3 = 1 → K (x2.1 246 107) x2))) ∧ (v3 = 0 → K (x2.1 246 106) x2))) ∧ (r3 = 0 → K (-1) x2))))))
set_option maxHeartbeats 4000000 in
set_option maxRecDepth 100000 in
theorem sX12_round (v1 : Int32) (v2 : Int32) (v3 : Int32)  (x : ab_X) (K : Int32 → ab_X → Prop) (d bc bs : Nat) (hdp : 212 ≤ d) (h : wX12_round v1 v2 v3 x K) : EW MX12_round 0 [(0, .ref 246), (1, .int v1), (2, .int v2), (3, .int v3)] [] (aS x) d bc bs (liI K) := by
  unfold wX12_round at h
  refine EW_aload_n (pc2 := 1) rfl dX12_round_0 0 rfl ?_
  refine EW_iload_n (pc2 := 2) rfl dX12_round_1 1 rfl ?_
  refine EW_iload_n (pc2 := 3) rfl dX12_round_2 2 rfl ?_
  refine AW_invV (M' := MX12_findTour) [.int v1, .int v2] (rest := []) mlRX12_630 okX12_findTour (pc2 := 6) rfl dX12_round_3 rfl rfl (Nat.le_of_ble_eq_true rfl) (Nat.le_of_ble_eq_true rfl) (d' := 211) (by omega) q246 ⟨by decide, rfl⟩ (EW_mono (fun _ _ hr => ?_) (sX12_findTour v1 v2  x _ _ 0 0 (Nat.le_refl _) h))
  obtain ⟨r1, x2, rfl, rfl, h⟩ := hr
  refine EW_if_eq (tgt := 18) (pc2 := 9) rfl dX12_round_6 (by decide) (fun q => ?_) (fun q => ?_)
  · replace h := h.1 q
    refine EW_iconst (pc2 := 19) (v := (-1)) rfl dX12_round_18 (by decide) ?_
    exact AW_iret rfl dX12_round_19 ⟨_, _, rfl, rfl, h⟩
  · replace h := h.2 q
    refine EW_iload_n (pc2 := 10) rfl dX12_round_9 3 rfl ?_
    refine EW_iconst (pc2 := 11) (v := 0) rfl dX12_round_10 (by decide) ?_
    refine EW_iconst (pc2 := 12) (v := 2) rfl dX12_round_11 (by decide) ?_
    refine AW_invS (M' := MX12_isIn) [.int v3, .int 0, .int 2] (rest := []) mlRX12_307 okX12_isIn (pc2 := 15) rfl dX12_round_12 rfl rfl (Nat.le_of_ble_eq_true rfl) (Nat.le_of_ble_eq_true rfl) (d' := 0) (by omega) (EW_mono (fun _ _ hr => ?_) (sX12_isIn v3 0 2  x2 _ _ 0 0 (Nat.le_refl _) h))
    obtain ⟨r3, rfl, rfl, h⟩ := hr
    refine EW_if_ne (tgt := 20) (pc2 := 18) rfl dX12_round_15 (by decide) (fun q => ?_) (fun q => ?_)
    · replace h := h.1 q
      refine EW_iload_n (pc2 := 21) rfl dX12_round_20 3 rfl ?_
      refine EW_if_ne (tgt := 31) (pc2 := 24) rfl dX12_round_21 (by decide) (fun q => ?_) (fun q => ?_)
      · replace h := h.1 q
        refine EW_iload_n (pc2 := 32) rfl dX12_round_31 3 rfl ?_
        refine EW_iconst (pc2 := 33) (v := 1) rfl dX12_round_32 (by decide) ?_
        refine EW_icmp_ne (tgt := 43) (pc2 := 36) rfl dX12_round_33 (by decide) (fun q => ?_) (fun q => ?_)
        · replace h := h.1 q
          refine EW_aload_n (pc2 := 44) rfl dX12_round_43 0 rfl ?_
          refine AW_geti ⟨gfRX12_617, rfl⟩ (pc2 := 47) rfl dX12_round_44 q246 ?_
          exact AW_iret rfl dX12_round_47 ⟨_, _, rfl, rfl, h⟩
        · replace h := h.2 q
          refine EW_aload_n (pc2 := 37) rfl dX12_round_36 0 rfl ?_
          refine AW_geti ⟨gfRX12_623, rfl⟩ (pc2 := 40) rfl dX12_round_37 q246 ?_
          refine EW_goto (tgt := 47) dX12_round_40 (by decide) ?_
          exact AW_iret rfl dX12_round_47 ⟨_, _, rfl, rfl, h⟩
      · replace h := h.2 q
        refine EW_aload_n (pc2 := 25) rfl dX12_round_24 0 rfl ?_
        refine AW_geti ⟨gfRX12_620, rfl⟩ (pc2 := 28) rfl dX12_round_25 q246 ?_
        refine EW_goto (tgt := 47) dX12_round_28 (by decide) ?_
        exact AW_iret rfl dX12_round_47 ⟨_, _, rfl, rfl, h⟩
    · replace h := h.2 q
      refine EW_iconst (pc2 := 19) (v := (-1)) rfl dX12_round_18 (by decide) ?_
      exact AW_iret rfl dX12_round_19 ⟨_, _, rfl, rfl, h⟩
abbrev MX12_rounded : ab_M := (yX12_rounded, cX12_rounded, 4, (some .int))
theorem dX12_rounded_0 : decode cX12_rounded 0 = .ok (.aload_n 0, 1) := by decide +kernel
theorem dX12_rounded_1 : decode cX12_rounded 1 = .ok (.iload_n 1, 1) := by decide +kernel
theorem dX12_rounded_2 : decode cX12_rounded 2 = .ok (.iload_n 2, 1) := by decide +kernel
theorem dX12_rounded_3 : decode cX12_rounded 3 = .ok (.invokevirtual 630, 3) := by decide +kernel
theorem dX12_rounded_6 : decode cX12_rounded 6 = .ok (.ifCond .eq 26, 3) := by decide +kernel
theorem dX12_rounded_9 : decode cX12_rounded 9 = .ok (.iload_n 3, 1) := by decide +kernel
theorem dX12_rounded_10 : decode cX12_rounded 10 = .ok (.iconst 0, 1) := by decide +kernel
theorem dX12_rounded_11 : decode cX12_rounded 11 = .ok (.aload_n 0, 1) := by decide +kernel
theorem dX12_rounded_12 : decode cX12_rounded 12 = .ok (.getfield 617, 3) := by decide +kernel
theorem dX12_rounded_15 : decode cX12_rounded 15 = .ok (.iconst 1, 1) := by decide +kernel
theorem dX12_rounded_16 : decode cX12_rounded 16 = .ok (.isub, 1) := by decide +kernel
theorem dX12_rounded_17 : decode cX12_rounded 17 = .ok (.invokestatic 307, 3) := by decide +kernel
theorem dX12_rounded_20 : decode cX12_rounded 20 = .ok (.ifCond .eq 12, 3) := by decide +kernel
theorem dX12_rounded_23 : decode cX12_rounded 23 = .ok (.aload_n 0, 1) := by decide +kernel
theorem dX12_rounded_24 : decode cX12_rounded 24 = .ok (.getfield 262, 3) := by decide +kernel
theorem dX12_rounded_27 : decode cX12_rounded 27 = .ok (.iload_n 3, 1) := by decide +kernel
theorem dX12_rounded_28 : decode cX12_rounded 28 = .ok (.iaload, 1) := by decide +kernel
theorem dX12_rounded_29 : decode cX12_rounded 29 = .ok (.goto 4, 3) := by decide +kernel
theorem dX12_rounded_32 : decode cX12_rounded 32 = .ok (.iconst (-1), 1) := by decide +kernel
theorem dX12_rounded_33 : decode cX12_rounded 33 = .ok (.ireturn, 1) := by decide +kernel
theorem okX12_rounded : ab_okM MX12_rounded 3 := ⟨by decide, ⟨by decide, by decide⟩, ab_in 2674 (by decide +kernel) (by decide +kernel), ab_in 99 (by decide +kernel) (by decide +kernel), by decide +kernel, by decide⟩
set_option maxHeartbeats 4000000 in
set_option maxRecDepth 100000 in
def wX12_rounded (v1 : Int32) (v2 : Int32) (v3 : Int32) (x : ab_X) (K : Int32 → ab_X → Prop) : Prop := wX12_findTour v1 v2 x (fun r1 x2 => ((r1 = 0 → K (-1) x2) ∧ (¬ r1 = 0 → wX12_isIn v3 0 ((x2.1 246 108) - 1) x2 (fun r3 => ((r3 = 0 → K (-1) x2) ∧ (¬ r3 = 0 → (vp_in v3 12 ∧ K (x2.1 326 (Int32.toNatClampNeg v3)) x2)))))))
set_option maxHeartbeats 4000000 in
set_option maxRecDepth 100000 in
theorem sX12_rounded (v1 : Int32) (v2 : Int32) (v3 : Int32)  (x : ab_X) (K : Int32 → ab_X → Prop) (d bc bs : Nat) (hdp : 212 ≤ d) (h : wX12_rounded v1 v2 v3 x K) : EW MX12_rounded 0 [(0, .ref 246), (1, .int v1), (2, .int v2), (3, .int v3)] [] (aS x) d bc bs (liI K) := by
  unfold wX12_rounded at h
  refine EW_aload_n (pc2 := 1) rfl dX12_rounded_0 0 rfl ?_
  refine EW_iload_n (pc2 := 2) rfl dX12_rounded_1 1 rfl ?_
  refine EW_iload_n (pc2 := 3) rfl dX12_rounded_2 2 rfl ?_
  refine AW_invV (M' := MX12_findTour) [.int v1, .int v2] (rest := []) mlRX12_630 okX12_findTour (pc2 := 6) rfl dX12_rounded_3 rfl rfl (Nat.le_of_ble_eq_true rfl) (Nat.le_of_ble_eq_true rfl) (d' := 211) (by omega) q246 ⟨by decide, rfl⟩ (EW_mono (fun _ _ hr => ?_) (sX12_findTour v1 v2  x _ _ 0 0 (Nat.le_refl _) h))
  obtain ⟨r1, x2, rfl, rfl, h⟩ := hr
  refine EW_if_eq (tgt := 32) (pc2 := 9) rfl dX12_rounded_6 (by decide) (fun q => ?_) (fun q => ?_)
  · replace h := h.1 q
    refine EW_iconst (pc2 := 33) (v := (-1)) rfl dX12_rounded_32 (by decide) ?_
    exact AW_iret rfl dX12_rounded_33 ⟨_, _, rfl, rfl, h⟩
  · replace h := h.2 q
    refine EW_iload_n (pc2 := 10) rfl dX12_rounded_9 3 rfl ?_
    refine EW_iconst (pc2 := 11) (v := 0) rfl dX12_rounded_10 (by decide) ?_
    refine EW_aload_n (pc2 := 12) rfl dX12_rounded_11 0 rfl ?_
    refine AW_geti ⟨gfRX12_617, rfl⟩ (pc2 := 15) rfl dX12_rounded_12 q246 ?_
    refine EW_iconst (pc2 := 16) (v := 1) rfl dX12_rounded_15 (by decide) ?_
    refine EW_isub (pc2 := 17) rfl dX12_rounded_16 ?_
    refine AW_invS (M' := MX12_isIn) [.int v3, .int 0, .int ((x2.1 246 108) - 1)] (rest := []) mlRX12_307 okX12_isIn (pc2 := 20) rfl dX12_rounded_17 rfl rfl (Nat.le_of_ble_eq_true rfl) (Nat.le_of_ble_eq_true rfl) (d' := 0) (by omega) (EW_mono (fun _ _ hr => ?_) (sX12_isIn v3 0 ((x2.1 246 108) - 1)  x2 _ _ 0 0 (Nat.le_refl _) h))
    obtain ⟨r3, rfl, rfl, h⟩ := hr
    refine EW_if_eq (tgt := 32) (pc2 := 23) rfl dX12_rounded_20 (by decide) (fun q => ?_) (fun q => ?_)
    · replace h := h.1 q
      refine EW_iconst (pc2 := 33) (v := (-1)) rfl dX12_rounded_32 (by decide) ?_
      exact AW_iret rfl dX12_rounded_33 ⟨_, _, rfl, rfl, h⟩
    · replace h := h.2 q
      refine EW_aload_n (pc2 := 24) rfl dX12_rounded_23 0 rfl ?_
      refine AW_getr (r := 326) ⟨gfRX12_262, rfl⟩ (pc2 := 27) rfl dX12_rounded_24 q246 rfl ?_
      refine EW_iload_n (pc2 := 28) rfl dX12_rounded_27 3 rfl ?_
      obtain ⟨b4, h⟩ := h
      refine AW_iald (pc2 := 29) rfl dX12_rounded_28 q326 b4 ?_
      refine EW_goto (tgt := 33) dX12_rounded_29 (by decide) ?_
      exact AW_iret rfl dX12_rounded_33 ⟨_, _, rfl, rfl, h⟩
abbrev MX12_row : ab_M := (yX12_row, cX12_row, 2, (some .int))
theorem dX12_row_0 : decode cX12_row 0 = .ok (.aload_n 0, 1) := by decide +kernel
theorem dX12_row_1 : decode cX12_row 1 = .ok (.iconst 0, 1) := by decide +kernel
theorem dX12_row_2 : decode cX12_row 2 = .ok (.putfield 297, 3) := by decide +kernel
theorem dX12_row_5 : decode cX12_row 5 = .ok (.aload_n 0, 1) := by decide +kernel
theorem dX12_row_6 : decode cX12_row 6 = .ok (.getfield 648, 3) := by decide +kernel
theorem dX12_row_9 : decode cX12_row 9 = .ok (.bipush 6, 2) := by decide +kernel
theorem dX12_row_11 : decode cX12_row 11 = .ok (.if_icmp .eq 12, 3) := by decide +kernel
theorem dX12_row_14 : decode cX12_row 14 = .ok (.iload_n 1, 1) := by decide +kernel
theorem dX12_row_15 : decode cX12_row 15 = .ok (.iconst 0, 1) := by decide +kernel
theorem dX12_row_16 : decode cX12_row 16 = .ok (.iconst 3, 1) := by decide +kernel
theorem dX12_row_17 : decode cX12_row 17 = .ok (.invokestatic 307, 3) := by decide +kernel
theorem dX12_row_20 : decode cX12_row 20 = .ok (.ifCond .ne 5, 3) := by decide +kernel
theorem dX12_row_23 : decode cX12_row 23 = .ok (.iconst (-1), 1) := by decide +kernel
theorem dX12_row_24 : decode cX12_row 24 = .ok (.ireturn, 1) := by decide +kernel
theorem dX12_row_25 : decode cX12_row 25 = .ok (.aload_n 0, 1) := by decide +kernel
theorem dX12_row_26 : decode cX12_row 26 = .ok (.getfield 278, 3) := by decide +kernel
theorem dX12_row_29 : decode cX12_row 29 = .ok (.aload_n 0, 1) := by decide +kernel
theorem dX12_row_30 : decode cX12_row 30 = .ok (.getfield 648, 3) := by decide +kernel
theorem dX12_row_33 : decode cX12_row 33 = .ok (.iload_n 1, 1) := by decide +kernel
theorem dX12_row_34 : decode cX12_row 34 = .ok (.iastore, 1) := by decide +kernel
theorem dX12_row_35 : decode cX12_row 35 = .ok (.aload_n 0, 1) := by decide +kernel
theorem dX12_row_36 : decode cX12_row 36 = .ok (.dup, 1) := by decide +kernel
theorem dX12_row_37 : decode cX12_row 37 = .ok (.getfield 648, 3) := by decide +kernel
theorem dX12_row_40 : decode cX12_row 40 = .ok (.iconst 1, 1) := by decide +kernel
theorem dX12_row_41 : decode cX12_row 41 = .ok (.iadd, 1) := by decide +kernel
theorem dX12_row_42 : decode cX12_row 42 = .ok (.putfield 648, 3) := by decide +kernel
theorem dX12_row_45 : decode cX12_row 45 = .ok (.aload_n 0, 1) := by decide +kernel
theorem dX12_row_46 : decode cX12_row 46 = .ok (.getfield 648, 3) := by decide +kernel
theorem dX12_row_49 : decode cX12_row 49 = .ok (.iconst 1, 1) := by decide +kernel
theorem dX12_row_50 : decode cX12_row 50 = .ok (.isub, 1) := by decide +kernel
theorem dX12_row_51 : decode cX12_row 51 = .ok (.ireturn, 1) := by decide +kernel
theorem okX12_row : ab_okM MX12_row 1 := ⟨by decide, ⟨by decide, by decide⟩, ab_in 2698 (by decide +kernel) (by decide +kernel), ab_in 99 (by decide +kernel) (by decide +kernel), by decide +kernel, by decide⟩
set_option maxHeartbeats 4000000 in
set_option maxRecDepth 100000 in
def wX12_row (v1 : Int32) (x : ab_X) (K : Int32 → ab_X → Prop) : Prop := ((((wr x 246 0 0).1 246 116) = 6 → K (-1) (wr x 246 0 0)) ∧ (¬ ((wr x 246 0 0).1 246 116) = 6 → wX12_isIn v1 0 3 (wr x 246 0 0) (fun r1 => ((¬ r1 = 0 → (vp_in ((wr x 246 0 0).1 246 116) 6 ∧ K (((wr (wr (wr x 246 0 0) 331 (Int32.toNatClampNeg ((wr x 246 0 0).1 246 116)) v1) 246 116 (((wr (wr x 246 0 0) 331 (Int32.toNatClampNeg ((wr x 246 0 0).1 246 116)) v1).1 246 116) + 1)).1 246 116) - 1) (wr (wr (wr x 246 0 0) 331 (Int32.toNatClampNeg ((wr x 246 0 0).1 246 116)) v1) 246 116 (((wr (wr x 246 0 0) 331 (Int32.toNatClampNeg ((wr x 246 0 0).1 246 116)) v1).1 246 116) + 1)))) ∧ (r1 = 0 → K (-1) (wr x 246 0 0))))))
set_option maxHeartbeats 4000000 in
set_option maxRecDepth 100000 in
theorem sX12_row (v1 : Int32)  (x : ab_X) (K : Int32 → ab_X → Prop) (d bc bs : Nat) (hdp : 1 ≤ d) (h : wX12_row v1 x K) : EW MX12_row 0 [(0, .ref 246), (1, .int v1)] [] (aS x) d bc bs (liI K) := by
  unfold wX12_row at h
  refine EW_aload_n (pc2 := 1) rfl dX12_row_0 0 rfl ?_
  refine EW_iconst (pc2 := 2) (v := 0) rfl dX12_row_1 (by decide) ?_
  refine AW_puti ⟨gfRX12_297, rfl, rfl⟩ (pc2 := 5) rfl dX12_row_2 q246 ?_
  refine EW_aload_n (pc2 := 6) rfl dX12_row_5 0 rfl ?_
  refine AW_geti ⟨gfRX12_648, rfl⟩ (pc2 := 9) rfl dX12_row_6 q246 ?_
  refine EW_bipush (pc2 := 11) (v := 6) rfl dX12_row_9 (by decide) ?_
  refine EW_icmp_eq (tgt := 23) (pc2 := 14) rfl dX12_row_11 (by decide) (fun q => ?_) (fun q => ?_)
  · replace h := h.1 q
    refine EW_iconst (pc2 := 24) (v := (-1)) rfl dX12_row_23 (by decide) ?_
    exact AW_iret rfl dX12_row_24 ⟨_, _, rfl, rfl, h⟩
  · replace h := h.2 q
    refine EW_iload_n (pc2 := 15) rfl dX12_row_14 1 rfl ?_
    refine EW_iconst (pc2 := 16) (v := 0) rfl dX12_row_15 (by decide) ?_
    refine EW_iconst (pc2 := 17) (v := 3) rfl dX12_row_16 (by decide) ?_
    refine AW_invS (M' := MX12_isIn) [.int v1, .int 0, .int 3] (rest := []) mlRX12_307 okX12_isIn (pc2 := 20) rfl dX12_row_17 rfl rfl (Nat.le_of_ble_eq_true rfl) (Nat.le_of_ble_eq_true rfl) (d' := 0) (by omega) (EW_mono (fun _ _ hr => ?_) (sX12_isIn v1 0 3  (wr x 246 0 0) _ _ 0 0 (Nat.le_refl _) h))
    obtain ⟨r1, rfl, rfl, h⟩ := hr
    refine EW_if_ne (tgt := 25) (pc2 := 23) rfl dX12_row_20 (by decide) (fun q => ?_) (fun q => ?_)
    · replace h := h.1 q
      refine EW_aload_n (pc2 := 26) rfl dX12_row_25 0 rfl ?_
      refine AW_getr (r := 331) ⟨gfRX12_278, rfl⟩ (pc2 := 29) rfl dX12_row_26 q246 rfl ?_
      refine EW_aload_n (pc2 := 30) rfl dX12_row_29 0 rfl ?_
      refine AW_geti ⟨gfRX12_648, rfl⟩ (pc2 := 33) rfl dX12_row_30 q246 ?_
      refine EW_iload_n (pc2 := 34) rfl dX12_row_33 1 rfl ?_
      obtain ⟨b2, h⟩ := h
      refine AW_iast (pc2 := 35) rfl dX12_row_34 q331 b2 ?_
      refine EW_aload_n (pc2 := 36) rfl dX12_row_35 0 rfl ?_
      refine EW_dup (pc2 := 37) rfl dX12_row_36 rfl ?_
      refine AW_geti ⟨gfRX12_648, rfl⟩ (pc2 := 40) rfl dX12_row_37 q246 ?_
      refine EW_iconst (pc2 := 41) (v := 1) rfl dX12_row_40 (by decide) ?_
      refine EW_iadd (pc2 := 42) rfl dX12_row_41 ?_
      refine AW_puti ⟨gfRX12_648, rfl, rfl⟩ (pc2 := 45) rfl dX12_row_42 q246 ?_
      refine EW_aload_n (pc2 := 46) rfl dX12_row_45 0 rfl ?_
      refine AW_geti ⟨gfRX12_648, rfl⟩ (pc2 := 49) rfl dX12_row_46 q246 ?_
      refine EW_iconst (pc2 := 50) (v := 1) rfl dX12_row_49 (by decide) ?_
      refine EW_isub (pc2 := 51) rfl dX12_row_50 ?_
      exact AW_iret rfl dX12_row_51 ⟨_, _, rfl, rfl, h⟩
    · replace h := h.2 q
      refine EW_iconst (pc2 := 24) (v := (-1)) rfl dX12_row_23 (by decide) ?_
      exact AW_iret rfl dX12_row_24 ⟨_, _, rfl, rfl, h⟩
