abbrev MX12_loss : ab_M := (yX12_loss, cX12_loss, 5, (some .double))
theorem dX12_loss_0 : decode cX12_loss 0 = .ok (.aload_n 0, 1) := by decide +kernel
theorem dX12_loss_1 : decode cX12_loss 1 = .ok (.iload_n 1, 1) := by decide +kernel
theorem dX12_loss_2 : decode cX12_loss 2 = .ok (.iload_n 2, 1) := by decide +kernel
theorem dX12_loss_3 : decode cX12_loss 3 = .ok (.iload_n 3, 1) := by decide +kernel
theorem dX12_loss_4 : decode cX12_loss 4 = .ok (.invokevirtual 670, 3) := by decide +kernel
theorem dX12_loss_7 : decode cX12_loss 7 = .ok (.ifCond .eq 20, 3) := by decide +kernel
theorem dX12_loss_10 : decode cX12_loss 10 = .ok (.iload 4, 2) := by decide +kernel
theorem dX12_loss_12 : decode cX12_loss 12 = .ok (.invokestatic 303, 3) := by decide +kernel
theorem dX12_loss_15 : decode cX12_loss 15 = .ok (.ifCond .eq 12, 3) := by decide +kernel
theorem dX12_loss_18 : decode cX12_loss 18 = .ok (.iload_n 2, 1) := by decide +kernel
theorem dX12_loss_19 : decode cX12_loss 19 = .ok (.iload 4, 2) := by decide +kernel
theorem dX12_loss_21 : decode cX12_loss 21 = .ok (.ishr, 1) := by decide +kernel
theorem dX12_loss_22 : decode cX12_loss 22 = .ok (.iconst 1, 1) := by decide +kernel
theorem dX12_loss_23 : decode cX12_loss 23 = .ok (.iand, 1) := by decide +kernel
theorem dX12_loss_24 : decode cX12_loss 24 = .ok (.ifCond .ne 7, 3) := by decide +kernel
theorem dX12_loss_27 : decode cX12_loss 27 = .ok (.ldc2_w 657, 3) := by decide +kernel
theorem dX12_loss_30 : decode cX12_loss 30 = .ok (.dreturn, 1) := by decide +kernel
theorem dX12_loss_31 : decode cX12_loss 31 = .ok (.aload_n 0, 1) := by decide +kernel
theorem dX12_loss_32 : decode cX12_loss 32 = .ok (.iload_n 1, 1) := by decide +kernel
theorem dX12_loss_33 : decode cX12_loss 33 = .ok (.iload_n 2, 1) := by decide +kernel
theorem dX12_loss_34 : decode cX12_loss 34 = .ok (.iload_n 3, 1) := by decide +kernel
theorem dX12_loss_35 : decode cX12_loss 35 = .ok (.invokevirtual 673, 3) := by decide +kernel
theorem dX12_loss_38 : decode cX12_loss 38 = .ok (.aload_n 0, 1) := by decide +kernel
theorem dX12_loss_39 : decode cX12_loss 39 = .ok (.iload_n 1, 1) := by decide +kernel
theorem dX12_loss_40 : decode cX12_loss 40 = .ok (.iload_n 2, 1) := by decide +kernel
theorem dX12_loss_41 : decode cX12_loss 41 = .ok (.iconst 1, 1) := by decide +kernel
theorem dX12_loss_42 : decode cX12_loss 42 = .ok (.iload 4, 2) := by decide +kernel
theorem dX12_loss_44 : decode cX12_loss 44 = .ok (.ishl, 1) := by decide +kernel
theorem dX12_loss_45 : decode cX12_loss 45 = .ok (.iconst (-1), 1) := by decide +kernel
theorem dX12_loss_46 : decode cX12_loss 46 = .ok (.ixor, 1) := by decide +kernel
theorem dX12_loss_47 : decode cX12_loss 47 = .ok (.iand, 1) := by decide +kernel
theorem dX12_loss_48 : decode cX12_loss 48 = .ok (.iload_n 3, 1) := by decide +kernel
theorem dX12_loss_49 : decode cX12_loss 49 = .ok (.invokevirtual 673, 3) := by decide +kernel
theorem dX12_loss_52 : decode cX12_loss 52 = .ok (.dsub, 1) := by decide +kernel
theorem dX12_loss_53 : decode cX12_loss 53 = .ok (.dreturn, 1) := by decide +kernel
theorem okX12_loss : ab_okM MX12_loss 4 := ⟨by decide, ⟨by decide, by decide⟩, ab_in 2741 (by decide +kernel) (by decide +kernel), ab_in 99 (by decide +kernel) (by decide +kernel), by decide +kernel, by decide⟩
set_option maxHeartbeats 4000000 in
set_option maxRecDepth 100000 in
def wX12_loss (v1 : Int32) (v2 : Int32) (v3 : Int32) (v4 : Int32) (x : ab_X) (K : UInt64 → ab_X → Prop) : Prop := wX12_canJudge v1 v2 v3 x (fun r1 x2 => ((r1 = 0 → K 9221120237041090560 x2) ∧ (¬ r1 = 0 → wX12_isCorner v4 x2 (fun r3 => ((r3 = 0 → K 9221120237041090560 x2) ∧ (¬ r3 = 0 → ((¬ ((v2 >>> (v4 &&& 31)) &&& 1) = 0 → wX12_judged v1 v2 v3 x2 (fun r4 => wX12_judged v1 (v2 &&& ((1 <<< (v4 &&& 31)) ^^^ (-1))) v3 x2 (fun r5 => (∀ r6, alike64 r6 (FP.dsub r4 r5) = true → K r6 x2)))) ∧ (((v2 >>> (v4 &&& 31)) &&& 1) = 0 → K 9221120237041090560 x2))))))))
set_option maxHeartbeats 4000000 in
set_option maxRecDepth 100000 in
theorem sX12_loss (v1 : Int32) (v2 : Int32) (v3 : Int32) (v4 : Int32)  (x : ab_X) (K : UInt64 → ab_X → Prop) (d bc bs : Nat) (hdp : 3 ≤ d) (h : wX12_loss v1 v2 v3 v4 x K) : EW MX12_loss 0 [(0, .ref 246), (1, .int v1), (2, .int v2), (3, .int v3), (4, .int v4)] [] (aS x) d bc bs (liDI K) := by
  unfold wX12_loss at h
  refine EW_aload_n (pc2 := 1) rfl dX12_loss_0 0 rfl ?_
  refine EW_iload_n (pc2 := 2) rfl dX12_loss_1 1 rfl ?_
  refine EW_iload_n (pc2 := 3) rfl dX12_loss_2 2 rfl ?_
  refine EW_iload_n (pc2 := 4) rfl dX12_loss_3 3 rfl ?_
  refine AW_invV (M' := MX12_canJudge) [.int v1, .int v2, .int v3] (rest := []) mlRX12_670 okX12_canJudge (pc2 := 7) rfl dX12_loss_4 rfl rfl (Nat.le_of_ble_eq_true rfl) (Nat.le_of_ble_eq_true rfl) (d' := 1) (by omega) q246 ⟨by decide, rfl⟩ (EW_mono (fun _ _ hr => ?_) (sX12_canJudge v1 v2 v3  x _ _ 0 0 (Nat.le_refl _) h))
  obtain ⟨r1, x2, rfl, rfl, h⟩ := hr
  refine EW_if_eq (tgt := 27) (pc2 := 10) rfl dX12_loss_7 (by decide) (fun q => ?_) (fun q => ?_)
  · replace h := h.1 q
    refine EW_ldc2d cnRX12_657 (pc2 := 30) rfl dX12_loss_27 ?_
    exact EW_dret rfl dX12_loss_30 ⟨_, _, rfl, rfl, h⟩
  · replace h := h.2 q
    refine EW_iload (pc2 := 12) rfl dX12_loss_10 4 rfl ?_
    refine AW_invS (M' := MX12_isCorner) [.int v4] (rest := []) mlRX12_303 okX12_isCorner (pc2 := 15) rfl dX12_loss_12 rfl rfl (Nat.le_of_ble_eq_true rfl) (Nat.le_of_ble_eq_true rfl) (d' := 0) (by omega) (EW_mono (fun _ _ hr => ?_) (sX12_isCorner v4  x2 _ _ 0 0 (Nat.le_refl _) h))
    obtain ⟨r3, rfl, rfl, h⟩ := hr
    refine EW_if_eq (tgt := 27) (pc2 := 18) rfl dX12_loss_15 (by decide) (fun q => ?_) (fun q => ?_)
    · replace h := h.1 q
      refine EW_ldc2d cnRX12_657 (pc2 := 30) rfl dX12_loss_27 ?_
      exact EW_dret rfl dX12_loss_30 ⟨_, _, rfl, rfl, h⟩
    · replace h := h.2 q
      refine EW_iload_n (pc2 := 19) rfl dX12_loss_18 2 rfl ?_
      refine EW_iload (pc2 := 21) rfl dX12_loss_19 4 rfl ?_
      refine EW_ishr (pc2 := 22) rfl dX12_loss_21 ?_
      refine EW_iconst (pc2 := 23) (v := 1) rfl dX12_loss_22 (by decide) ?_
      refine EW_iand (pc2 := 24) rfl dX12_loss_23 ?_
      refine EW_if_ne (tgt := 31) (pc2 := 27) rfl dX12_loss_24 (by decide) (fun q => ?_) (fun q => ?_)
      · replace h := h.1 q
        refine EW_aload_n (pc2 := 32) rfl dX12_loss_31 0 rfl ?_
        refine EW_iload_n (pc2 := 33) rfl dX12_loss_32 1 rfl ?_
        refine EW_iload_n (pc2 := 34) rfl dX12_loss_33 2 rfl ?_
        refine EW_iload_n (pc2 := 35) rfl dX12_loss_34 3 rfl ?_
        refine AW_invV (M' := MX12_judged) [.int v1, .int v2, .int v3] (rest := []) mlRX12_673 okX12_judged (pc2 := 38) rfl dX12_loss_35 rfl rfl (Nat.le_of_ble_eq_true rfl) (Nat.le_of_ble_eq_true rfl) (d' := 2) (by omega) q246 ⟨by decide, rfl⟩ (EW_mono (fun _ _ hr => ?_) (sX12_judged v1 v2 v3  x2 _ _ 0 0 (Nat.le_refl _) h))
        obtain ⟨r4, rfl, rfl, h⟩ := hr
        refine EW_aload_n (pc2 := 39) rfl dX12_loss_38 0 rfl ?_
        refine EW_iload_n (pc2 := 40) rfl dX12_loss_39 1 rfl ?_
        refine EW_iload_n (pc2 := 41) rfl dX12_loss_40 2 rfl ?_
        refine EW_iconst (pc2 := 42) (v := 1) rfl dX12_loss_41 (by decide) ?_
        refine EW_iload (pc2 := 44) rfl dX12_loss_42 4 rfl ?_
        refine EW_ishl (pc2 := 45) rfl dX12_loss_44 ?_
        refine EW_iconst (pc2 := 46) (v := (-1)) rfl dX12_loss_45 (by decide) ?_
        refine EW_ixor (pc2 := 47) rfl dX12_loss_46 ?_
        refine EW_iand (pc2 := 48) rfl dX12_loss_47 ?_
        refine EW_iload_n (pc2 := 49) rfl dX12_loss_48 3 rfl ?_
        refine AW_invV (M' := MX12_judged) [.int v1, .int (v2 &&& ((1 <<< (v4 &&& 31)) ^^^ (-1))), .int v3] (rest := [.double r4]) mlRX12_673 okX12_judged (pc2 := 52) rfl dX12_loss_49 rfl rfl (Nat.le_of_ble_eq_true rfl) (Nat.le_of_ble_eq_true rfl) (d' := 2) (by omega) q246 ⟨by decide, rfl⟩ (EW_mono (fun _ _ hr => ?_) (sX12_judged v1 (v2 &&& ((1 <<< (v4 &&& 31)) ^^^ (-1))) v3  x2 _ _ 0 0 (Nat.le_refl _) h))
        obtain ⟨r5, rfl, rfl, h⟩ := hr
        refine EW_dsub_any (pc2 := 53) rfl dX12_loss_52 (fun r6 qr6 => ?_)
        replace h := h r6 qr6
        exact EW_dret rfl dX12_loss_53 ⟨_, _, rfl, rfl, h⟩
      · replace h := h.2 q
        refine EW_ldc2d cnRX12_657 (pc2 := 30) rfl dX12_loss_27 ?_
        exact EW_dret rfl dX12_loss_30 ⟨_, _, rfl, rfl, h⟩
theorem gfRX12_95 : ab_L RX12 95 12 32 := ⟨by decide, by decide, ab_in 1881 (by decide +kernel) (by decide +kernel)⟩
abbrev MX12_main : ab_M := (yX12_main, cX12_main, 2, (some .int))
theorem dX12_main_0 : decode cX12_main 0 = .ok (.aload_n 0, 1) := by decide +kernel
theorem dX12_main_1 : decode cX12_main 1 = .ok (.iconst 0, 1) := by decide +kernel
theorem dX12_main_2 : decode cX12_main 2 = .ok (.putfield 297, 3) := by decide +kernel
theorem dX12_main_5 : decode cX12_main 5 = .ok (.aload_n 0, 1) := by decide +kernel
theorem dX12_main_6 : decode cX12_main 6 = .ok (.getfield 386, 3) := by decide +kernel
theorem dX12_main_9 : decode cX12_main 9 = .ok (.bipush 6, 2) := by decide +kernel
theorem dX12_main_11 : decode cX12_main 11 = .ok (.if_icmp .eq 15, 3) := by decide +kernel
theorem dX12_main_14 : decode cX12_main 14 = .ok (.iload_n 1, 1) := by decide +kernel
theorem dX12_main_15 : decode cX12_main 15 = .ok (.bipush 10, 2) := by decide +kernel
theorem dX12_main_17 : decode cX12_main 17 = .ok (.sipush 2000, 3) := by decide +kernel
theorem dX12_main_20 : decode cX12_main 20 = .ok (.invokestatic 307, 3) := by decide +kernel
theorem dX12_main_23 : decode cX12_main 23 = .ok (.ifCond .ne 5, 3) := by decide +kernel
theorem dX12_main_26 : decode cX12_main 26 = .ok (.iconst (-1), 1) := by decide +kernel
theorem dX12_main_27 : decode cX12_main 27 = .ok (.ireturn, 1) := by decide +kernel
theorem dX12_main_28 : decode cX12_main 28 = .ok (.aload_n 0, 1) := by decide +kernel
theorem dX12_main_29 : decode cX12_main 29 = .ok (.getfield 95, 3) := by decide +kernel
theorem dX12_main_32 : decode cX12_main 32 = .ok (.aload_n 0, 1) := by decide +kernel
theorem dX12_main_33 : decode cX12_main 33 = .ok (.getfield 386, 3) := by decide +kernel
theorem dX12_main_36 : decode cX12_main 36 = .ok (.iload_n 1, 1) := by decide +kernel
theorem dX12_main_37 : decode cX12_main 37 = .ok (.iastore, 1) := by decide +kernel
theorem dX12_main_38 : decode cX12_main 38 = .ok (.aload_n 0, 1) := by decide +kernel
theorem dX12_main_39 : decode cX12_main 39 = .ok (.dup, 1) := by decide +kernel
theorem dX12_main_40 : decode cX12_main 40 = .ok (.getfield 386, 3) := by decide +kernel
theorem dX12_main_43 : decode cX12_main 43 = .ok (.iconst 1, 1) := by decide +kernel
theorem dX12_main_44 : decode cX12_main 44 = .ok (.iadd, 1) := by decide +kernel
theorem dX12_main_45 : decode cX12_main 45 = .ok (.putfield 386, 3) := by decide +kernel
theorem dX12_main_48 : decode cX12_main 48 = .ok (.aload_n 0, 1) := by decide +kernel
theorem dX12_main_49 : decode cX12_main 49 = .ok (.getfield 386, 3) := by decide +kernel
theorem dX12_main_52 : decode cX12_main 52 = .ok (.iconst 1, 1) := by decide +kernel
theorem dX12_main_53 : decode cX12_main 53 = .ok (.isub, 1) := by decide +kernel
theorem dX12_main_54 : decode cX12_main 54 = .ok (.ireturn, 1) := by decide +kernel
theorem okX12_main : ab_okM MX12_main 1 := ⟨by decide, ⟨by decide, by decide⟩, ab_in 2336 (by decide +kernel) (by decide +kernel), ab_in 99 (by decide +kernel) (by decide +kernel), by decide +kernel, by decide⟩
set_option maxHeartbeats 4000000 in
set_option maxRecDepth 100000 in
def wX12_main (v1 : Int32) (x : ab_X) (K : Int32 → ab_X → Prop) : Prop := ((((wr x 246 0 0).1 246 56) = 6 → K (-1) (wr x 246 0 0)) ∧ (¬ ((wr x 246 0 0).1 246 56) = 6 → wX12_isIn v1 10 2000 (wr x 246 0 0) (fun r1 => ((¬ r1 = 0 → (vp_in ((wr x 246 0 0).1 246 56) 6 ∧ K (((wr (wr (wr x 246 0 0) 275 (Int32.toNatClampNeg ((wr x 246 0 0).1 246 56)) v1) 246 56 (((wr (wr x 246 0 0) 275 (Int32.toNatClampNeg ((wr x 246 0 0).1 246 56)) v1).1 246 56) + 1)).1 246 56) - 1) (wr (wr (wr x 246 0 0) 275 (Int32.toNatClampNeg ((wr x 246 0 0).1 246 56)) v1) 246 56 (((wr (wr x 246 0 0) 275 (Int32.toNatClampNeg ((wr x 246 0 0).1 246 56)) v1).1 246 56) + 1)))) ∧ (r1 = 0 → K (-1) (wr x 246 0 0))))))
set_option maxHeartbeats 4000000 in
set_option maxRecDepth 100000 in
theorem sX12_main (v1 : Int32)  (x : ab_X) (K : Int32 → ab_X → Prop) (d bc bs : Nat) (hdp : 1 ≤ d) (h : wX12_main v1 x K) : EW MX12_main 0 [(0, .ref 246), (1, .int v1)] [] (aS x) d bc bs (liI K) := by
  unfold wX12_main at h
  refine EW_aload_n (pc2 := 1) rfl dX12_main_0 0 rfl ?_
  refine EW_iconst (pc2 := 2) (v := 0) rfl dX12_main_1 (by decide) ?_
  refine AW_puti ⟨gfRX12_297, rfl, rfl⟩ (pc2 := 5) rfl dX12_main_2 q246 ?_
  refine EW_aload_n (pc2 := 6) rfl dX12_main_5 0 rfl ?_
  refine AW_geti ⟨gfRX12_386, rfl⟩ (pc2 := 9) rfl dX12_main_6 q246 ?_
  refine EW_bipush (pc2 := 11) (v := 6) rfl dX12_main_9 (by decide) ?_
  refine EW_icmp_eq (tgt := 26) (pc2 := 14) rfl dX12_main_11 (by decide) (fun q => ?_) (fun q => ?_)
  · replace h := h.1 q
    refine EW_iconst (pc2 := 27) (v := (-1)) rfl dX12_main_26 (by decide) ?_
    exact AW_iret rfl dX12_main_27 ⟨_, _, rfl, rfl, h⟩
  · replace h := h.2 q
    refine EW_iload_n (pc2 := 15) rfl dX12_main_14 1 rfl ?_
    refine EW_bipush (pc2 := 17) (v := 10) rfl dX12_main_15 (by decide) ?_
    refine EW_sipush (pc2 := 20) (v := 2000) rfl dX12_main_17 (by decide) ?_
    refine AW_invS (M' := MX12_isIn) [.int v1, .int 10, .int 2000] (rest := []) mlRX12_307 okX12_isIn (pc2 := 23) rfl dX12_main_20 rfl rfl (Nat.le_of_ble_eq_true rfl) (Nat.le_of_ble_eq_true rfl) (d' := 0) (by omega) (EW_mono (fun _ _ hr => ?_) (sX12_isIn v1 10 2000  (wr x 246 0 0) _ _ 0 0 (Nat.le_refl _) h))
    obtain ⟨r1, rfl, rfl, h⟩ := hr
    refine EW_if_ne (tgt := 28) (pc2 := 26) rfl dX12_main_23 (by decide) (fun q => ?_) (fun q => ?_)
    · replace h := h.1 q
      refine EW_aload_n (pc2 := 29) rfl dX12_main_28 0 rfl ?_
      refine AW_getr (r := 275) ⟨gfRX12_95, rfl⟩ (pc2 := 32) rfl dX12_main_29 q246 rfl ?_
      refine EW_aload_n (pc2 := 33) rfl dX12_main_32 0 rfl ?_
      refine AW_geti ⟨gfRX12_386, rfl⟩ (pc2 := 36) rfl dX12_main_33 q246 ?_
      refine EW_iload_n (pc2 := 37) rfl dX12_main_36 1 rfl ?_
      obtain ⟨b2, h⟩ := h
      refine AW_iast (pc2 := 38) rfl dX12_main_37 q275 b2 ?_
      refine EW_aload_n (pc2 := 39) rfl dX12_main_38 0 rfl ?_
      refine EW_dup (pc2 := 40) rfl dX12_main_39 rfl ?_
      refine AW_geti ⟨gfRX12_386, rfl⟩ (pc2 := 43) rfl dX12_main_40 q246 ?_
      refine EW_iconst (pc2 := 44) (v := 1) rfl dX12_main_43 (by decide) ?_
      refine EW_iadd (pc2 := 45) rfl dX12_main_44 ?_
      refine AW_puti ⟨gfRX12_386, rfl, rfl⟩ (pc2 := 48) rfl dX12_main_45 q246 ?_
      refine EW_aload_n (pc2 := 49) rfl dX12_main_48 0 rfl ?_
      refine AW_geti ⟨gfRX12_386, rfl⟩ (pc2 := 52) rfl dX12_main_49 q246 ?_
      refine EW_iconst (pc2 := 53) (v := 1) rfl dX12_main_52 (by decide) ?_
      refine EW_isub (pc2 := 54) rfl dX12_main_53 ?_
      exact AW_iret rfl dX12_main_54 ⟨_, _, rfl, rfl, h⟩
    · replace h := h.2 q
      refine EW_iconst (pc2 := 27) (v := (-1)) rfl dX12_main_26 (by decide) ?_
      exact AW_iret rfl dX12_main_27 ⟨_, _, rfl, rfl, h⟩
theorem mlRX12_408 : Cond.methodLink RX12 408 yX12_headFor ∈ ab_G ∧ Cond.instanceMethod yX12_headFor ∈ ab_G ∧ Cond.selects RX12 yX12_headFor yX12_headFor ∈ ab_G := ⟨ab_in 2385 (by decide +kernel) (by decide +kernel), ab_in 2387 (by decide +kernel) (by decide +kernel), ab_in 33 (by decide +kernel) (by decide +kernel)⟩
abbrev MX12_reachOf : ab_M := (yX12_reachOf, cX12_reachOf, 5, (some .int))
theorem dX12_reachOf_0 : decode cX12_reachOf 0 = .ok (.aload_n 0, 1) := by decide +kernel
theorem dX12_reachOf_1 : decode cX12_reachOf 1 = .ok (.iload_n 2, 1) := by decide +kernel
theorem dX12_reachOf_2 : decode cX12_reachOf 2 = .ok (.invokevirtual 408, 3) := by decide +kernel
theorem dX12_reachOf_5 : decode cX12_reachOf 5 = .ok (.istore_n 3, 1) := by decide +kernel
theorem dX12_reachOf_6 : decode cX12_reachOf 6 = .ok (.aload_n 0, 1) := by decide +kernel
theorem dX12_reachOf_7 : decode cX12_reachOf 7 = .ok (.getfield 107, 3) := by decide +kernel
theorem dX12_reachOf_10 : decode cX12_reachOf 10 = .ok (.iload_n 1, 1) := by decide +kernel
theorem dX12_reachOf_11 : decode cX12_reachOf 11 = .ok (.iaload, 1) := by decide +kernel
theorem dX12_reachOf_12 : decode cX12_reachOf 12 = .ok (.iconst 2, 1) := by decide +kernel
theorem dX12_reachOf_13 : decode cX12_reachOf 13 = .ok (.if_icmp .ge 8, 3) := by decide +kernel
theorem dX12_reachOf_16 : decode cX12_reachOf 16 = .ok (.iload_n 3, 1) := by decide +kernel
theorem dX12_reachOf_17 : decode cX12_reachOf 17 = .ok (.iconst (-1), 1) := by decide +kernel
theorem dX12_reachOf_18 : decode cX12_reachOf 18 = .ok (.if_icmp .ne 5, 3) := by decide +kernel
theorem dX12_reachOf_21 : decode cX12_reachOf 21 = .ok (.iconst (-1), 1) := by decide +kernel
theorem dX12_reachOf_22 : decode cX12_reachOf 22 = .ok (.ireturn, 1) := by decide +kernel
theorem dX12_reachOf_23 : decode cX12_reachOf 23 = .ok (.aload_n 0, 1) := by decide +kernel
theorem dX12_reachOf_24 : decode cX12_reachOf 24 = .ok (.getfield 38, 3) := by decide +kernel
theorem dX12_reachOf_27 : decode cX12_reachOf 27 = .ok (.iload_n 2, 1) := by decide +kernel
theorem dX12_reachOf_28 : decode cX12_reachOf 28 = .ok (.iaload, 1) := by decide +kernel
theorem dX12_reachOf_29 : decode cX12_reachOf 29 = .ok (.iconst 1, 1) := by decide +kernel
theorem dX12_reachOf_30 : decode cX12_reachOf 30 = .ok (.isub, 1) := by decide +kernel
theorem dX12_reachOf_31 : decode cX12_reachOf 31 = .ok (.istore 4, 2) := by decide +kernel
theorem dX12_reachOf_33 : decode cX12_reachOf 33 = .ok (.iload 4, 2) := by decide +kernel
theorem dX12_reachOf_35 : decode cX12_reachOf 35 = .ok (.ifCond .lt 45, 3) := by decide +kernel
theorem dX12_reachOf_38 : decode cX12_reachOf 38 = .ok (.bipush 100, 2) := by decide +kernel
theorem dX12_reachOf_40 : decode cX12_reachOf 40 = .ok (.aload_n 0, 1) := by decide +kernel
theorem dX12_reachOf_41 : decode cX12_reachOf 41 = .ok (.aload_n 0, 1) := by decide +kernel
theorem dX12_reachOf_42 : decode cX12_reachOf 42 = .ok (.getfield 98, 3) := by decide +kernel
theorem dX12_reachOf_45 : decode cX12_reachOf 45 = .ok (.iload_n 3, 1) := by decide +kernel
theorem dX12_reachOf_46 : decode cX12_reachOf 46 = .ok (.iaload, 1) := by decide +kernel
theorem dX12_reachOf_47 : decode cX12_reachOf 47 = .ok (.aload_n 0, 1) := by decide +kernel
theorem dX12_reachOf_48 : decode cX12_reachOf 48 = .ok (.getfield 32, 3) := by decide +kernel
theorem dX12_reachOf_51 : decode cX12_reachOf 51 = .ok (.iload_n 2, 1) := by decide +kernel
theorem dX12_reachOf_52 : decode cX12_reachOf 52 = .ok (.iaload, 1) := by decide +kernel
theorem dX12_reachOf_53 : decode cX12_reachOf 53 = .ok (.invokevirtual 328, 3) := by decide +kernel
theorem dX12_reachOf_56 : decode cX12_reachOf 56 = .ok (.imul, 1) := by decide +kernel
theorem dX12_reachOf_57 : decode cX12_reachOf 57 = .ok (.bipush 20, 2) := by decide +kernel
theorem dX12_reachOf_59 : decode cX12_reachOf 59 = .ok (.iload 4, 2) := by decide +kernel
theorem dX12_reachOf_61 : decode cX12_reachOf 61 = .ok (.iconst 1, 1) := by decide +kernel
theorem dX12_reachOf_62 : decode cX12_reachOf 62 = .ok (.iadd, 1) := by decide +kernel
theorem dX12_reachOf_63 : decode cX12_reachOf 63 = .ok (.imul, 1) := by decide +kernel
theorem dX12_reachOf_64 : decode cX12_reachOf 64 = .ok (.iadd, 1) := by decide +kernel
theorem dX12_reachOf_65 : decode cX12_reachOf 65 = .ok (.aload_n 0, 1) := by decide +kernel
theorem dX12_reachOf_66 : decode cX12_reachOf 66 = .ok (.getfield 119, 3) := by decide +kernel
theorem dX12_reachOf_69 : decode cX12_reachOf 69 = .ok (.iload_n 1, 1) := by decide +kernel
theorem dX12_reachOf_70 : decode cX12_reachOf 70 = .ok (.iaload, 1) := by decide +kernel
theorem dX12_reachOf_71 : decode cX12_reachOf 71 = .ok (.if_icmp .le 9, 3) := by decide +kernel
theorem dX12_reachOf_74 : decode cX12_reachOf 74 = .ok (.iinc 4 (-1), 3) := by decide +kernel
theorem dX12_reachOf_77 : decode cX12_reachOf 77 = .ok (.goto (-44), 3) := by decide +kernel
theorem dX12_reachOf_80 : decode cX12_reachOf 80 = .ok (.iload 4, 2) := by decide +kernel
theorem dX12_reachOf_82 : decode cX12_reachOf 82 = .ok (.ireturn, 1) := by decide +kernel
theorem okX12_reachOf : ab_okM MX12_reachOf 2 := ⟨by decide, ⟨by decide, by decide⟩, ab_in 2384 (by decide +kernel) (by decide +kernel), ab_in 99 (by decide +kernel) (by decide +kernel), by decide +kernel, by decide⟩
set_option maxHeartbeats 4000000 in
set_option maxRecDepth 100000 in
def lX12_reachOf_33 (v1 : Int32) (v2 : Int32) (v3 : Int32) (x : ab_X) (K : Int32 → Prop)  (L33 : Int32 → Prop) (v4 : Int32) : Prop := ((v4 < 0 → K v4) ∧ (¬ v4 < 0 → (vp_in v3 20 ∧ vp_in v2 12 ∧ wX12_walkOf (x.1 276 (Int32.toNatClampNeg v3)) (x.1 254 (Int32.toNatClampNeg v2)) x (fun r6 => (vp_in v1 16 ∧ ((((100 * r6) + (20 * (v4 + 1))) ≤ (x.1 283 (Int32.toNatClampNeg v1)) → K v4) ∧ (¬ ((100 * r6) + (20 * (v4 + 1))) ≤ (x.1 283 (Int32.toNatClampNeg v1)) → L33 (v4 + (-1)))))))))
set_option maxHeartbeats 4000000 in
set_option maxRecDepth 100000 in
theorem sX12_reachOf_33 (v1 : Int32) (v2 : Int32) (v3 : Int32) (v4 : Int32)  (x : ab_X) (K : Int32 → Prop)  (d bc bs : Nat) (hdp : 2 ≤ d)  (h : Lp1 (lX12_reachOf_33 v1 v2 v3 x K ) v4) : EW MX12_reachOf 33 [(0, .ref 246), (1, .int v1), (2, .int v2), (3, .int v3), (4, .int v4)] [] (aS x) d bc bs (liP x K) := by
  refine Lp1.use (P := fun v4 => EW MX12_reachOf 33 [(0, .ref 246), (1, .int v1), (2, .int v2), (3, .int v3), (4, .int v4)] [] (aS x) d bc bs (liP x K)) (fun L33 v4 hL33 h => ?_) v4 h
  unfold lX12_reachOf_33 at h
  refine EW_iload (pc2 := 35) rfl dX12_reachOf_33 4 rfl ?_
  refine EW_if_lt (tgt := 80) (pc2 := 38) rfl dX12_reachOf_35 (by decide) (fun q => ?_) (fun q => ?_)
  · replace h := h.1 q
    refine EW_iload (pc2 := 82) rfl dX12_reachOf_80 4 rfl ?_
    exact AW_iret rfl dX12_reachOf_82 ⟨_, rfl, rfl, h⟩
  · replace h := h.2 q
    refine EW_bipush (pc2 := 40) (v := 100) rfl dX12_reachOf_38 (by decide) ?_
    refine EW_aload_n (pc2 := 41) rfl dX12_reachOf_40 0 rfl ?_
    refine EW_aload_n (pc2 := 42) rfl dX12_reachOf_41 0 rfl ?_
    refine AW_getr (r := 276) ⟨gfRX12_98, rfl⟩ (pc2 := 45) rfl dX12_reachOf_42 q246 rfl ?_
    refine EW_iload_n (pc2 := 46) rfl dX12_reachOf_45 3 rfl ?_
    obtain ⟨b4, h⟩ := h
    refine AW_iald (pc2 := 47) rfl dX12_reachOf_46 q276 b4 ?_
    refine EW_aload_n (pc2 := 48) rfl dX12_reachOf_47 0 rfl ?_
    refine AW_getr (r := 254) ⟨gfRX12_32, rfl⟩ (pc2 := 51) rfl dX12_reachOf_48 q246 rfl ?_
    refine EW_iload_n (pc2 := 52) rfl dX12_reachOf_51 2 rfl ?_
    obtain ⟨b5, h⟩ := h
    refine AW_iald (pc2 := 53) rfl dX12_reachOf_52 q254 b5 ?_
    refine AW_invV (M' := MX12_walkOf) [.int (x.1 276 (Int32.toNatClampNeg v3)), .int (x.1 254 (Int32.toNatClampNeg v2))] (rest := [.int 100]) mlRX12_328 okX12_walkOf (pc2 := 56) rfl dX12_reachOf_53 rfl rfl (Nat.le_of_ble_eq_true rfl) (Nat.le_of_ble_eq_true rfl) (d' := 0) (by omega) q246 ⟨by decide, rfl⟩ (EW_mono (fun _ _ hr => ?_) (sX12_walkOf (x.1 276 (Int32.toNatClampNeg v3)) (x.1 254 (Int32.toNatClampNeg v2))  x _ _ 0 0 (Nat.le_refl _) h))
    obtain ⟨r6, rfl, rfl, h⟩ := hr
    refine EW_imul (pc2 := 57) rfl dX12_reachOf_56 ?_
    refine EW_bipush (pc2 := 59) (v := 20) rfl dX12_reachOf_57 (by decide) ?_
    refine EW_iload (pc2 := 61) rfl dX12_reachOf_59 4 rfl ?_
    refine EW_iconst (pc2 := 62) (v := 1) rfl dX12_reachOf_61 (by decide) ?_
    refine EW_iadd (pc2 := 63) rfl dX12_reachOf_62 ?_
    refine EW_imul (pc2 := 64) rfl dX12_reachOf_63 ?_
    refine EW_iadd (pc2 := 65) rfl dX12_reachOf_64 ?_
    refine EW_aload_n (pc2 := 66) rfl dX12_reachOf_65 0 rfl ?_
    refine AW_getr (r := 283) ⟨gfRX12_119, rfl⟩ (pc2 := 69) rfl dX12_reachOf_66 q246 rfl ?_
    refine EW_iload_n (pc2 := 70) rfl dX12_reachOf_69 1 rfl ?_
    obtain ⟨b7, h⟩ := h
    refine AW_iald (pc2 := 71) rfl dX12_reachOf_70 q283 b7 ?_
    refine EW_icmp_le (tgt := 80) (pc2 := 74) rfl dX12_reachOf_71 (by decide) (fun q => ?_) (fun q => ?_)
    · replace h := h.1 q
      refine EW_iload (pc2 := 82) rfl dX12_reachOf_80 4 rfl ?_
      exact AW_iret rfl dX12_reachOf_82 ⟨_, rfl, rfl, h⟩
    · replace h := h.2 q
      refine EW_iinc (v4 + (-1)) (pc2 := 77) rfl dX12_reachOf_74 4 rfl rfl (by decide) [1, 2, 3, 4, 0] [(0, .ref 246), (1, .int v1), (2, .int v2), (3, .int v3), (4, .int (v4 + (-1)))] rfl ?_
      refine EW_goto (tgt := 33) dX12_reachOf_77 (by decide) ?_
      exact hL33 (v4 + (-1)) h
set_option maxHeartbeats 4000000 in
set_option maxRecDepth 100000 in
def wX12_reachOf (v1 : Int32) (v2 : Int32) (x : ab_X) (K : Int32 → Prop) : Prop := wX12_headFor v2 x (fun r1 => (vp_in v1 16 ∧ ((2 ≤ (x.1 279 (Int32.toNatClampNeg v1)) → K (-1)) ∧ (¬ 2 ≤ (x.1 279 (Int32.toNatClampNeg v1)) → ((¬ r1 = (-1) → (vp_in v2 12 ∧ Lp1 (lX12_reachOf_33 v1 v2 r1 x K ) ((x.1 256 (Int32.toNatClampNeg v2)) - 1))) ∧ (r1 = (-1) → K (-1)))))))
set_option maxHeartbeats 4000000 in
set_option maxRecDepth 100000 in
theorem sX12_reachOf (v1 : Int32) (v2 : Int32)  (x : ab_X) (K : Int32 → Prop) (d bc bs : Nat) (hdp : 2 ≤ d) (h : wX12_reachOf v1 v2 x K) : EW MX12_reachOf 0 [(0, .ref 246), (1, .int v1), (2, .int v2)] [] (aS x) d bc bs (liP x K) := by
  unfold wX12_reachOf at h
  refine EW_aload_n (pc2 := 1) rfl dX12_reachOf_0 0 rfl ?_
  refine EW_iload_n (pc2 := 2) rfl dX12_reachOf_1 2 rfl ?_
  refine AW_invV (M' := MX12_headFor) [.int v2] (rest := []) mlRX12_408 okX12_headFor (pc2 := 5) rfl dX12_reachOf_2 rfl rfl (Nat.le_of_ble_eq_true rfl) (Nat.le_of_ble_eq_true rfl) (d' := 1) (by omega) q246 ⟨by decide, rfl⟩ (EW_mono (fun _ _ hr => ?_) (sX12_headFor v2  x _ _ 0 0 (Nat.le_refl _) h))
  obtain ⟨r1, rfl, rfl, h⟩ := hr
  refine EW_istore_n (pc2 := 6) rfl dX12_reachOf_5 (by decide) [1, 2, 3, 0] [(0, .ref 246), (1, .int v1), (2, .int v2), (3, .int r1)] rfl ?_
  refine EW_aload_n (pc2 := 7) rfl dX12_reachOf_6 0 rfl ?_
  refine AW_getr (r := 279) ⟨gfRX12_107, rfl⟩ (pc2 := 10) rfl dX12_reachOf_7 q246 rfl ?_
  refine EW_iload_n (pc2 := 11) rfl dX12_reachOf_10 1 rfl ?_
  obtain ⟨b2, h⟩ := h
  refine AW_iald (pc2 := 12) rfl dX12_reachOf_11 q279 b2 ?_
  refine EW_iconst (pc2 := 13) (v := 2) rfl dX12_reachOf_12 (by decide) ?_
  refine EW_icmp_ge (tgt := 21) (pc2 := 16) rfl dX12_reachOf_13 (by decide) (fun q => ?_) (fun q => ?_)
  · replace h := h.1 q
    refine EW_iconst (pc2 := 22) (v := (-1)) rfl dX12_reachOf_21 (by decide) ?_
    exact AW_iret rfl dX12_reachOf_22 ⟨_, rfl, rfl, h⟩
  · replace h := h.2 q
    refine EW_iload_n (pc2 := 17) rfl dX12_reachOf_16 3 rfl ?_
    refine EW_iconst (pc2 := 18) (v := (-1)) rfl dX12_reachOf_17 (by decide) ?_
    refine EW_icmp_ne (tgt := 23) (pc2 := 21) rfl dX12_reachOf_18 (by decide) (fun q => ?_) (fun q => ?_)
    · replace h := h.1 q
      refine EW_aload_n (pc2 := 24) rfl dX12_reachOf_23 0 rfl ?_
      refine AW_getr (r := 256) ⟨gfRX12_38, rfl⟩ (pc2 := 27) rfl dX12_reachOf_24 q246 rfl ?_
      refine EW_iload_n (pc2 := 28) rfl dX12_reachOf_27 2 rfl ?_
      obtain ⟨b3, h⟩ := h
      refine AW_iald (pc2 := 29) rfl dX12_reachOf_28 q256 b3 ?_
      refine EW_iconst (pc2 := 30) (v := 1) rfl dX12_reachOf_29 (by decide) ?_
      refine EW_isub (pc2 := 31) rfl dX12_reachOf_30 ?_
      refine EW_istore (pc2 := 33) rfl dX12_reachOf_31 (by decide) [1, 2, 3, 4, 0] [(0, .ref 246), (1, .int v1), (2, .int v2), (3, .int r1), (4, .int ((x.1 256 (Int32.toNatClampNeg v2)) - 1))] rfl ?_
      exact sX12_reachOf_33 v1 v2 r1 ((x.1 256 (Int32.toNatClampNeg v2)) - 1) x K d bc bs hdp h
    · replace h := h.2 q
      refine EW_iconst (pc2 := 22) (v := (-1)) rfl dX12_reachOf_21 (by decide) ?_
      exact AW_iret rfl dX12_reachOf_22 ⟨_, rfl, rfl, h⟩
abbrev MX12_wantedAt : ab_M := (yX12_wantedAt, cX12_wantedAt, 3, (some .int))
theorem dX12_wantedAt_0 : decode cX12_wantedAt 0 = .ok (.aload_n 0, 1) := by decide +kernel
theorem dX12_wantedAt_1 : decode cX12_wantedAt 1 = .ok (.getfield 68, 3) := by decide +kernel
theorem dX12_wantedAt_4 : decode cX12_wantedAt 4 = .ok (.bipush 24, 2) := by decide +kernel
theorem dX12_wantedAt_6 : decode cX12_wantedAt 6 = .ok (.iload_n 1, 1) := by decide +kernel
theorem dX12_wantedAt_7 : decode cX12_wantedAt 7 = .ok (.imul, 1) := by decide +kernel
theorem dX12_wantedAt_8 : decode cX12_wantedAt 8 = .ok (.iload_n 2, 1) := by decide +kernel
theorem dX12_wantedAt_9 : decode cX12_wantedAt 9 = .ok (.iadd, 1) := by decide +kernel
theorem dX12_wantedAt_10 : decode cX12_wantedAt 10 = .ok (.iaload, 1) := by decide +kernel
theorem dX12_wantedAt_11 : decode cX12_wantedAt 11 = .ok (.aload_n 0, 1) := by decide +kernel
theorem dX12_wantedAt_12 : decode cX12_wantedAt 12 = .ok (.getfield 74, 3) := by decide +kernel
theorem dX12_wantedAt_15 : decode cX12_wantedAt 15 = .ok (.bipush 24, 2) := by decide +kernel
theorem dX12_wantedAt_17 : decode cX12_wantedAt 17 = .ok (.iload_n 1, 1) := by decide +kernel
theorem dX12_wantedAt_18 : decode cX12_wantedAt 18 = .ok (.imul, 1) := by decide +kernel
theorem dX12_wantedAt_19 : decode cX12_wantedAt 19 = .ok (.iload_n 2, 1) := by decide +kernel
theorem dX12_wantedAt_20 : decode cX12_wantedAt 20 = .ok (.iadd, 1) := by decide +kernel
theorem dX12_wantedAt_21 : decode cX12_wantedAt 21 = .ok (.iaload, 1) := by decide +kernel
theorem dX12_wantedAt_22 : decode cX12_wantedAt 22 = .ok (.iconst 4, 1) := by decide +kernel
theorem dX12_wantedAt_23 : decode cX12_wantedAt 23 = .ok (.idiv, 1) := by decide +kernel
theorem dX12_wantedAt_24 : decode cX12_wantedAt 24 = .ok (.isub, 1) := by decide +kernel
theorem dX12_wantedAt_25 : decode cX12_wantedAt 25 = .ok (.ireturn, 1) := by decide +kernel
theorem okX12_wantedAt : ab_okM MX12_wantedAt 2 := ⟨by decide, ⟨by decide, by decide⟩, ab_in 2578 (by decide +kernel) (by decide +kernel), ab_in 99 (by decide +kernel) (by decide +kernel), by decide +kernel, by decide⟩
set_option maxHeartbeats 4000000 in
set_option maxRecDepth 100000 in
def wX12_wantedAt (v1 : Int32) (v2 : Int32) (x : ab_X) (K : Int32 → Prop) : Prop := (vp_in ((24 * v1) + v2) 288 ∧ vp_in ((24 * v1) + v2) 288 ∧ K ((x.1 266 (Int32.toNatClampNeg ((24 * v1) + v2))) - ((x.1 268 (Int32.toNatClampNeg ((24 * v1) + v2))) / 4)))
set_option maxHeartbeats 4000000 in
set_option maxRecDepth 100000 in
theorem sX12_wantedAt (v1 : Int32) (v2 : Int32)  (x : ab_X) (K : Int32 → Prop) (d bc bs : Nat) (hdp : 0 ≤ d) (h : wX12_wantedAt v1 v2 x K) : EW MX12_wantedAt 0 [(0, .ref 246), (1, .int v1), (2, .int v2)] [] (aS x) d bc bs (liP x K) := by
  unfold wX12_wantedAt at h
  refine EW_aload_n (pc2 := 1) rfl dX12_wantedAt_0 0 rfl ?_
  refine AW_getr (r := 266) ⟨gfRX12_68, rfl⟩ (pc2 := 4) rfl dX12_wantedAt_1 q246 rfl ?_
  refine EW_bipush (pc2 := 6) (v := 24) rfl dX12_wantedAt_4 (by decide) ?_
  refine EW_iload_n (pc2 := 7) rfl dX12_wantedAt_6 1 rfl ?_
  refine EW_imul (pc2 := 8) rfl dX12_wantedAt_7 ?_
  refine EW_iload_n (pc2 := 9) rfl dX12_wantedAt_8 2 rfl ?_
  refine EW_iadd (pc2 := 10) rfl dX12_wantedAt_9 ?_
  obtain ⟨b1, h⟩ := h
  refine AW_iald (pc2 := 11) rfl dX12_wantedAt_10 q266 b1 ?_
  refine EW_aload_n (pc2 := 12) rfl dX12_wantedAt_11 0 rfl ?_
  refine AW_getr (r := 268) ⟨gfRX12_74, rfl⟩ (pc2 := 15) rfl dX12_wantedAt_12 q246 rfl ?_
  refine EW_bipush (pc2 := 17) (v := 24) rfl dX12_wantedAt_15 (by decide) ?_
  refine EW_iload_n (pc2 := 18) rfl dX12_wantedAt_17 1 rfl ?_
  refine EW_imul (pc2 := 19) rfl dX12_wantedAt_18 ?_
  refine EW_iload_n (pc2 := 20) rfl dX12_wantedAt_19 2 rfl ?_
  refine EW_iadd (pc2 := 21) rfl dX12_wantedAt_20 ?_
  obtain ⟨b2, h⟩ := h
  refine AW_iald (pc2 := 22) rfl dX12_wantedAt_21 q268 b2 ?_
  refine EW_iconst (pc2 := 23) (v := 4) rfl dX12_wantedAt_22 (by decide) ?_
  refine EW_idiv (pc2 := 24) rfl dX12_wantedAt_23 (by decide) ?_
  refine EW_isub (pc2 := 25) rfl dX12_wantedAt_24 ?_
  exact AW_iret rfl dX12_wantedAt_25 ⟨_, rfl, rfl, h⟩
theorem mlRX12_568 : Cond.methodLink RX12 568 yX12_wantedAt ∈ ab_G ∧ Cond.instanceMethod yX12_wantedAt ∈ ab_G ∧ Cond.selects RX12 yX12_wantedAt yX12_wantedAt ∈ ab_G := ⟨ab_in 2575 (by decide +kernel) (by decide +kernel), ab_in 2577 (by decide +kernel) (by decide +kernel), ab_in 64 (by decide +kernel) (by decide +kernel)⟩
theorem mlRX12_411 : Cond.methodLink RX12 411 yX12_reachOf ∈ ab_G ∧ Cond.instanceMethod yX12_reachOf ∈ ab_G ∧ Cond.selects RX12 yX12_reachOf yX12_reachOf ∈ ab_G := ⟨ab_in 2381 (by decide +kernel) (by decide +kernel), ab_in 2383 (by decide +kernel) (by decide +kernel), ab_in 32 (by decide +kernel) (by decide +kernel)⟩
theorem mlRX12_565 : Cond.methodLink RX12 565 yX12_hasChief ∈ ab_G ∧ Cond.instanceMethod yX12_hasChief ∈ ab_G ∧ Cond.selects RX12 yX12_hasChief yX12_hasChief ∈ ab_G := ⟨ab_in 2571 (by decide +kernel) (by decide +kernel), ab_in 2573 (by decide +kernel) (by decide +kernel), ab_in 63 (by decide +kernel) (by decide +kernel)⟩
abbrev MX12_roomFor : ab_M := (yX12_roomFor, cX12_roomFor, 7, (some .int))
theorem dX12_roomFor_0 : decode cX12_roomFor 0 = .ok (.aload_n 0, 1) := by decide +kernel
theorem dX12_roomFor_1 : decode cX12_roomFor 1 = .ok (.iload_n 1, 1) := by decide +kernel
theorem dX12_roomFor_2 : decode cX12_roomFor 2 = .ok (.iload_n 2, 1) := by decide +kernel
theorem dX12_roomFor_3 : decode cX12_roomFor 3 = .ok (.invokevirtual 411, 3) := by decide +kernel
theorem dX12_roomFor_6 : decode cX12_roomFor 6 = .ok (.istore_n 3, 1) := by decide +kernel
theorem dX12_roomFor_7 : decode cX12_roomFor 7 = .ok (.aload_n 0, 1) := by decide +kernel
theorem dX12_roomFor_8 : decode cX12_roomFor 8 = .ok (.iload_n 2, 1) := by decide +kernel
theorem dX12_roomFor_9 : decode cX12_roomFor 9 = .ok (.invokevirtual 565, 3) := by decide +kernel
theorem dX12_roomFor_12 : decode cX12_roomFor 12 = .ok (.istore 4, 2) := by decide +kernel
theorem dX12_roomFor_14 : decode cX12_roomFor 14 = .ok (.iconst (-1), 1) := by decide +kernel
theorem dX12_roomFor_15 : decode cX12_roomFor 15 = .ok (.istore 5, 2) := by decide +kernel
theorem dX12_roomFor_17 : decode cX12_roomFor 17 = .ok (.iconst 0, 1) := by decide +kernel
theorem dX12_roomFor_18 : decode cX12_roomFor 18 = .ok (.istore 6, 2) := by decide +kernel
theorem dX12_roomFor_20 : decode cX12_roomFor 20 = .ok (.iload 6, 2) := by decide +kernel
theorem dX12_roomFor_22 : decode cX12_roomFor 22 = .ok (.aload_n 0, 1) := by decide +kernel
theorem dX12_roomFor_23 : decode cX12_roomFor 23 = .ok (.getfield 38, 3) := by decide +kernel
theorem dX12_roomFor_26 : decode cX12_roomFor 26 = .ok (.iload_n 2, 1) := by decide +kernel
theorem dX12_roomFor_27 : decode cX12_roomFor 27 = .ok (.iaload, 1) := by decide +kernel
theorem dX12_roomFor_28 : decode cX12_roomFor 28 = .ok (.aload_n 0, 1) := by decide +kernel
theorem dX12_roomFor_29 : decode cX12_roomFor 29 = .ok (.getfield 41, 3) := by decide +kernel
theorem dX12_roomFor_32 : decode cX12_roomFor 32 = .ok (.iload_n 2, 1) := by decide +kernel
theorem dX12_roomFor_33 : decode cX12_roomFor 33 = .ok (.iaload, 1) := by decide +kernel
theorem dX12_roomFor_34 : decode cX12_roomFor 34 = .ok (.imul, 1) := by decide +kernel
theorem dX12_roomFor_35 : decode cX12_roomFor 35 = .ok (.if_icmp .ge 65, 3) := by decide +kernel
theorem dX12_roomFor_38 : decode cX12_roomFor 38 = .ok (.aload_n 0, 1) := by decide +kernel
theorem dX12_roomFor_39 : decode cX12_roomFor 39 = .ok (.iload_n 2, 1) := by decide +kernel
theorem dX12_roomFor_40 : decode cX12_roomFor 40 = .ok (.iload 6, 2) := by decide +kernel
theorem dX12_roomFor_42 : decode cX12_roomFor 42 = .ok (.invokevirtual 345, 3) := by decide +kernel
theorem dX12_roomFor_45 : decode cX12_roomFor 45 = .ok (.iload_n 3, 1) := by decide +kernel
theorem dX12_roomFor_46 : decode cX12_roomFor 46 = .ok (.if_icmp .gt 48, 3) := by decide +kernel
theorem dX12_roomFor_49 : decode cX12_roomFor 49 = .ok (.aload_n 0, 1) := by decide +kernel
theorem dX12_roomFor_50 : decode cX12_roomFor 50 = .ok (.iload_n 2, 1) := by decide +kernel
theorem dX12_roomFor_51 : decode cX12_roomFor 51 = .ok (.iload 6, 2) := by decide +kernel
theorem dX12_roomFor_53 : decode cX12_roomFor 53 = .ok (.invokevirtual 348, 3) := by decide +kernel
theorem dX12_roomFor_56 : decode cX12_roomFor 56 = .ok (.ifCond .ne 6, 3) := by decide +kernel
theorem dX12_roomFor_59 : decode cX12_roomFor 59 = .ok (.goto 35, 3) := by decide +kernel
theorem dX12_roomFor_62 : decode cX12_roomFor 62 = .ok (.iload 5, 2) := by decide +kernel
theorem dX12_roomFor_64 : decode cX12_roomFor 64 = .ok (.iconst (-1), 1) := by decide +kernel
theorem dX12_roomFor_65 : decode cX12_roomFor 65 = .ok (.if_icmp .eq 25, 3) := by decide +kernel
theorem dX12_roomFor_68 : decode cX12_roomFor 68 = .ok (.iload 4, 2) := by decide +kernel
theorem dX12_roomFor_70 : decode cX12_roomFor 70 = .ok (.ifCond .eq 24, 3) := by decide +kernel
theorem dX12_roomFor_73 : decode cX12_roomFor 73 = .ok (.aload_n 0, 1) := by decide +kernel
theorem dX12_roomFor_74 : decode cX12_roomFor 74 = .ok (.iload_n 2, 1) := by decide +kernel
theorem dX12_roomFor_75 : decode cX12_roomFor 75 = .ok (.iload 6, 2) := by decide +kernel
theorem dX12_roomFor_77 : decode cX12_roomFor 77 = .ok (.invokevirtual 568, 3) := by decide +kernel
theorem dX12_roomFor_80 : decode cX12_roomFor 80 = .ok (.aload_n 0, 1) := by decide +kernel
theorem dX12_roomFor_81 : decode cX12_roomFor 81 = .ok (.iload_n 2, 1) := by decide +kernel
theorem dX12_roomFor_82 : decode cX12_roomFor 82 = .ok (.iload 5, 2) := by decide +kernel
theorem dX12_roomFor_84 : decode cX12_roomFor 84 = .ok (.invokevirtual 568, 3) := by decide +kernel
theorem dX12_roomFor_87 : decode cX12_roomFor 87 = .ok (.if_icmp .le 7, 3) := by decide +kernel
theorem dX12_roomFor_90 : decode cX12_roomFor 90 = .ok (.iload 6, 2) := by decide +kernel
theorem dX12_roomFor_92 : decode cX12_roomFor 92 = .ok (.istore 5, 2) := by decide +kernel
theorem dX12_roomFor_94 : decode cX12_roomFor 94 = .ok (.iinc 6 1, 3) := by decide +kernel
theorem dX12_roomFor_97 : decode cX12_roomFor 97 = .ok (.goto (-77), 3) := by decide +kernel
theorem dX12_roomFor_100 : decode cX12_roomFor 100 = .ok (.iload 5, 2) := by decide +kernel
theorem dX12_roomFor_102 : decode cX12_roomFor 102 = .ok (.ireturn, 1) := by decide +kernel
theorem okX12_roomFor : ab_okM MX12_roomFor 2 := ⟨by decide, ⟨by decide, by decide⟩, ab_in 2570 (by decide +kernel) (by decide +kernel), ab_in 99 (by decide +kernel) (by decide +kernel), by decide +kernel, by decide⟩
set_option maxHeartbeats 4000000 in
set_option maxRecDepth 100000 in
def wX12_roomFor_90 (v2 : Int32) (v3 : Int32) (v4 : Int32) (v6 : Int32) (x : ab_X) (K : Int32 → Prop) (L20 : Int32 → Int32 → Prop) : Prop := L20 v6 (v6 + 1)
set_option maxHeartbeats 4000000 in
set_option maxRecDepth 100000 in
theorem sX12_roomFor_90 (v2 : Int32) (v3 : Int32) (v4 : Int32) (v6 : Int32)  (x : ab_X) (K : Int32 → Prop) (L20 : Int32 → Int32 → Prop) (d bc bs : Nat) (hdp : 3 ≤ d) (hL20 : ∀ (v5 : Int32) (v6 : Int32), L20 v5 v6 → EW MX12_roomFor 20 [(0, .ref 246), (2, .int v2), (3, .int v3), (4, .int v4), (5, .int v5), (6, .int v6)] [] (aS x) d bc bs (liP x K)) (h : wX12_roomFor_90 v2 v3 v4 v6 x K L20) : EW MX12_roomFor 90 [(0, .ref 246), (2, .int v2), (3, .int v3), (4, .int v4), (6, .int v6)] [] (aS x) d bc bs (liP x K) := by
  unfold wX12_roomFor_90 at h
  refine EW_iload (pc2 := 92) rfl dX12_roomFor_90 4 rfl ?_
  refine EW_istore (pc2 := 94) rfl dX12_roomFor_92 (by decide) [1, 2, 3, 4, 0, 5] [(0, .ref 246), (2, .int v2), (3, .int v3), (4, .int v4), (5, .int v6), (6, .int v6)] rfl ?_
  refine EW_iinc (v6 + 1) (pc2 := 97) rfl dX12_roomFor_94 5 rfl rfl (by decide) [1, 2, 3, 4, 5, 0] [(0, .ref 246), (2, .int v2), (3, .int v3), (4, .int v4), (5, .int v6), (6, .int (v6 + 1))] rfl ?_
  refine EW_goto (tgt := 20) dX12_roomFor_97 (by decide) ?_
  exact hL20 v6 (v6 + 1) h
set_option maxHeartbeats 4000000 in
set_option maxRecDepth 100000 in
def lX12_roomFor_20 (v2 : Int32) (v3 : Int32) (v4 : Int32) (x : ab_X) (K : Int32 → Prop)  (L20 : Int32 → Int32 → Prop) (v5 : Int32) (v6 : Int32) : Prop := (vp_in v2 12 ∧ vp_in v2 12 ∧ ((((x.1 256 (Int32.toNatClampNeg v2)) * (x.1 257 (Int32.toNatClampNeg v2))) ≤ v6 → K v5) ∧ (¬ ((x.1 256 (Int32.toNatClampNeg v2)) * (x.1 257 (Int32.toNatClampNeg v2))) ≤ v6 → wX12_floorOf v2 v6 x (fun r5 => ((v3 < r5 → L20 v5 (v6 + 1)) ∧ (¬ v3 < r5 → wX12_burns v2 v6 x (fun r6 => ((¬ r6 = 0 → ((v5 = (-1) → wX12_roomFor_90 v2 v3 v4 v6 x K L20) ∧ (¬ v5 = (-1) → ((v4 = 0 → L20 v5 (v6 + 1)) ∧ (¬ v4 = 0 → wX12_wantedAt v2 v6 x (fun r7 => wX12_wantedAt v2 v5 x (fun r8 => ((r7 ≤ r8 → L20 v5 (v6 + 1)) ∧ (¬ r7 ≤ r8 → wX12_roomFor_90 v2 v3 v4 v6 x K L20))))))))) ∧ (r6 = 0 → L20 v5 (v6 + 1))))))))))
set_option maxHeartbeats 4000000 in
set_option maxRecDepth 100000 in
theorem sX12_roomFor_20 (v2 : Int32) (v3 : Int32) (v4 : Int32) (v5 : Int32) (v6 : Int32)  (x : ab_X) (K : Int32 → Prop)  (d bc bs : Nat) (hdp : 3 ≤ d)  (h : Lp2 (lX12_roomFor_20 v2 v3 v4 x K ) v5 v6) : EW MX12_roomFor 20 [(0, .ref 246), (2, .int v2), (3, .int v3), (4, .int v4), (5, .int v5), (6, .int v6)] [] (aS x) d bc bs (liP x K) := by
  refine Lp2.use (P := fun v5 v6 => EW MX12_roomFor 20 [(0, .ref 246), (2, .int v2), (3, .int v3), (4, .int v4), (5, .int v5), (6, .int v6)] [] (aS x) d bc bs (liP x K)) (fun L20 v5 v6 hL20 h => ?_) v5 v6 h
  unfold lX12_roomFor_20 at h
  refine EW_iload (pc2 := 22) rfl dX12_roomFor_20 5 rfl ?_
  refine EW_aload_n (pc2 := 23) rfl dX12_roomFor_22 0 rfl ?_
  refine AW_getr (r := 256) ⟨gfRX12_38, rfl⟩ (pc2 := 26) rfl dX12_roomFor_23 q246 rfl ?_
  refine EW_iload_n (pc2 := 27) rfl dX12_roomFor_26 1 rfl ?_
  obtain ⟨b3, h⟩ := h
  refine AW_iald (pc2 := 28) rfl dX12_roomFor_27 q256 b3 ?_
  refine EW_aload_n (pc2 := 29) rfl dX12_roomFor_28 0 rfl ?_
  refine AW_getr (r := 257) ⟨gfRX12_41, rfl⟩ (pc2 := 32) rfl dX12_roomFor_29 q246 rfl ?_
  refine EW_iload_n (pc2 := 33) rfl dX12_roomFor_32 1 rfl ?_
  obtain ⟨b4, h⟩ := h
  refine AW_iald (pc2 := 34) rfl dX12_roomFor_33 q257 b4 ?_
  refine EW_imul (pc2 := 35) rfl dX12_roomFor_34 ?_
  refine EW_icmp_ge (tgt := 100) (pc2 := 38) rfl dX12_roomFor_35 (by decide) (fun q => ?_) (fun q => ?_)
  · replace h := h.1 q
    refine EW_iload (pc2 := 102) rfl dX12_roomFor_100 4 rfl ?_
    exact AW_iret rfl dX12_roomFor_102 ⟨_, rfl, rfl, h⟩
  · replace h := h.2 q
    refine EW_aload_n (pc2 := 39) rfl dX12_roomFor_38 0 rfl ?_
    refine EW_iload_n (pc2 := 40) rfl dX12_roomFor_39 1 rfl ?_
    refine EW_iload (pc2 := 42) rfl dX12_roomFor_40 5 rfl ?_
    refine AW_invV (M' := MX12_floorOf) [.int v2, .int v6] (rest := []) mlRX12_345 okX12_floorOf (pc2 := 45) rfl dX12_roomFor_42 rfl rfl (Nat.le_of_ble_eq_true rfl) (Nat.le_of_ble_eq_true rfl) (d' := 0) (by omega) q246 ⟨by decide, rfl⟩ (EW_mono (fun _ _ hr => ?_) (sX12_floorOf v2 v6  x _ _ 0 0 (Nat.le_refl _) h))
    obtain ⟨r5, rfl, rfl, h⟩ := hr
    refine EW_iload_n (pc2 := 46) rfl dX12_roomFor_45 2 rfl ?_
    refine EW_icmp_gt (tgt := 94) (pc2 := 49) rfl dX12_roomFor_46 (by decide) (fun q => ?_) (fun q => ?_)
    · replace h := h.1 q
      refine EW_iinc (v6 + 1) (pc2 := 97) rfl dX12_roomFor_94 5 rfl rfl (by decide) [1, 2, 3, 4, 5, 0] [(0, .ref 246), (2, .int v2), (3, .int v3), (4, .int v4), (5, .int v5), (6, .int (v6 + 1))] rfl ?_
      refine EW_goto (tgt := 20) dX12_roomFor_97 (by decide) ?_
      exact hL20 v5 (v6 + 1) h
    · replace h := h.2 q
      refine EW_aload_n (pc2 := 50) rfl dX12_roomFor_49 0 rfl ?_
      refine EW_iload_n (pc2 := 51) rfl dX12_roomFor_50 1 rfl ?_
      refine EW_iload (pc2 := 53) rfl dX12_roomFor_51 5 rfl ?_
      refine AW_invV (M' := MX12_burns) [.int v2, .int v6] (rest := []) mlRX12_348 okX12_burns (pc2 := 56) rfl dX12_roomFor_53 rfl rfl (Nat.le_of_ble_eq_true rfl) (Nat.le_of_ble_eq_true rfl) (d' := 1) (by omega) q246 ⟨by decide, rfl⟩ (EW_mono (fun _ _ hr => ?_) (sX12_burns v2 v6  x _ _ 0 0 (Nat.le_refl _) h))
      obtain ⟨r6, rfl, rfl, h⟩ := hr
      refine EW_if_ne (tgt := 62) (pc2 := 59) rfl dX12_roomFor_56 (by decide) (fun q => ?_) (fun q => ?_)
      · replace h := h.1 q
        refine EW_iload (pc2 := 64) rfl dX12_roomFor_62 4 rfl ?_
        refine EW_iconst (pc2 := 65) (v := (-1)) rfl dX12_roomFor_64 (by decide) ?_
        refine EW_icmp_eq (tgt := 90) (pc2 := 68) rfl dX12_roomFor_65 (by decide) (fun q => ?_) (fun q => ?_)
        · replace h := h.1 q
          refine EW_ls [0, 1, 2, 3, 5] rfl ?_
          exact sX12_roomFor_90 v2 v3 v4 v6 x K L20 d bc bs hdp hL20 h
        · replace h := h.2 q
          refine EW_iload (pc2 := 70) rfl dX12_roomFor_68 3 rfl ?_
          refine EW_if_eq (tgt := 94) (pc2 := 73) rfl dX12_roomFor_70 (by decide) (fun q => ?_) (fun q => ?_)
          · replace h := h.1 q
            refine EW_iinc (v6 + 1) (pc2 := 97) rfl dX12_roomFor_94 5 rfl rfl (by decide) [1, 2, 3, 4, 5, 0] [(0, .ref 246), (2, .int v2), (3, .int v3), (4, .int v4), (5, .int v5), (6, .int (v6 + 1))] rfl ?_
            refine EW_goto (tgt := 20) dX12_roomFor_97 (by decide) ?_
            exact hL20 v5 (v6 + 1) h
          · replace h := h.2 q
            refine EW_aload_n (pc2 := 74) rfl dX12_roomFor_73 0 rfl ?_
            refine EW_iload_n (pc2 := 75) rfl dX12_roomFor_74 1 rfl ?_
            refine EW_iload (pc2 := 77) rfl dX12_roomFor_75 5 rfl ?_
            refine AW_invV (M' := MX12_wantedAt) [.int v2, .int v6] (rest := []) mlRX12_568 okX12_wantedAt (pc2 := 80) rfl dX12_roomFor_77 rfl rfl (Nat.le_of_ble_eq_true rfl) (Nat.le_of_ble_eq_true rfl) (d' := 0) (by omega) q246 ⟨by decide, rfl⟩ (EW_mono (fun _ _ hr => ?_) (sX12_wantedAt v2 v6  x _ _ 0 0 (Nat.le_refl _) h))
            obtain ⟨r7, rfl, rfl, h⟩ := hr
            refine EW_aload_n (pc2 := 81) rfl dX12_roomFor_80 0 rfl ?_
            refine EW_iload_n (pc2 := 82) rfl dX12_roomFor_81 1 rfl ?_
            refine EW_iload (pc2 := 84) rfl dX12_roomFor_82 4 rfl ?_
            refine AW_invV (M' := MX12_wantedAt) [.int v2, .int v5] (rest := [.int r7]) mlRX12_568 okX12_wantedAt (pc2 := 87) rfl dX12_roomFor_84 rfl rfl (Nat.le_of_ble_eq_true rfl) (Nat.le_of_ble_eq_true rfl) (d' := 0) (by omega) q246 ⟨by decide, rfl⟩ (EW_mono (fun _ _ hr => ?_) (sX12_wantedAt v2 v5  x _ _ 0 0 (Nat.le_refl _) h))
            obtain ⟨r8, rfl, rfl, h⟩ := hr
            refine EW_icmp_le (tgt := 94) (pc2 := 90) rfl dX12_roomFor_87 (by decide) (fun q => ?_) (fun q => ?_)
            · replace h := h.1 q
              refine EW_iinc (v6 + 1) (pc2 := 97) rfl dX12_roomFor_94 5 rfl rfl (by decide) [1, 2, 3, 4, 5, 0] [(0, .ref 246), (2, .int v2), (3, .int v3), (4, .int v4), (5, .int v5), (6, .int (v6 + 1))] rfl ?_
              refine EW_goto (tgt := 20) dX12_roomFor_97 (by decide) ?_
              exact hL20 v5 (v6 + 1) h
            · replace h := h.2 q
              refine EW_ls [0, 1, 2, 3, 5] rfl ?_
              exact sX12_roomFor_90 v2 v3 v4 v6 x K L20 d bc bs hdp hL20 h
      · replace h := h.2 q
        refine EW_goto (tgt := 94) dX12_roomFor_59 (by decide) ?_
        refine EW_iinc (v6 + 1) (pc2 := 97) rfl dX12_roomFor_94 5 rfl rfl (by decide) [1, 2, 3, 4, 5, 0] [(0, .ref 246), (2, .int v2), (3, .int v3), (4, .int v4), (5, .int v5), (6, .int (v6 + 1))] rfl ?_
        refine EW_goto (tgt := 20) dX12_roomFor_97 (by decide) ?_
        exact hL20 v5 (v6 + 1) h
set_option maxHeartbeats 4000000 in
set_option maxRecDepth 100000 in
def wX12_roomFor (v1 : Int32) (v2 : Int32) (x : ab_X) (K : Int32 → Prop) : Prop := wX12_reachOf v1 v2 x (fun r1 => wX12_hasChief v2 x (fun r2 => Lp2 (lX12_roomFor_20 v2 r1 r2 x K ) (-1) 0))
set_option maxHeartbeats 4000000 in
set_option maxRecDepth 100000 in
theorem sX12_roomFor (v1 : Int32) (v2 : Int32)  (x : ab_X) (K : Int32 → Prop) (d bc bs : Nat) (hdp : 3 ≤ d) (h : wX12_roomFor v1 v2 x K) : EW MX12_roomFor 0 [(0, .ref 246), (1, .int v1), (2, .int v2)] [] (aS x) d bc bs (liP x K) := by
  unfold wX12_roomFor at h
  refine EW_aload_n (pc2 := 1) rfl dX12_roomFor_0 0 rfl ?_
  refine EW_iload_n (pc2 := 2) rfl dX12_roomFor_1 1 rfl ?_
  refine EW_iload_n (pc2 := 3) rfl dX12_roomFor_2 2 rfl ?_
  refine AW_invV (M' := MX12_reachOf) [.int v1, .int v2] (rest := []) mlRX12_411 okX12_reachOf (pc2 := 6) rfl dX12_roomFor_3 rfl rfl (Nat.le_of_ble_eq_true rfl) (Nat.le_of_ble_eq_true rfl) (d' := 2) (by omega) q246 ⟨by decide, rfl⟩ (EW_mono (fun _ _ hr => ?_) (sX12_reachOf v1 v2  x _ _ 0 0 (Nat.le_refl _) h))
  obtain ⟨r1, rfl, rfl, h⟩ := hr
  refine EW_istore_n (pc2 := 7) rfl dX12_roomFor_6 (by decide) [1, 2, 3, 0] [(0, .ref 246), (1, .int v1), (2, .int v2), (3, .int r1)] rfl ?_
  refine EW_aload_n (pc2 := 8) rfl dX12_roomFor_7 0 rfl ?_
  refine EW_iload_n (pc2 := 9) rfl dX12_roomFor_8 2 rfl ?_
  refine AW_invV (M' := MX12_hasChief) [.int v2] (rest := []) mlRX12_565 okX12_hasChief (pc2 := 12) rfl dX12_roomFor_9 rfl rfl (Nat.le_of_ble_eq_true rfl) (Nat.le_of_ble_eq_true rfl) (d' := 0) (by omega) q246 ⟨by decide, rfl⟩ (EW_mono (fun _ _ hr => ?_) (sX12_hasChief v2  x _ _ 0 0 (Nat.le_refl _) h))
  obtain ⟨r2, rfl, rfl, h⟩ := hr
  refine EW_istore (pc2 := 14) rfl dX12_roomFor_12 (by decide) [1, 2, 3, 4, 0] [(0, .ref 246), (1, .int v1), (2, .int v2), (3, .int r1), (4, .int r2)] rfl ?_
  refine EW_iconst (pc2 := 15) (v := (-1)) rfl dX12_roomFor_14 (by decide) ?_
  refine EW_istore (pc2 := 17) rfl dX12_roomFor_15 (by decide) [1, 2, 3, 4, 5, 0] [(0, .ref 246), (1, .int v1), (2, .int v2), (3, .int r1), (4, .int r2), (5, .int (-1))] rfl ?_
  refine EW_iconst (pc2 := 18) (v := 0) rfl dX12_roomFor_17 (by decide) ?_
  refine EW_istore (pc2 := 20) rfl dX12_roomFor_18 (by decide) [1, 2, 3, 4, 5, 6, 0] [(0, .ref 246), (1, .int v1), (2, .int v2), (3, .int r1), (4, .int r2), (5, .int (-1)), (6, .int 0)] rfl ?_
  refine EW_ls [0, 2, 3, 4, 5, 6] rfl ?_
  exact sX12_roomFor_20 v2 r1 r2 (-1) 0 x K d bc bs hdp h
