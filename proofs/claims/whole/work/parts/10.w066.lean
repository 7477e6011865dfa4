theorem gfRX12_98 : ab_L RX12 98 12 33 := ⟨by decide, by decide, ab_in 1882 (by decide +kernel) (by decide +kernel)⟩
theorem gfRX12_101 : ab_L RX12 101 12 34 := ⟨by decide, by decide, ab_in 1883 (by decide +kernel) (by decide +kernel)⟩
abbrev MX12_head : ab_M := (yX12_head, cX12_head, 3, (some .int))
theorem dX12_head_0 : decode cX12_head 0 = .ok (.aload_n 0, 1) := by decide +kernel
theorem dX12_head_1 : decode cX12_head 1 = .ok (.iconst 0, 1) := by decide +kernel
theorem dX12_head_2 : decode cX12_head 2 = .ok (.putfield 297, 3) := by decide +kernel
theorem dX12_head_5 : decode cX12_head 5 = .ok (.aload_n 0, 1) := by decide +kernel
theorem dX12_head_6 : decode cX12_head 6 = .ok (.getfield 389, 3) := by decide +kernel
theorem dX12_head_9 : decode cX12_head 9 = .ok (.bipush 20, 2) := by decide +kernel
theorem dX12_head_11 : decode cX12_head 11 = .ok (.if_icmp .eq 24, 3) := by decide +kernel
theorem dX12_head_14 : decode cX12_head 14 = .ok (.iload_n 1, 1) := by decide +kernel
theorem dX12_head_15 : decode cX12_head 15 = .ok (.invokestatic 303, 3) := by decide +kernel
theorem dX12_head_18 : decode cX12_head 18 = .ok (.ifCond .eq 17, 3) := by decide +kernel
theorem dX12_head_21 : decode cX12_head 21 = .ok (.iload_n 2, 1) := by decide +kernel
theorem dX12_head_22 : decode cX12_head 22 = .ok (.iconst 0, 1) := by decide +kernel
theorem dX12_head_23 : decode cX12_head 23 = .ok (.aload_n 0, 1) := by decide +kernel
theorem dX12_head_24 : decode cX12_head 24 = .ok (.getfield 386, 3) := by decide +kernel
theorem dX12_head_27 : decode cX12_head 27 = .ok (.iconst 1, 1) := by decide +kernel
theorem dX12_head_28 : decode cX12_head 28 = .ok (.isub, 1) := by decide +kernel
theorem dX12_head_29 : decode cX12_head 29 = .ok (.invokestatic 307, 3) := by decide +kernel
theorem dX12_head_32 : decode cX12_head 32 = .ok (.ifCond .ne 5, 3) := by decide +kernel
theorem dX12_head_35 : decode cX12_head 35 = .ok (.iconst (-1), 1) := by decide +kernel
theorem dX12_head_36 : decode cX12_head 36 = .ok (.ireturn, 1) := by decide +kernel
theorem dX12_head_37 : decode cX12_head 37 = .ok (.aload_n 0, 1) := by decide +kernel
theorem dX12_head_38 : decode cX12_head 38 = .ok (.getfield 98, 3) := by decide +kernel
theorem dX12_head_41 : decode cX12_head 41 = .ok (.aload_n 0, 1) := by decide +kernel
theorem dX12_head_42 : decode cX12_head 42 = .ok (.getfield 389, 3) := by decide +kernel
theorem dX12_head_45 : decode cX12_head 45 = .ok (.iload_n 1, 1) := by decide +kernel
theorem dX12_head_46 : decode cX12_head 46 = .ok (.iastore, 1) := by decide +kernel
theorem dX12_head_47 : decode cX12_head 47 = .ok (.aload_n 0, 1) := by decide +kernel
theorem dX12_head_48 : decode cX12_head 48 = .ok (.getfield 101, 3) := by decide +kernel
theorem dX12_head_51 : decode cX12_head 51 = .ok (.aload_n 0, 1) := by decide +kernel
theorem dX12_head_52 : decode cX12_head 52 = .ok (.getfield 389, 3) := by decide +kernel
theorem dX12_head_55 : decode cX12_head 55 = .ok (.iload_n 2, 1) := by decide +kernel
theorem dX12_head_56 : decode cX12_head 56 = .ok (.iastore, 1) := by decide +kernel
theorem dX12_head_57 : decode cX12_head 57 = .ok (.aload_n 0, 1) := by decide +kernel
theorem dX12_head_58 : decode cX12_head 58 = .ok (.dup, 1) := by decide +kernel
theorem dX12_head_59 : decode cX12_head 59 = .ok (.getfield 389, 3) := by decide +kernel
theorem dX12_head_62 : decode cX12_head 62 = .ok (.iconst 1, 1) := by decide +kernel
theorem dX12_head_63 : decode cX12_head 63 = .ok (.iadd, 1) := by decide +kernel
theorem dX12_head_64 : decode cX12_head 64 = .ok (.putfield 389, 3) := by decide +kernel
theorem dX12_head_67 : decode cX12_head 67 = .ok (.aload_n 0, 1) := by decide +kernel
theorem dX12_head_68 : decode cX12_head 68 = .ok (.getfield 389, 3) := by decide +kernel
theorem dX12_head_71 : decode cX12_head 71 = .ok (.iconst 1, 1) := by decide +kernel
theorem dX12_head_72 : decode cX12_head 72 = .ok (.isub, 1) := by decide +kernel
theorem dX12_head_73 : decode cX12_head 73 = .ok (.ireturn, 1) := by decide +kernel
theorem okX12_head : ab_okM MX12_head 2 := ⟨by decide, ⟨by decide, by decide⟩, ab_in 2340 (by decide +kernel) (by decide +kernel), ab_in 99 (by decide +kernel) (by decide +kernel), by decide +kernel, by decide⟩
set_option maxHeartbeats 4000000 in
set_option maxRecDepth 100000 in
def wX12_head (v1 : Int32) (v2 : Int32) (x : ab_X) (K : Int32 → ab_X → Prop) : Prop := ((((wr x 246 0 0).1 246 57) = 20 → K (-1) (wr x 246 0 0)) ∧ (¬ ((wr x 246 0 0).1 246 57) = 20 → wX12_isCorner v1 (wr x 246 0 0) (fun r1 => ((r1 = 0 → K (-1) (wr x 246 0 0)) ∧ (¬ r1 = 0 → wX12_isIn v2 0 (((wr x 246 0 0).1 246 56) - 1) (wr x 246 0 0) (fun r2 => ((¬ r2 = 0 → (vp_in ((wr x 246 0 0).1 246 57) 20 ∧ vp_in ((wr (wr x 246 0 0) 276 (Int32.toNatClampNeg ((wr x 246 0 0).1 246 57)) v1).1 246 57) 20 ∧ K (((wr (wr (wr (wr x 246 0 0) 276 (Int32.toNatClampNeg ((wr x 246 0 0).1 246 57)) v1) 277 (Int32.toNatClampNeg ((wr (wr x 246 0 0) 276 (Int32.toNatClampNeg ((wr x 246 0 0).1 246 57)) v1).1 246 57)) v2) 246 57 (((wr (wr (wr x 246 0 0) 276 (Int32.toNatClampNeg ((wr x 246 0 0).1 246 57)) v1) 277 (Int32.toNatClampNeg ((wr (wr x 246 0 0) 276 (Int32.toNatClampNeg ((wr x 246 0 0).1 246 57)) v1).1 246 57)) v2).1 246 57) + 1)).1 246 57) - 1) (wr (wr (wr (wr x 246 0 0) 276 (Int32.toNatClampNeg ((wr x 246 0 0).1 246 57)) v1) 277 (Int32.toNatClampNeg ((wr (wr x 246 0 0) 276 (Int32.toNatClampNeg ((wr x 246 0 0).1 246 57)) v1).1 246 57)) v2) 246 57 (((wr (wr (wr x 246 0 0) 276 (Int32.toNatClampNeg ((wr x 246 0 0).1 246 57)) v1) 277 (Int32.toNatClampNeg ((wr (wr x 246 0 0) 276 (Int32.toNatClampNeg ((wr x 246 0 0).1 246 57)) v1).1 246 57)) v2).1 246 57) + 1)))) ∧ (r2 = 0 → K (-1) (wr x 246 0 0)))))))))
set_option maxHeartbeats 4000000 in
set_option maxRecDepth 100000 in
theorem sX12_head (v1 : Int32) (v2 : Int32)  (x : ab_X) (K : Int32 → ab_X → Prop) (d bc bs : Nat) (hdp : 1 ≤ d) (h : wX12_head v1 v2 x K) : EW MX12_head 0 [(0, .ref 246), (1, .int v1), (2, .int v2)] [] (aS x) d bc bs (liI K) := by
  unfold wX12_head at h
  refine EW_aload_n (pc2 := 1) rfl dX12_head_0 0 rfl ?_
  refine EW_iconst (pc2 := 2) (v := 0) rfl dX12_head_1 (by decide) ?_
  refine AW_puti ⟨gfRX12_297, rfl, rfl⟩ (pc2 := 5) rfl dX12_head_2 q246 ?_
  refine EW_aload_n (pc2 := 6) rfl dX12_head_5 0 rfl ?_
  refine AW_geti ⟨gfRX12_389, rfl⟩ (pc2 := 9) rfl dX12_head_6 q246 ?_
  refine EW_bipush (pc2 := 11) (v := 20) rfl dX12_head_9 (by decide) ?_
  refine EW_icmp_eq (tgt := 35) (pc2 := 14) rfl dX12_head_11 (by decide) (fun q => ?_) (fun q => ?_)
  · replace h := h.1 q
    refine EW_iconst (pc2 := 36) (v := (-1)) rfl dX12_head_35 (by decide) ?_
    exact AW_iret rfl dX12_head_36 ⟨_, _, rfl, rfl, h⟩
  · replace h := h.2 q
    refine EW_iload_n (pc2 := 15) rfl dX12_head_14 1 rfl ?_
    refine AW_invS (M' := MX12_isCorner) [.int v1] (rest := []) mlRX12_303 okX12_isCorner (pc2 := 18) rfl dX12_head_15 rfl rfl (Nat.le_of_ble_eq_true rfl) (Nat.le_of_ble_eq_true rfl) (d' := 0) (by omega) (EW_mono (fun _ _ hr => ?_) (sX12_isCorner v1  (wr x 246 0 0) _ _ 0 0 (Nat.le_refl _) h))
    obtain ⟨r1, rfl, rfl, h⟩ := hr
    refine EW_if_eq (tgt := 35) (pc2 := 21) rfl dX12_head_18 (by decide) (fun q => ?_) (fun q => ?_)
    · replace h := h.1 q
      refine EW_iconst (pc2 := 36) (v := (-1)) rfl dX12_head_35 (by decide) ?_
      exact AW_iret rfl dX12_head_36 ⟨_, _, rfl, rfl, h⟩
    · replace h := h.2 q
      refine EW_iload_n (pc2 := 22) rfl dX12_head_21 2 rfl ?_
      refine EW_iconst (pc2 := 23) (v := 0) rfl dX12_head_22 (by decide) ?_
      refine EW_aload_n (pc2 := 24) rfl dX12_head_23 0 rfl ?_
      refine AW_geti ⟨gfRX12_386, rfl⟩ (pc2 := 27) rfl dX12_head_24 q246 ?_
      refine EW_iconst (pc2 := 28) (v := 1) rfl dX12_head_27 (by decide) ?_
      refine EW_isub (pc2 := 29) rfl dX12_head_28 ?_
      refine AW_invS (M' := MX12_isIn) [.int v2, .int 0, .int (((wr x 246 0 0).1 246 56) - 1)] (rest := []) mlRX12_307 okX12_isIn (pc2 := 32) rfl dX12_head_29 rfl rfl (Nat.le_of_ble_eq_true rfl) (Nat.le_of_ble_eq_true rfl) (d' := 0) (by omega) (EW_mono (fun _ _ hr => ?_) (sX12_isIn v2 0 (((wr x 246 0 0).1 246 56) - 1)  (wr x 246 0 0) _ _ 0 0 (Nat.le_refl _) h))
      obtain ⟨r2, rfl, rfl, h⟩ := hr
      refine EW_if_ne (tgt := 37) (pc2 := 35) rfl dX12_head_32 (by decide) (fun q => ?_) (fun q => ?_)
      · replace h := h.1 q
        refine EW_aload_n (pc2 := 38) rfl dX12_head_37 0 rfl ?_
        refine AW_getr (r := 276) ⟨gfRX12_98, rfl⟩ (pc2 := 41) rfl dX12_head_38 q246 rfl ?_
        refine EW_aload_n (pc2 := 42) rfl dX12_head_41 0 rfl ?_
        refine AW_geti ⟨gfRX12_389, rfl⟩ (pc2 := 45) rfl dX12_head_42 q246 ?_
        refine EW_iload_n (pc2 := 46) rfl dX12_head_45 1 rfl ?_
        obtain ⟨b3, h⟩ := h
        refine AW_iast (pc2 := 47) rfl dX12_head_46 q276 b3 ?_
        refine EW_aload_n (pc2 := 48) rfl dX12_head_47 0 rfl ?_
        refine AW_getr (r := 277) ⟨gfRX12_101, rfl⟩ (pc2 := 51) rfl dX12_head_48 q246 rfl ?_
        refine EW_aload_n (pc2 := 52) rfl dX12_head_51 0 rfl ?_
        refine AW_geti ⟨gfRX12_389, rfl⟩ (pc2 := 55) rfl dX12_head_52 q246 ?_
        refine EW_iload_n (pc2 := 56) rfl dX12_head_55 2 rfl ?_
        obtain ⟨b4, h⟩ := h
        refine AW_iast (pc2 := 57) rfl dX12_head_56 q277 b4 ?_
        refine EW_aload_n (pc2 := 58) rfl dX12_head_57 0 rfl ?_
        refine EW_dup (pc2 := 59) rfl dX12_head_58 rfl ?_
        refine AW_geti ⟨gfRX12_389, rfl⟩ (pc2 := 62) rfl dX12_head_59 q246 ?_
        refine EW_iconst (pc2 := 63) (v := 1) rfl dX12_head_62 (by decide) ?_
        refine EW_iadd (pc2 := 64) rfl dX12_head_63 ?_
        refine AW_puti ⟨gfRX12_389, rfl, rfl⟩ (pc2 := 67) rfl dX12_head_64 q246 ?_
        refine EW_aload_n (pc2 := 68) rfl dX12_head_67 0 rfl ?_
        refine AW_geti ⟨gfRX12_389, rfl⟩ (pc2 := 71) rfl dX12_head_68 q246 ?_
        refine EW_iconst (pc2 := 72) (v := 1) rfl dX12_head_71 (by decide) ?_
        refine EW_isub (pc2 := 73) rfl dX12_head_72 ?_
        exact AW_iret rfl dX12_head_73 ⟨_, _, rfl, rfl, h⟩
      · replace h := h.2 q
        refine EW_iconst (pc2 := 36) (v := (-1)) rfl dX12_head_35 (by decide) ?_
        exact AW_iret rfl dX12_head_36 ⟨_, _, rfl, rfl, h⟩
abbrev MX12_headFor : ab_M := (yX12_headFor, cX12_headFor, 4, (some .int))
theorem dX12_headFor_0 : decode cX12_headFor 0 = .ok (.iconst (-1), 1) := by decide +kernel
theorem dX12_headFor_1 : decode cX12_headFor 1 = .ok (.istore_n 2, 1) := by decide +kernel
theorem dX12_headFor_2 : decode cX12_headFor 2 = .ok (.iconst 0, 1) := by decide +kernel
theorem dX12_headFor_3 : decode cX12_headFor 3 = .ok (.istore_n 3, 1) := by decide +kernel
theorem dX12_headFor_4 : decode cX12_headFor 4 = .ok (.iload_n 3, 1) := by decide +kernel
theorem dX12_headFor_5 : decode cX12_headFor 5 = .ok (.aload_n 0, 1) := by decide +kernel
theorem dX12_headFor_6 : decode cX12_headFor 6 = .ok (.getfield 389, 3) := by decide +kernel
theorem dX12_headFor_9 : decode cX12_headFor 9 = .ok (.if_icmp .ge 57, 3) := by decide +kernel
theorem dX12_headFor_12 : decode cX12_headFor 12 = .ok (.aload_n 0, 1) := by decide +kernel
theorem dX12_headFor_13 : decode cX12_headFor 13 = .ok (.aload_n 0, 1) := by decide +kernel
theorem dX12_headFor_14 : decode cX12_headFor 14 = .ok (.getfield 98, 3) := by decide +kernel
theorem dX12_headFor_17 : decode cX12_headFor 17 = .ok (.iload_n 3, 1) := by decide +kernel
theorem dX12_headFor_18 : decode cX12_headFor 18 = .ok (.iaload, 1) := by decide +kernel
theorem dX12_headFor_19 : decode cX12_headFor 19 = .ok (.aload_n 0, 1) := by decide +kernel
theorem dX12_headFor_20 : decode cX12_headFor 20 = .ok (.getfield 32, 3) := by decide +kernel
theorem dX12_headFor_23 : decode cX12_headFor 23 = .ok (.iload_n 1, 1) := by decide +kernel
theorem dX12_headFor_24 : decode cX12_headFor 24 = .ok (.iaload, 1) := by decide +kernel
theorem dX12_headFor_25 : decode cX12_headFor 25 = .ok (.invokevirtual 328, 3) := by decide +kernel
theorem dX12_headFor_28 : decode cX12_headFor 28 = .ok (.iload_n 2, 1) := by decide +kernel
theorem dX12_headFor_29 : decode cX12_headFor 29 = .ok (.iconst (-1), 1) := by decide +kernel
theorem dX12_headFor_30 : decode cX12_headFor 30 = .ok (.if_icmp .ne 9, 3) := by decide +kernel
theorem dX12_headFor_33 : decode cX12_headFor 33 = .ok (.ldc_w 296, 3) := by decide +kernel
theorem dX12_headFor_36 : decode cX12_headFor 36 = .ok (.goto 19, 3) := by decide +kernel
theorem dX12_headFor_39 : decode cX12_headFor 39 = .ok (.aload_n 0, 1) := by decide +kernel
theorem dX12_headFor_40 : decode cX12_headFor 40 = .ok (.aload_n 0, 1) := by decide +kernel
theorem dX12_headFor_41 : decode cX12_headFor 41 = .ok (.getfield 98, 3) := by decide +kernel
theorem dX12_headFor_44 : decode cX12_headFor 44 = .ok (.iload_n 2, 1) := by decide +kernel
theorem dX12_headFor_45 : decode cX12_headFor 45 = .ok (.iaload, 1) := by decide +kernel
theorem dX12_headFor_46 : decode cX12_headFor 46 = .ok (.aload_n 0, 1) := by decide +kernel
theorem dX12_headFor_47 : decode cX12_headFor 47 = .ok (.getfield 32, 3) := by decide +kernel
theorem dX12_headFor_50 : decode cX12_headFor 50 = .ok (.iload_n 1, 1) := by decide +kernel
theorem dX12_headFor_51 : decode cX12_headFor 51 = .ok (.iaload, 1) := by decide +kernel
theorem dX12_headFor_52 : decode cX12_headFor 52 = .ok (.invokevirtual 328, 3) := by decide +kernel
theorem dX12_headFor_55 : decode cX12_headFor 55 = .ok (.if_icmp .ge 5, 3) := by decide +kernel
theorem dX12_headFor_58 : decode cX12_headFor 58 = .ok (.iload_n 3, 1) := by decide +kernel
theorem dX12_headFor_59 : decode cX12_headFor 59 = .ok (.istore_n 2, 1) := by decide +kernel
theorem dX12_headFor_60 : decode cX12_headFor 60 = .ok (.iinc 3 1, 3) := by decide +kernel
theorem dX12_headFor_63 : decode cX12_headFor 63 = .ok (.goto (-59), 3) := by decide +kernel
theorem dX12_headFor_66 : decode cX12_headFor 66 = .ok (.iload_n 2, 1) := by decide +kernel
theorem dX12_headFor_67 : decode cX12_headFor 67 = .ok (.ireturn, 1) := by decide +kernel
theorem okX12_headFor : ab_okM MX12_headFor 1 := ⟨by decide, ⟨by decide, by decide⟩, ab_in 2388 (by decide +kernel) (by decide +kernel), ab_in 99 (by decide +kernel) (by decide +kernel), by decide +kernel, by decide⟩
set_option maxHeartbeats 4000000 in
set_option maxRecDepth 100000 in
def wX12_headFor_55 (v1 : Int32) (v2 : Int32) (v3 : Int32) (s0 : Int32) (s1 : Int32) (x : ab_X) (K : Int32 → Prop) (L4 : Int32 → Int32 → Prop) : Prop := ((s1 ≤ s0 → L4 v2 (v3 + 1)) ∧ (¬ s1 ≤ s0 → L4 v3 (v3 + 1)))
set_option maxHeartbeats 4000000 in
set_option maxRecDepth 100000 in
theorem sX12_headFor_55 (v1 : Int32) (v2 : Int32) (v3 : Int32) (s0 : Int32) (s1 : Int32)  (x : ab_X) (K : Int32 → Prop) (L4 : Int32 → Int32 → Prop) (d bc bs : Nat) (hdp : 1 ≤ d) (hL4 : ∀ (v2 : Int32) (v3 : Int32), L4 v2 v3 → EW MX12_headFor 4 [(0, .ref 246), (1, .int v1), (2, .int v2), (3, .int v3)] [] (aS x) d bc bs (liP x K)) (h : wX12_headFor_55 v1 v2 v3 s0 s1 x K L4) : EW MX12_headFor 55 [(0, .ref 246), (1, .int v1), (2, .int v2), (3, .int v3)] [.int s1, .int s0] (aS x) d bc bs (liP x K) := by
  unfold wX12_headFor_55 at h
  refine EW_icmp_ge (tgt := 60) (pc2 := 58) rfl dX12_headFor_55 (by decide) (fun q => ?_) (fun q => ?_)
  · replace h := h.1 q
    refine EW_iinc (v3 + 1) (pc2 := 63) rfl dX12_headFor_60 3 rfl rfl (by decide) [1, 2, 3, 0] [(0, .ref 246), (1, .int v1), (2, .int v2), (3, .int (v3 + 1))] rfl ?_
    refine EW_goto (tgt := 4) dX12_headFor_63 (by decide) ?_
    exact hL4 v2 (v3 + 1) h
  · replace h := h.2 q
    refine EW_iload_n (pc2 := 59) rfl dX12_headFor_58 3 rfl ?_
    refine EW_istore_n (pc2 := 60) rfl dX12_headFor_59 (by decide) [1, 2, 0, 3] [(0, .ref 246), (1, .int v1), (2, .int v3), (3, .int v3)] rfl ?_
    refine EW_iinc (v3 + 1) (pc2 := 63) rfl dX12_headFor_60 3 rfl rfl (by decide) [1, 2, 3, 0] [(0, .ref 246), (1, .int v1), (2, .int v3), (3, .int (v3 + 1))] rfl ?_
    refine EW_goto (tgt := 4) dX12_headFor_63 (by decide) ?_
    exact hL4 v3 (v3 + 1) h
set_option maxHeartbeats 4000000 in
set_option maxRecDepth 100000 in
def lX12_headFor_4 (v1 : Int32) (x : ab_X) (K : Int32 → Prop)  (L4 : Int32 → Int32 → Prop) (v2 : Int32) (v3 : Int32) : Prop := (((x.1 246 57) ≤ v3 → K v2) ∧ (¬ (x.1 246 57) ≤ v3 → (vp_in v3 20 ∧ vp_in v1 12 ∧ wX12_walkOf (x.1 276 (Int32.toNatClampNeg v3)) (x.1 254 (Int32.toNatClampNeg v1)) x (fun r3 => ((¬ v2 = (-1) → (vp_in v2 20 ∧ vp_in v1 12 ∧ wX12_walkOf (x.1 276 (Int32.toNatClampNeg v2)) (x.1 254 (Int32.toNatClampNeg v1)) x (fun r6 => wX12_headFor_55 v1 v2 v3 r3 r6 x K L4))) ∧ (v2 = (-1) → wX12_headFor_55 v1 v2 v3 r3 1000000 x K L4))))))
set_option maxHeartbeats 4000000 in
set_option maxRecDepth 100000 in
theorem sX12_headFor_4 (v1 : Int32) (v2 : Int32) (v3 : Int32)  (x : ab_X) (K : Int32 → Prop)  (d bc bs : Nat) (hdp : 1 ≤ d)  (h : Lp2 (lX12_headFor_4 v1 x K ) v2 v3) : EW MX12_headFor 4 [(0, .ref 246), (1, .int v1), (2, .int v2), (3, .int v3)] [] (aS x) d bc bs (liP x K) := by
  refine Lp2.use (P := fun v2 v3 => EW MX12_headFor 4 [(0, .ref 246), (1, .int v1), (2, .int v2), (3, .int v3)] [] (aS x) d bc bs (liP x K)) (fun L4 v2 v3 hL4 h => ?_) v2 v3 h
  unfold lX12_headFor_4 at h
  refine EW_iload_n (pc2 := 5) rfl dX12_headFor_4 3 rfl ?_
  refine EW_aload_n (pc2 := 6) rfl dX12_headFor_5 0 rfl ?_
  refine AW_geti ⟨gfRX12_389, rfl⟩ (pc2 := 9) rfl dX12_headFor_6 q246 ?_
  refine EW_icmp_ge (tgt := 66) (pc2 := 12) rfl dX12_headFor_9 (by decide) (fun q => ?_) (fun q => ?_)
  · replace h := h.1 q
    refine EW_iload_n (pc2 := 67) rfl dX12_headFor_66 2 rfl ?_
    exact AW_iret rfl dX12_headFor_67 ⟨_, rfl, rfl, h⟩
  · replace h := h.2 q
    refine EW_aload_n (pc2 := 13) rfl dX12_headFor_12 0 rfl ?_
    refine EW_aload_n (pc2 := 14) rfl dX12_headFor_13 0 rfl ?_
    refine AW_getr (r := 276) ⟨gfRX12_98, rfl⟩ (pc2 := 17) rfl dX12_headFor_14 q246 rfl ?_
    refine EW_iload_n (pc2 := 18) rfl dX12_headFor_17 3 rfl ?_
    obtain ⟨b1, h⟩ := h
    refine AW_iald (pc2 := 19) rfl dX12_headFor_18 q276 b1 ?_
    refine EW_aload_n (pc2 := 20) rfl dX12_headFor_19 0 rfl ?_
    refine AW_getr (r := 254) ⟨gfRX12_32, rfl⟩ (pc2 := 23) rfl dX12_headFor_20 q246 rfl ?_
    refine EW_iload_n (pc2 := 24) rfl dX12_headFor_23 1 rfl ?_
    obtain ⟨b2, h⟩ := h
    refine AW_iald (pc2 := 25) rfl dX12_headFor_24 q254 b2 ?_
    refine AW_invV (M' := MX12_walkOf) [.int (x.1 276 (Int32.toNatClampNeg v3)), .int (x.1 254 (Int32.toNatClampNeg v1))] (rest := []) mlRX12_328 okX12_walkOf (pc2 := 28) rfl dX12_headFor_25 rfl rfl (Nat.le_of_ble_eq_true rfl) (Nat.le_of_ble_eq_true rfl) (d' := 0) (by omega) q246 ⟨by decide, rfl⟩ (EW_mono (fun _ _ hr => ?_) (sX12_walkOf (x.1 276 (Int32.toNatClampNeg v3)) (x.1 254 (Int32.toNatClampNeg v1))  x _ _ 0 0 (Nat.le_refl _) h))
    obtain ⟨r3, rfl, rfl, h⟩ := hr
    refine EW_iload_n (pc2 := 29) rfl dX12_headFor_28 2 rfl ?_
    refine EW_iconst (pc2 := 30) (v := (-1)) rfl dX12_headFor_29 (by decide) ?_
    refine EW_icmp_ne (tgt := 39) (pc2 := 33) rfl dX12_headFor_30 (by decide) (fun q => ?_) (fun q => ?_)
    · replace h := h.1 q
      refine EW_aload_n (pc2 := 40) rfl dX12_headFor_39 0 rfl ?_
      refine EW_aload_n (pc2 := 41) rfl dX12_headFor_40 0 rfl ?_
      refine AW_getr (r := 276) ⟨gfRX12_98, rfl⟩ (pc2 := 44) rfl dX12_headFor_41 q246 rfl ?_
      refine EW_iload_n (pc2 := 45) rfl dX12_headFor_44 2 rfl ?_
      obtain ⟨b4, h⟩ := h
      refine AW_iald (pc2 := 46) rfl dX12_headFor_45 q276 b4 ?_
      refine EW_aload_n (pc2 := 47) rfl dX12_headFor_46 0 rfl ?_
      refine AW_getr (r := 254) ⟨gfRX12_32, rfl⟩ (pc2 := 50) rfl dX12_headFor_47 q246 rfl ?_
      refine EW_iload_n (pc2 := 51) rfl dX12_headFor_50 1 rfl ?_
      obtain ⟨b5, h⟩ := h
      refine AW_iald (pc2 := 52) rfl dX12_headFor_51 q254 b5 ?_
      refine AW_invV (M' := MX12_walkOf) [.int (x.1 276 (Int32.toNatClampNeg v2)), .int (x.1 254 (Int32.toNatClampNeg v1))] (rest := [.int r3]) mlRX12_328 okX12_walkOf (pc2 := 55) rfl dX12_headFor_52 rfl rfl (Nat.le_of_ble_eq_true rfl) (Nat.le_of_ble_eq_true rfl) (d' := 0) (by omega) q246 ⟨by decide, rfl⟩ (EW_mono (fun _ _ hr => ?_) (sX12_walkOf (x.1 276 (Int32.toNatClampNeg v2)) (x.1 254 (Int32.toNatClampNeg v1))  x _ _ 0 0 (Nat.le_refl _) h))
      obtain ⟨r6, rfl, rfl, h⟩ := hr
      exact sX12_headFor_55 v1 v2 v3 r3 r6 x K L4 d bc bs hdp hL4 h
    · replace h := h.2 q
      refine EW_ldcw cnRX12_296 (pc2 := 36) rfl dX12_headFor_33 ?_
      refine EW_goto (tgt := 55) dX12_headFor_36 (by decide) ?_
      exact sX12_headFor_55 v1 v2 v3 r3 1000000 x K L4 d bc bs hdp hL4 h
set_option maxHeartbeats 4000000 in
set_option maxRecDepth 100000 in
def wX12_headFor (v1 : Int32) (x : ab_X) (K : Int32 → Prop) : Prop := Lp2 (lX12_headFor_4 v1 x K ) (-1) 0
set_option maxHeartbeats 4000000 in
set_option maxRecDepth 100000 in
theorem sX12_headFor (v1 : Int32)  (x : ab_X) (K : Int32 → Prop) (d bc bs : Nat) (hdp : 1 ≤ d) (h : wX12_headFor v1 x K) : EW MX12_headFor 0 [(0, .ref 246), (1, .int v1)] [] (aS x) d bc bs (liP x K) := by
  unfold wX12_headFor at h
  refine EW_iconst (pc2 := 1) (v := (-1)) rfl dX12_headFor_0 (by decide) ?_
  refine EW_istore_n (pc2 := 2) rfl dX12_headFor_1 (by decide) [1, 2, 0] [(0, .ref 246), (1, .int v1), (2, .int (-1))] rfl ?_
  refine EW_iconst (pc2 := 3) (v := 0) rfl dX12_headFor_2 (by decide) ?_
  refine EW_istore_n (pc2 := 4) rfl dX12_headFor_3 (by decide) [1, 2, 3, 0] [(0, .ref 246), (1, .int v1), (2, .int (-1)), (3, .int 0)] rfl ?_
  exact sX12_headFor_4 v1 (-1) 0 x K d bc bs hdp h
abbrev MX12_heal : ab_M := (yX12_heal, cX12_heal, 2, (some .boolean))
theorem dX12_heal_0 : decode cX12_heal 0 = .ok (.aload_n 0, 1) := by decide +kernel
theorem dX12_heal_1 : decode cX12_heal 1 = .ok (.iconst 0, 1) := by decide +kernel
theorem dX12_heal_2 : decode cX12_heal 2 = .ok (.putfield 297, 3) := by decide +kernel
theorem dX12_heal_5 : decode cX12_heal 5 = .ok (.aload_n 0, 1) := by decide +kernel
theorem dX12_heal_6 : decode cX12_heal 6 = .ok (.iload_n 1, 1) := by decide +kernel
theorem dX12_heal_7 : decode cX12_heal 7 = .ok (.invokevirtual 392, 3) := by decide +kernel
theorem dX12_heal_10 : decode cX12_heal 10 = .ok (.ifCond .eq 13, 3) := by decide +kernel
theorem dX12_heal_13 : decode cX12_heal 13 = .ok (.aload_n 0, 1) := by decide +kernel
theorem dX12_heal_14 : decode cX12_heal 14 = .ok (.getfield 128, 3) := by decide +kernel
theorem dX12_heal_17 : decode cX12_heal 17 = .ok (.iload_n 1, 1) := by decide +kernel
theorem dX12_heal_18 : decode cX12_heal 18 = .ok (.iaload, 1) := by decide +kernel
theorem dX12_heal_19 : decode cX12_heal 19 = .ok (.iconst 4, 1) := by decide +kernel
theorem dX12_heal_20 : decode cX12_heal 20 = .ok (.if_icmp .eq 5, 3) := by decide +kernel
theorem dX12_heal_23 : decode cX12_heal 23 = .ok (.iconst 0, 1) := by decide +kernel
theorem dX12_heal_24 : decode cX12_heal 24 = .ok (.ireturn, 1) := by decide +kernel
theorem dX12_heal_25 : decode cX12_heal 25 = .ok (.aload_n 0, 1) := by decide +kernel
theorem dX12_heal_26 : decode cX12_heal 26 = .ok (.iload_n 1, 1) := by decide +kernel
theorem dX12_heal_27 : decode cX12_heal 27 = .ok (.aload_n 0, 1) := by decide +kernel
theorem dX12_heal_28 : decode cX12_heal 28 = .ok (.getfield 110, 3) := by decide +kernel
theorem dX12_heal_31 : decode cX12_heal 31 = .ok (.iload_n 1, 1) := by decide +kernel
theorem dX12_heal_32 : decode cX12_heal 32 = .ok (.iaload, 1) := by decide +kernel
theorem dX12_heal_33 : decode cX12_heal 33 = .ok (.invokevirtual 401, 3) := by decide +kernel
theorem dX12_heal_36 : decode cX12_heal 36 = .ok (.iconst 1, 1) := by decide +kernel
theorem dX12_heal_37 : decode cX12_heal 37 = .ok (.ireturn, 1) := by decide +kernel
theorem okX12_heal : ab_okM MX12_heal 1 := ⟨by decide, ⟨by decide, by decide⟩, ab_in 2356 (by decide +kernel) (by decide +kernel), ab_in 99 (by decide +kernel) (by decide +kernel), by decide +kernel, by decide⟩
set_option maxHeartbeats 4000000 in
set_option maxRecDepth 100000 in
def wX12_heal (v1 : Int32) (x : ab_X) (K : Int32 → ab_X → Prop) : Prop := wX12_isCrew v1 (wr x 246 0 0) (fun r1 => ((r1 = 0 → K 0 (wr x 246 0 0)) ∧ (¬ r1 = 0 → (vp_in v1 16 ∧ ((((wr x 246 0 0).1 286 (Int32.toNatClampNeg v1)) = 4 → (vp_in v1 16 ∧ wX12_rests v1 ((wr x 246 0 0).1 280 (Int32.toNatClampNeg v1)) (wr x 246 0 0) (fun x4 => K 1 x4))) ∧ (¬ ((wr x 246 0 0).1 286 (Int32.toNatClampNeg v1)) = 4 → K 0 (wr x 246 0 0)))))))
set_option maxHeartbeats 4000000 in
set_option maxRecDepth 100000 in
theorem sX12_heal (v1 : Int32)  (x : ab_X) (K : Int32 → ab_X → Prop) (d bc bs : Nat) (hdp : 1 ≤ d) (h : wX12_heal v1 x K) : EW MX12_heal 0 [(0, .ref 246), (1, .int v1)] [] (aS x) d bc bs (liI K) := by
  unfold wX12_heal at h
  refine EW_aload_n (pc2 := 1) rfl dX12_heal_0 0 rfl ?_
  refine EW_iconst (pc2 := 2) (v := 0) rfl dX12_heal_1 (by decide) ?_
  refine AW_puti ⟨gfRX12_297, rfl, rfl⟩ (pc2 := 5) rfl dX12_heal_2 q246 ?_
  refine EW_aload_n (pc2 := 6) rfl dX12_heal_5 0 rfl ?_
  refine EW_iload_n (pc2 := 7) rfl dX12_heal_6 1 rfl ?_
  refine AW_invV (M' := MX12_isCrew) [.int v1] (rest := []) mlRX12_392 okX12_isCrew (pc2 := 10) rfl dX12_heal_7 rfl rfl (Nat.le_of_ble_eq_true rfl) (Nat.le_of_ble_eq_true rfl) (d' := 0) (by omega) q246 ⟨by decide, rfl⟩ (EW_mono (fun _ _ hr => ?_) (sX12_isCrew v1  (wr x 246 0 0) _ _ 0 0 (Nat.le_refl _) h))
  obtain ⟨r1, rfl, rfl, h⟩ := hr
  refine EW_if_eq (tgt := 23) (pc2 := 13) rfl dX12_heal_10 (by decide) (fun q => ?_) (fun q => ?_)
  · replace h := h.1 q
    refine EW_iconst (pc2 := 24) (v := 0) rfl dX12_heal_23 (by decide) ?_
    exact AW_zret rfl isB0 dX12_heal_24 ⟨_, _, rfl, rfl, h⟩
  · replace h := h.2 q
    refine EW_aload_n (pc2 := 14) rfl dX12_heal_13 0 rfl ?_
    refine AW_getr (r := 286) ⟨gfRX12_128, rfl⟩ (pc2 := 17) rfl dX12_heal_14 q246 rfl ?_
    refine EW_iload_n (pc2 := 18) rfl dX12_heal_17 1 rfl ?_
    obtain ⟨b2, h⟩ := h
    refine AW_iald (pc2 := 19) rfl dX12_heal_18 q286 b2 ?_
    refine EW_iconst (pc2 := 20) (v := 4) rfl dX12_heal_19 (by decide) ?_
    refine EW_icmp_eq (tgt := 25) (pc2 := 23) rfl dX12_heal_20 (by decide) (fun q => ?_) (fun q => ?_)
    · replace h := h.1 q
      refine EW_aload_n (pc2 := 26) rfl dX12_heal_25 0 rfl ?_
      refine EW_iload_n (pc2 := 27) rfl dX12_heal_26 1 rfl ?_
      refine EW_aload_n (pc2 := 28) rfl dX12_heal_27 0 rfl ?_
      refine AW_getr (r := 280) ⟨gfRX12_110, rfl⟩ (pc2 := 31) rfl dX12_heal_28 q246 rfl ?_
      refine EW_iload_n (pc2 := 32) rfl dX12_heal_31 1 rfl ?_
      obtain ⟨b3, h⟩ := h
      refine AW_iald (pc2 := 33) rfl dX12_heal_32 q280 b3 ?_
      refine AW_invV (M' := MX12_rests) [.int v1, .int ((wr x 246 0 0).1 280 (Int32.toNatClampNeg v1))] (rest := []) mlRX12_401 okX12_rests (pc2 := 36) rfl dX12_heal_33 rfl rfl (Nat.le_of_ble_eq_true rfl) (Nat.le_of_ble_eq_true rfl) (d' := 0) (by omega) q246 ⟨by decide, rfl⟩ (EW_mono (fun _ _ hr => ?_) (sX12_rests v1 ((wr x 246 0 0).1 280 (Int32.toNatClampNeg v1))  (wr x 246 0 0) _ _ 0 0 (Nat.le_refl _) h))
      obtain ⟨x4, rfl, rfl, h⟩ := hr
      refine EW_iconst (pc2 := 37) (v := 1) rfl dX12_heal_36 (by decide) ?_
      exact AW_zret rfl isB1 dX12_heal_37 ⟨_, _, rfl, rfl, h⟩
    · replace h := h.2 q
      refine EW_iconst (pc2 := 24) (v := 0) rfl dX12_heal_23 (by decide) ?_
      exact AW_zret rfl isB0 dX12_heal_24 ⟨_, _, rfl, rfl, h⟩
