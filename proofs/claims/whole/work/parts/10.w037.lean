abbrev MX11_row : ab_M := (yX11_row, cX11_row, 2, (some .int))
theorem dX11_row_0 : decode cX11_row 0 = .ok (.iload_n 1, 1) := by decide +kernel
theorem dX11_row_1 : decode cX11_row 1 = .ok (.iconst 0, 1) := by decide +kernel
theorem dX11_row_2 : decode cX11_row 2 = .ok (.iconst 3, 1) := by decide +kernel
theorem dX11_row_3 : decode cX11_row 3 = .ok (.invokestatic 74, 3) := by decide +kernel
theorem dX11_row_6 : decode cX11_row 6 = .ok (.ifCond .eq 12, 3) := by decide +kernel
theorem dX11_row_9 : decode cX11_row 9 = .ok (.aload_n 0, 1) := by decide +kernel
theorem dX11_row_10 : decode cX11_row 10 = .ok (.getfield 464, 3) := by decide +kernel
theorem dX11_row_13 : decode cX11_row 13 = .ok (.bipush 6, 2) := by decide +kernel
theorem dX11_row_15 : decode cX11_row 15 = .ok (.if_icmp .lt 5, 3) := by decide +kernel
theorem dX11_row_18 : decode cX11_row 18 = .ok (.iconst (-1), 1) := by decide +kernel
theorem dX11_row_19 : decode cX11_row 19 = .ok (.ireturn, 1) := by decide +kernel
theorem dX11_row_20 : decode cX11_row 20 = .ok (.aload_n 0, 1) := by decide +kernel
theorem dX11_row_21 : decode cX11_row 21 = .ok (.getfield 59, 3) := by decide +kernel
theorem dX11_row_24 : decode cX11_row 24 = .ok (.aload_n 0, 1) := by decide +kernel
theorem dX11_row_25 : decode cX11_row 25 = .ok (.getfield 464, 3) := by decide +kernel
theorem dX11_row_28 : decode cX11_row 28 = .ok (.iload_n 1, 1) := by decide +kernel
theorem dX11_row_29 : decode cX11_row 29 = .ok (.iastore, 1) := by decide +kernel
theorem dX11_row_30 : decode cX11_row 30 = .ok (.aload_n 0, 1) := by decide +kernel
theorem dX11_row_31 : decode cX11_row 31 = .ok (.dup, 1) := by decide +kernel
theorem dX11_row_32 : decode cX11_row 32 = .ok (.getfield 464, 3) := by decide +kernel
theorem dX11_row_35 : decode cX11_row 35 = .ok (.iconst 1, 1) := by decide +kernel
theorem dX11_row_36 : decode cX11_row 36 = .ok (.iadd, 1) := by decide +kernel
theorem dX11_row_37 : decode cX11_row 37 = .ok (.putfield 464, 3) := by decide +kernel
theorem dX11_row_40 : decode cX11_row 40 = .ok (.aload_n 0, 1) := by decide +kernel
theorem dX11_row_41 : decode cX11_row 41 = .ok (.getfield 464, 3) := by decide +kernel
theorem dX11_row_44 : decode cX11_row 44 = .ok (.iconst 1, 1) := by decide +kernel
theorem dX11_row_45 : decode cX11_row 45 = .ok (.isub, 1) := by decide +kernel
theorem dX11_row_46 : decode cX11_row 46 = .ok (.ireturn, 1) := by decide +kernel
theorem okX11_row : ab_okM MX11_row 1 := ⟨by decide, ⟨by decide, by decide⟩, ab_in 1687 (by decide +kernel) (by decide +kernel), ab_in 86 (by decide +kernel) (by decide +kernel), by decide +kernel, by decide⟩
set_option maxHeartbeats 4000000 in
set_option maxRecDepth 100000 in
def wX11_row (v1 : Int32) (x : ab_X) (K : Int32 → ab_X → Prop) : Prop := wX11_within v1 0 3 x (fun r1 => ((r1 = 0 → K (-1) x) ∧ (¬ r1 = 0 → (((x.1 0 9) < 6 → (vp_in (x.1 0 9) 6 ∧ K (((wr (wr x 243 (Int32.toNatClampNeg (x.1 0 9)) v1) 0 9 (((wr x 243 (Int32.toNatClampNeg (x.1 0 9)) v1).1 0 9) + 1)).1 0 9) - 1) (wr (wr x 243 (Int32.toNatClampNeg (x.1 0 9)) v1) 0 9 (((wr x 243 (Int32.toNatClampNeg (x.1 0 9)) v1).1 0 9) + 1)))) ∧ (¬ (x.1 0 9) < 6 → K (-1) x)))))
set_option maxHeartbeats 4000000 in
set_option maxRecDepth 100000 in
theorem sX11_row (v1 : Int32)  (x : ab_X) (K : Int32 → ab_X → Prop) (d bc bs : Nat) (hdp : 1 ≤ d) (h : wX11_row v1 x K) : EW MX11_row 0 [(0, .ref 0), (1, .int v1)] [] (aS x) d bc bs (liI K) := by
  unfold wX11_row at h
  refine EW_iload_n (pc2 := 1) rfl dX11_row_0 1 rfl ?_
  refine EW_iconst (pc2 := 2) (v := 0) rfl dX11_row_1 (by decide) ?_
  refine EW_iconst (pc2 := 3) (v := 3) rfl dX11_row_2 (by decide) ?_
  refine AW_invS (M' := MX11_within) [.int v1, .int 0, .int 3] (rest := []) mlRX11_74 okX11_within (pc2 := 6) rfl dX11_row_3 rfl rfl (Nat.le_of_ble_eq_true rfl) (Nat.le_of_ble_eq_true rfl) (d' := 0) (by omega) (EW_mono (fun _ _ hr => ?_) (sX11_within v1 0 3  x _ _ 0 0 (Nat.le_refl _) h))
  obtain ⟨r1, rfl, rfl, h⟩ := hr
  refine EW_if_eq (tgt := 18) (pc2 := 9) rfl dX11_row_6 (by decide) (fun q => ?_) (fun q => ?_)
  · replace h := h.1 q
    refine EW_iconst (pc2 := 19) (v := (-1)) rfl dX11_row_18 (by decide) ?_
    exact AW_iret rfl dX11_row_19 ⟨_, _, rfl, rfl, h⟩
  · replace h := h.2 q
    refine EW_aload_n (pc2 := 10) rfl dX11_row_9 0 rfl ?_
    refine AW_geti ⟨gfRX11_464, rfl⟩ (pc2 := 13) rfl dX11_row_10 q0 ?_
    refine EW_bipush (pc2 := 15) (v := 6) rfl dX11_row_13 (by decide) ?_
    refine EW_icmp_lt (tgt := 20) (pc2 := 18) rfl dX11_row_15 (by decide) (fun q => ?_) (fun q => ?_)
    · replace h := h.1 q
      refine EW_aload_n (pc2 := 21) rfl dX11_row_20 0 rfl ?_
      refine AW_getr (r := 243) ⟨gfRX11_59, rfl⟩ (pc2 := 24) rfl dX11_row_21 q0 rfl ?_
      refine EW_aload_n (pc2 := 25) rfl dX11_row_24 0 rfl ?_
      refine AW_geti ⟨gfRX11_464, rfl⟩ (pc2 := 28) rfl dX11_row_25 q0 ?_
      refine EW_iload_n (pc2 := 29) rfl dX11_row_28 1 rfl ?_
      obtain ⟨b2, h⟩ := h
      refine AW_iast (pc2 := 30) rfl dX11_row_29 q243 b2 ?_
      refine EW_aload_n (pc2 := 31) rfl dX11_row_30 0 rfl ?_
      refine EW_dup (pc2 := 32) rfl dX11_row_31 rfl ?_
      refine AW_geti ⟨gfRX11_464, rfl⟩ (pc2 := 35) rfl dX11_row_32 q0 ?_
      refine EW_iconst (pc2 := 36) (v := 1) rfl dX11_row_35 (by decide) ?_
      refine EW_iadd (pc2 := 37) rfl dX11_row_36 ?_
      refine AW_puti ⟨gfRX11_464, rfl, rfl⟩ (pc2 := 40) rfl dX11_row_37 q0 ?_
      refine EW_aload_n (pc2 := 41) rfl dX11_row_40 0 rfl ?_
      refine AW_geti ⟨gfRX11_464, rfl⟩ (pc2 := 44) rfl dX11_row_41 q0 ?_
      refine EW_iconst (pc2 := 45) (v := 1) rfl dX11_row_44 (by decide) ?_
      refine EW_isub (pc2 := 46) rfl dX11_row_45 ?_
      exact AW_iret rfl dX11_row_46 ⟨_, _, rfl, rfl, h⟩
    · replace h := h.2 q
      refine EW_iconst (pc2 := 19) (v := (-1)) rfl dX11_row_18 (by decide) ?_
      exact AW_iret rfl dX11_row_19 ⟨_, _, rfl, rfl, h⟩
theorem mlRX6_49 : Cond.methodLink RX6 49 yX6_walk ∈ ab_G ∧ Cond.instanceMethod yX6_walk ∈ ab_G ∧ Cond.selects RX6 yX6_walk yX6_walk ∈ ab_G := ⟨ab_in 781 (by decide +kernel) (by decide +kernel), ab_in 782 (by decide +kernel) (by decide +kernel), ab_in 783 (by decide +kernel) (by decide +kernel)⟩
theorem mmRX6_53 : Cond.methodLink RX6 53 Lib.Math.min.name ∈ ab_G ∧ Cond.static Lib.Math.min.name ∈ ab_G ∧ Cond.initialized "java/lang/Math" ∈ ab_G ∧ Cond.code Lib.Math.min.name Lib.Math.min.code 2 (some .int) ∈ ab_G := ⟨ab_in 786 (by decide +kernel) (by decide +kernel), ab_in 787 (by decide +kernel) (by decide +kernel), ab_in 100 (by decide +kernel) (by decide +kernel), ab_in 788 (by decide +kernel) (by decide +kernel)⟩
abbrev MX6_shorten : ab_M := (yX6_shorten, cX6_shorten, 8, none)
theorem dX6_shorten_0 : decode cX6_shorten 0 = .ok (.iconst 0, 1) := by decide +kernel
theorem dX6_shorten_1 : decode cX6_shorten 1 = .ok (.istore 4, 2) := by decide +kernel
theorem dX6_shorten_3 : decode cX6_shorten 3 = .ok (.iload 4, 2) := by decide +kernel
theorem dX6_shorten_5 : decode cX6_shorten 5 = .ok (.bipush 20, 2) := by decide +kernel
theorem dX6_shorten_7 : decode cX6_shorten 7 = .ok (.if_icmp .ge 94, 3) := by decide +kernel
theorem dX6_shorten_10 : decode cX6_shorten 10 = .ok (.iconst 0, 1) := by decide +kernel
theorem dX6_shorten_11 : decode cX6_shorten 11 = .ok (.istore 5, 2) := by decide +kernel
theorem dX6_shorten_13 : decode cX6_shorten 13 = .ok (.iload 5, 2) := by decide +kernel
theorem dX6_shorten_15 : decode cX6_shorten 15 = .ok (.bipush 20, 2) := by decide +kernel
theorem dX6_shorten_17 : decode cX6_shorten 17 = .ok (.if_icmp .ge 78, 3) := by decide +kernel
theorem dX6_shorten_20 : decode cX6_shorten 20 = .ok (.aload_n 0, 1) := by decide +kernel
theorem dX6_shorten_21 : decode cX6_shorten 21 = .ok (.iload 4, 2) := by decide +kernel
theorem dX6_shorten_23 : decode cX6_shorten 23 = .ok (.iload_n 1, 1) := by decide +kernel
theorem dX6_shorten_24 : decode cX6_shorten 24 = .ok (.invokevirtual 49, 3) := by decide +kernel
theorem dX6_shorten_27 : decode cX6_shorten 27 = .ok (.iload_n 3, 1) := by decide +kernel
theorem dX6_shorten_28 : decode cX6_shorten 28 = .ok (.iadd, 1) := by decide +kernel
theorem dX6_shorten_29 : decode cX6_shorten 29 = .ok (.aload_n 0, 1) := by decide +kernel
theorem dX6_shorten_30 : decode cX6_shorten 30 = .ok (.iload_n 2, 1) := by decide +kernel
theorem dX6_shorten_31 : decode cX6_shorten 31 = .ok (.iload 5, 2) := by decide +kernel
theorem dX6_shorten_33 : decode cX6_shorten 33 = .ok (.invokevirtual 49, 3) := by decide +kernel
theorem dX6_shorten_36 : decode cX6_shorten 36 = .ok (.iadd, 1) := by decide +kernel
theorem dX6_shorten_37 : decode cX6_shorten 37 = .ok (.istore 6, 2) := by decide +kernel
theorem dX6_shorten_39 : decode cX6_shorten 39 = .ok (.aload_n 0, 1) := by decide +kernel
theorem dX6_shorten_40 : decode cX6_shorten 40 = .ok (.iload 4, 2) := by decide +kernel
theorem dX6_shorten_42 : decode cX6_shorten 42 = .ok (.iload_n 2, 1) := by decide +kernel
theorem dX6_shorten_43 : decode cX6_shorten 43 = .ok (.invokevirtual 49, 3) := by decide +kernel
theorem dX6_shorten_46 : decode cX6_shorten 46 = .ok (.iload_n 3, 1) := by decide +kernel
theorem dX6_shorten_47 : decode cX6_shorten 47 = .ok (.iadd, 1) := by decide +kernel
theorem dX6_shorten_48 : decode cX6_shorten 48 = .ok (.aload_n 0, 1) := by decide +kernel
theorem dX6_shorten_49 : decode cX6_shorten 49 = .ok (.iload_n 1, 1) := by decide +kernel
theorem dX6_shorten_50 : decode cX6_shorten 50 = .ok (.iload 5, 2) := by decide +kernel
theorem dX6_shorten_52 : decode cX6_shorten 52 = .ok (.invokevirtual 49, 3) := by decide +kernel
theorem dX6_shorten_55 : decode cX6_shorten 55 = .ok (.iadd, 1) := by decide +kernel
theorem dX6_shorten_56 : decode cX6_shorten 56 = .ok (.istore 7, 2) := by decide +kernel
theorem dX6_shorten_58 : decode cX6_shorten 58 = .ok (.aload_n 0, 1) := by decide +kernel
theorem dX6_shorten_59 : decode cX6_shorten 59 = .ok (.getfield 28, 3) := by decide +kernel
theorem dX6_shorten_62 : decode cX6_shorten 62 = .ok (.iload 4, 2) := by decide +kernel
theorem dX6_shorten_64 : decode cX6_shorten 64 = .ok (.bipush 20, 2) := by decide +kernel
theorem dX6_shorten_66 : decode cX6_shorten 66 = .ok (.imul, 1) := by decide +kernel
theorem dX6_shorten_67 : decode cX6_shorten 67 = .ok (.iload 5, 2) := by decide +kernel
theorem dX6_shorten_69 : decode cX6_shorten 69 = .ok (.iadd, 1) := by decide +kernel
theorem dX6_shorten_70 : decode cX6_shorten 70 = .ok (.aload_n 0, 1) := by decide +kernel
theorem dX6_shorten_71 : decode cX6_shorten 71 = .ok (.iload 4, 2) := by decide +kernel
theorem dX6_shorten_73 : decode cX6_shorten 73 = .ok (.iload 5, 2) := by decide +kernel
theorem dX6_shorten_75 : decode cX6_shorten 75 = .ok (.invokevirtual 49, 3) := by decide +kernel
theorem dX6_shorten_78 : decode cX6_shorten 78 = .ok (.iload 6, 2) := by decide +kernel
theorem dX6_shorten_80 : decode cX6_shorten 80 = .ok (.iload 7, 2) := by decide +kernel
theorem dX6_shorten_82 : decode cX6_shorten 82 = .ok (.invokestatic 53, 3) := by decide +kernel
theorem dX6_shorten_85 : decode cX6_shorten 85 = .ok (.invokestatic 53, 3) := by decide +kernel
theorem dX6_shorten_88 : decode cX6_shorten 88 = .ok (.iastore, 1) := by decide +kernel
theorem dX6_shorten_89 : decode cX6_shorten 89 = .ok (.iinc 5 1, 3) := by decide +kernel
theorem dX6_shorten_92 : decode cX6_shorten 92 = .ok (.goto (-79), 3) := by decide +kernel
theorem dX6_shorten_95 : decode cX6_shorten 95 = .ok (.iinc 4 1, 3) := by decide +kernel
theorem dX6_shorten_98 : decode cX6_shorten 98 = .ok (.goto (-95), 3) := by decide +kernel
theorem dX6_shorten_101 : decode cX6_shorten 101 = .ok (.return_, 1) := by decide +kernel
theorem okX6_shorten : ab_okM MX6_shorten 3 := ⟨by decide, ⟨by decide, by decide⟩, ab_in 780 (by decide +kernel) (by decide +kernel), ab_in 87 (by decide +kernel) (by decide +kernel), by decide +kernel, by decide⟩
set_option maxHeartbeats 4000000 in
set_option maxRecDepth 100000 in
def lX6_shorten_13 (v1 : Int32) (v2 : Int32) (v3 : Int32) (v4 : Int32) (K : ab_X → Prop) (L3 : Int32 → ab_X → Prop) (L13 : Int32 → ab_X → Prop) (v5 : Int32) (x : ab_X) : Prop := ((20 ≤ v5 → L3 (v4 + 1) x) ∧ (¬ 20 ≤ v5 → wX6_walk v4 v1 x (fun r1 => wX6_walk v2 v5 x (fun r2 => wX6_walk v4 v2 x (fun r3 => wX6_walk v1 v5 x (fun r4 => wX6_walk v4 v5 x (fun r5 => (vp_in ((v4 * 20) + v5) 400 ∧ L13 (v5 + 1) (wr x 7 (Int32.toNatClampNeg ((v4 * 20) + v5)) (imin r5 (imin ((r1 + v3) + r2) ((r3 + v3) + r4))))))))))))
set_option maxHeartbeats 4000000 in
set_option maxRecDepth 100000 in
theorem sX6_shorten_13 (v1 : Int32) (v2 : Int32) (v3 : Int32) (v4 : Int32) (v5 : Int32)  (x : ab_X) (K : ab_X → Prop) (L3 : Int32 → ab_X → Prop) (d bc bs : Nat) (hdp : 2 ≤ d) (hL3 : ∀ (v4 : Int32) (x : ab_X), L3 v4 x → EW MX6_shorten 3 [(0, .ref 1), (1, .int v1), (2, .int v2), (3, .int v3), (4, .int v4)] [] (aS x) d bc bs (liV K)) (h : Lp2 (lX6_shorten_13 v1 v2 v3 v4 K L3) v5 x) : EW MX6_shorten 13 [(0, .ref 1), (1, .int v1), (2, .int v2), (3, .int v3), (4, .int v4), (5, .int v5)] [] (aS x) d bc bs (liV K) := by
  refine Lp2.use (P := fun v5 x => EW MX6_shorten 13 [(0, .ref 1), (1, .int v1), (2, .int v2), (3, .int v3), (4, .int v4), (5, .int v5)] [] (aS x) d bc bs (liV K)) (fun L13 v5 x hL13 h => ?_) v5 x h
  unfold lX6_shorten_13 at h
  refine EW_iload (pc2 := 15) rfl dX6_shorten_13 5 rfl ?_
  refine EW_bipush (pc2 := 17) (v := 20) rfl dX6_shorten_15 (by decide) ?_
  refine EW_icmp_ge (tgt := 95) (pc2 := 20) rfl dX6_shorten_17 (by decide) (fun q => ?_) (fun q => ?_)
  · replace h := h.1 q
    refine EW_iinc (v4 + 1) (pc2 := 98) rfl dX6_shorten_95 4 rfl rfl (by decide) [1, 2, 3, 4, 0, 5] [(0, .ref 1), (1, .int v1), (2, .int v2), (3, .int v3), (4, .int (v4 + 1)), (5, .int v5)] rfl ?_
    refine EW_goto (tgt := 3) dX6_shorten_98 (by decide) ?_
    refine EW_ls [0, 1, 2, 3, 4] rfl ?_
    exact hL3 (v4 + 1) x h
  · replace h := h.2 q
    refine EW_aload_n (pc2 := 21) rfl dX6_shorten_20 0 rfl ?_
    refine EW_iload (pc2 := 23) rfl dX6_shorten_21 4 rfl ?_
    refine EW_iload_n (pc2 := 24) rfl dX6_shorten_23 1 rfl ?_
    refine AW_invV (M' := MX6_walk) [.int v4, .int v1] (rest := []) mlRX6_49 okX6_walk (pc2 := 27) rfl dX6_shorten_24 rfl rfl (Nat.le_of_ble_eq_true rfl) (Nat.le_of_ble_eq_true rfl) (d' := 1) (by omega) q1 ⟨by decide, rfl⟩ (EW_mono (fun _ _ hr => ?_) (sX6_walk v4 v1  x _ _ 0 0 (Nat.le_refl _) h))
    obtain ⟨r1, rfl, rfl, h⟩ := hr
    refine EW_iload_n (pc2 := 28) rfl dX6_shorten_27 3 rfl ?_
    refine EW_iadd (pc2 := 29) rfl dX6_shorten_28 ?_
    refine EW_aload_n (pc2 := 30) rfl dX6_shorten_29 0 rfl ?_
    refine EW_iload_n (pc2 := 31) rfl dX6_shorten_30 2 rfl ?_
    refine EW_iload (pc2 := 33) rfl dX6_shorten_31 5 rfl ?_
    refine AW_invV (M' := MX6_walk) [.int v2, .int v5] (rest := [.int (r1 + v3)]) mlRX6_49 okX6_walk (pc2 := 36) rfl dX6_shorten_33 rfl rfl (Nat.le_of_ble_eq_true rfl) (Nat.le_of_ble_eq_true rfl) (d' := 1) (by omega) q1 ⟨by decide, rfl⟩ (EW_mono (fun _ _ hr => ?_) (sX6_walk v2 v5  x _ _ 0 0 (Nat.le_refl _) h))
    obtain ⟨r2, rfl, rfl, h⟩ := hr
    refine EW_iadd (pc2 := 37) rfl dX6_shorten_36 ?_
    refine EW_istore (pc2 := 39) rfl dX6_shorten_37 (by decide) [1, 2, 3, 4, 5, 6, 0] [(0, .ref 1), (1, .int v1), (2, .int v2), (3, .int v3), (4, .int v4), (5, .int v5), (6, .int ((r1 + v3) + r2))] rfl ?_
    refine EW_aload_n (pc2 := 40) rfl dX6_shorten_39 0 rfl ?_
    refine EW_iload (pc2 := 42) rfl dX6_shorten_40 4 rfl ?_
    refine EW_iload_n (pc2 := 43) rfl dX6_shorten_42 2 rfl ?_
    refine AW_invV (M' := MX6_walk) [.int v4, .int v2] (rest := []) mlRX6_49 okX6_walk (pc2 := 46) rfl dX6_shorten_43 rfl rfl (Nat.le_of_ble_eq_true rfl) (Nat.le_of_ble_eq_true rfl) (d' := 1) (by omega) q1 ⟨by decide, rfl⟩ (EW_mono (fun _ _ hr => ?_) (sX6_walk v4 v2  x _ _ 0 0 (Nat.le_refl _) h))
    obtain ⟨r3, rfl, rfl, h⟩ := hr
    refine EW_iload_n (pc2 := 47) rfl dX6_shorten_46 3 rfl ?_
    refine EW_iadd (pc2 := 48) rfl dX6_shorten_47 ?_
    refine EW_aload_n (pc2 := 49) rfl dX6_shorten_48 0 rfl ?_
    refine EW_iload_n (pc2 := 50) rfl dX6_shorten_49 1 rfl ?_
    refine EW_iload (pc2 := 52) rfl dX6_shorten_50 5 rfl ?_
    refine AW_invV (M' := MX6_walk) [.int v1, .int v5] (rest := [.int (r3 + v3)]) mlRX6_49 okX6_walk (pc2 := 55) rfl dX6_shorten_52 rfl rfl (Nat.le_of_ble_eq_true rfl) (Nat.le_of_ble_eq_true rfl) (d' := 1) (by omega) q1 ⟨by decide, rfl⟩ (EW_mono (fun _ _ hr => ?_) (sX6_walk v1 v5  x _ _ 0 0 (Nat.le_refl _) h))
    obtain ⟨r4, rfl, rfl, h⟩ := hr
    refine EW_iadd (pc2 := 56) rfl dX6_shorten_55 ?_
    refine EW_istore (pc2 := 58) rfl dX6_shorten_56 (by decide) [1, 2, 3, 4, 5, 6, 7, 0] [(0, .ref 1), (1, .int v1), (2, .int v2), (3, .int v3), (4, .int v4), (5, .int v5), (6, .int ((r1 + v3) + r2)), (7, .int ((r3 + v3) + r4))] rfl ?_
    refine EW_aload_n (pc2 := 59) rfl dX6_shorten_58 0 rfl ?_
    refine AW_getr (r := 7) ⟨gfRX6_28, rfl⟩ (pc2 := 62) rfl dX6_shorten_59 q1 rfl ?_
    refine EW_iload (pc2 := 64) rfl dX6_shorten_62 4 rfl ?_
    refine EW_bipush (pc2 := 66) (v := 20) rfl dX6_shorten_64 (by decide) ?_
    refine EW_imul (pc2 := 67) rfl dX6_shorten_66 ?_
    refine EW_iload (pc2 := 69) rfl dX6_shorten_67 5 rfl ?_
    refine EW_iadd (pc2 := 70) rfl dX6_shorten_69 ?_
    refine EW_aload_n (pc2 := 71) rfl dX6_shorten_70 0 rfl ?_
    refine EW_iload (pc2 := 73) rfl dX6_shorten_71 4 rfl ?_
    refine EW_iload (pc2 := 75) rfl dX6_shorten_73 5 rfl ?_
    refine AW_invV (M' := MX6_walk) [.int v4, .int v5] (rest := [.int ((v4 * 20) + v5), .ref 7]) mlRX6_49 okX6_walk (pc2 := 78) rfl dX6_shorten_75 rfl rfl (Nat.le_of_ble_eq_true rfl) (Nat.le_of_ble_eq_true rfl) (d' := 1) (by omega) q1 ⟨by decide, rfl⟩ (EW_mono (fun _ _ hr => ?_) (sX6_walk v4 v5  x _ _ 0 0 (Nat.le_refl _) h))
    obtain ⟨r5, rfl, rfl, h⟩ := hr
    refine EW_iload (pc2 := 80) rfl dX6_shorten_78 6 rfl ?_
    refine EW_iload (pc2 := 82) rfl dX6_shorten_80 7 rfl ?_
    refine AW_mmin mmRX6_53 (pc2 := 85) rfl dX6_shorten_82 (Nat.le_of_ble_eq_true rfl) (by omega) ?_
    refine AW_mmin mmRX6_53 (pc2 := 88) rfl dX6_shorten_85 (Nat.le_of_ble_eq_true rfl) (by omega) ?_
    obtain ⟨b6, h⟩ := h
    refine AW_iast (pc2 := 89) rfl dX6_shorten_88 q7 b6 ?_
    refine EW_iinc (v5 + 1) (pc2 := 92) rfl dX6_shorten_89 5 rfl rfl (by decide) [1, 2, 3, 4, 5, 0, 6, 7] [(0, .ref 1), (1, .int v1), (2, .int v2), (3, .int v3), (4, .int v4), (5, .int (v5 + 1)), (6, .int ((r1 + v3) + r2)), (7, .int ((r3 + v3) + r4))] rfl ?_
    refine EW_goto (tgt := 13) dX6_shorten_92 (by decide) ?_
    refine EW_ls [0, 1, 2, 3, 4, 5] rfl ?_
    exact hL13 (v5 + 1) (wr x 7 (Int32.toNatClampNeg ((v4 * 20) + v5)) (imin r5 (imin ((r1 + v3) + r2) ((r3 + v3) + r4)))) h
set_option maxHeartbeats 4000000 in
set_option maxRecDepth 100000 in
def lX6_shorten_3 (v1 : Int32) (v2 : Int32) (v3 : Int32) (K : ab_X → Prop)  (L3 : Int32 → ab_X → Prop) (v4 : Int32) (x : ab_X) : Prop := ((20 ≤ v4 → K x) ∧ (¬ 20 ≤ v4 → Lp2 (lX6_shorten_13 v1 v2 v3 v4 K L3) 0 x))
set_option maxHeartbeats 4000000 in
set_option maxRecDepth 100000 in
theorem sX6_shorten_3 (v1 : Int32) (v2 : Int32) (v3 : Int32) (v4 : Int32)  (x : ab_X) (K : ab_X → Prop)  (d bc bs : Nat) (hdp : 2 ≤ d)  (h : Lp2 (lX6_shorten_3 v1 v2 v3 K ) v4 x) : EW MX6_shorten 3 [(0, .ref 1), (1, .int v1), (2, .int v2), (3, .int v3), (4, .int v4)] [] (aS x) d bc bs (liV K) := by
  refine Lp2.use (P := fun v4 x => EW MX6_shorten 3 [(0, .ref 1), (1, .int v1), (2, .int v2), (3, .int v3), (4, .int v4)] [] (aS x) d bc bs (liV K)) (fun L3 v4 x hL3 h => ?_) v4 x h
  unfold lX6_shorten_3 at h
  refine EW_iload (pc2 := 5) rfl dX6_shorten_3 4 rfl ?_
  refine EW_bipush (pc2 := 7) (v := 20) rfl dX6_shorten_5 (by decide) ?_
  refine EW_icmp_ge (tgt := 101) (pc2 := 10) rfl dX6_shorten_7 (by decide) (fun q => ?_) (fun q => ?_)
  · replace h := h.1 q
    exact EW_vret rfl dX6_shorten_101 ⟨_, rfl, rfl, h⟩
  · replace h := h.2 q
    refine EW_iconst (pc2 := 11) (v := 0) rfl dX6_shorten_10 (by decide) ?_
    refine EW_istore (pc2 := 13) rfl dX6_shorten_11 (by decide) [1, 2, 3, 4, 5, 0] [(0, .ref 1), (1, .int v1), (2, .int v2), (3, .int v3), (4, .int v4), (5, .int 0)] rfl ?_
    exact sX6_shorten_13 v1 v2 v3 v4 0 x K L3 d bc bs hdp hL3 h
set_option maxHeartbeats 4000000 in
set_option maxRecDepth 100000 in
def wX6_shorten (v1 : Int32) (v2 : Int32) (v3 : Int32) (x : ab_X) (K : ab_X → Prop) : Prop := Lp2 (lX6_shorten_3 v1 v2 v3 K ) 0 x
set_option maxHeartbeats 4000000 in
set_option maxRecDepth 100000 in
theorem sX6_shorten (v1 : Int32) (v2 : Int32) (v3 : Int32)  (x : ab_X) (K : ab_X → Prop) (d bc bs : Nat) (hdp : 2 ≤ d) (h : wX6_shorten v1 v2 v3 x K) : EW MX6_shorten 0 [(0, .ref 1), (1, .int v1), (2, .int v2), (3, .int v3)] [] (aS x) d bc bs (liV K) := by
  unfold wX6_shorten at h
  refine EW_iconst (pc2 := 1) (v := 0) rfl dX6_shorten_0 (by decide) ?_
  refine EW_istore (pc2 := 3) rfl dX6_shorten_1 (by decide) [1, 2, 3, 4, 0] [(0, .ref 1), (1, .int v1), (2, .int v2), (3, .int v3), (4, .int 0)] rfl ?_
  exact sX6_shorten_3 v1 v2 v3 0 x K d bc bs hdp h
theorem mlRX6_45 : Cond.methodLink RX6 45 yX6_shorten ∈ ab_G ∧ Cond.instanceMethod yX6_shorten ∈ ab_G ∧ Cond.selects RX6 yX6_shorten yX6_shorten ∈ ab_G := ⟨ab_in 777 (by decide +kernel) (by decide +kernel), ab_in 778 (by decide +kernel) (by decide +kernel), ab_in 779 (by decide +kernel) (by decide +kernel)⟩
abbrev MX6_add : ab_M := (yX6_add, cX6_add, 4, (some .int))
theorem dX6_add_0 : decode cX6_add 0 = .ok (.aload_n 0, 1) := by decide +kernel
theorem dX6_add_1 : decode cX6_add 1 = .ok (.getfield 41, 3) := by decide +kernel
theorem dX6_add_4 : decode cX6_add 4 = .ok (.bipush 40, 2) := by decide +kernel
theorem dX6_add_6 : decode cX6_add 6 = .ok (.if_icmp .lt 5, 3) := by decide +kernel
theorem dX6_add_9 : decode cX6_add 9 = .ok (.iconst (-1), 1) := by decide +kernel
theorem dX6_add_10 : decode cX6_add 10 = .ok (.ireturn, 1) := by decide +kernel
theorem dX6_add_11 : decode cX6_add 11 = .ok (.aload_n 0, 1) := by decide +kernel
theorem dX6_add_12 : decode cX6_add 12 = .ok (.getfield 9, 3) := by decide +kernel
theorem dX6_add_15 : decode cX6_add 15 = .ok (.aload_n 0, 1) := by decide +kernel
theorem dX6_add_16 : decode cX6_add 16 = .ok (.getfield 41, 3) := by decide +kernel
theorem dX6_add_19 : decode cX6_add 19 = .ok (.iload_n 1, 1) := by decide +kernel
theorem dX6_add_20 : decode cX6_add 20 = .ok (.iastore, 1) := by decide +kernel
theorem dX6_add_21 : decode cX6_add 21 = .ok (.aload_n 0, 1) := by decide +kernel
theorem dX6_add_22 : decode cX6_add 22 = .ok (.getfield 15, 3) := by decide +kernel
theorem dX6_add_25 : decode cX6_add 25 = .ok (.aload_n 0, 1) := by decide +kernel
theorem dX6_add_26 : decode cX6_add 26 = .ok (.getfield 41, 3) := by decide +kernel
theorem dX6_add_29 : decode cX6_add 29 = .ok (.iload_n 2, 1) := by decide +kernel
theorem dX6_add_30 : decode cX6_add 30 = .ok (.iastore, 1) := by decide +kernel
theorem dX6_add_31 : decode cX6_add 31 = .ok (.aload_n 0, 1) := by decide +kernel
theorem dX6_add_32 : decode cX6_add 32 = .ok (.getfield 18, 3) := by decide +kernel
theorem dX6_add_35 : decode cX6_add 35 = .ok (.aload_n 0, 1) := by decide +kernel
theorem dX6_add_36 : decode cX6_add 36 = .ok (.getfield 41, 3) := by decide +kernel
theorem dX6_add_39 : decode cX6_add 39 = .ok (.iload_n 3, 1) := by decide +kernel
theorem dX6_add_40 : decode cX6_add 40 = .ok (.iastore, 1) := by decide +kernel
theorem dX6_add_41 : decode cX6_add 41 = .ok (.aload_n 0, 1) := by decide +kernel
theorem dX6_add_42 : decode cX6_add 42 = .ok (.dup, 1) := by decide +kernel
theorem dX6_add_43 : decode cX6_add 43 = .ok (.getfield 41, 3) := by decide +kernel
theorem dX6_add_46 : decode cX6_add 46 = .ok (.iconst 1, 1) := by decide +kernel
theorem dX6_add_47 : decode cX6_add 47 = .ok (.iadd, 1) := by decide +kernel
theorem dX6_add_48 : decode cX6_add 48 = .ok (.putfield 41, 3) := by decide +kernel
theorem dX6_add_51 : decode cX6_add 51 = .ok (.aload_n 0, 1) := by decide +kernel
theorem dX6_add_52 : decode cX6_add 52 = .ok (.iload_n 1, 1) := by decide +kernel
theorem dX6_add_53 : decode cX6_add 53 = .ok (.iload_n 2, 1) := by decide +kernel
theorem dX6_add_54 : decode cX6_add 54 = .ok (.iload_n 3, 1) := by decide +kernel
theorem dX6_add_55 : decode cX6_add 55 = .ok (.invokevirtual 45, 3) := by decide +kernel
theorem dX6_add_58 : decode cX6_add 58 = .ok (.aload_n 0, 1) := by decide +kernel
theorem dX6_add_59 : decode cX6_add 59 = .ok (.getfield 41, 3) := by decide +kernel
theorem dX6_add_62 : decode cX6_add 62 = .ok (.iconst 1, 1) := by decide +kernel
theorem dX6_add_63 : decode cX6_add 63 = .ok (.isub, 1) := by decide +kernel
theorem dX6_add_64 : decode cX6_add 64 = .ok (.ireturn, 1) := by decide +kernel
theorem okX6_add : ab_okM MX6_add 3 := ⟨by decide, ⟨by decide, by decide⟩, ab_in 776 (by decide +kernel) (by decide +kernel), ab_in 87 (by decide +kernel) (by decide +kernel), by decide +kernel, by decide⟩
set_option maxHeartbeats 4000000 in
set_option maxRecDepth 100000 in
def wX6_add (v1 : Int32) (v2 : Int32) (v3 : Int32) (x : ab_X) (K : Int32 → ab_X → Prop) : Prop := (((x.1 1 7) < 40 → (vp_in (x.1 1 7) 40 ∧ vp_in ((wr x 2 (Int32.toNatClampNeg (x.1 1 7)) v1).1 1 7) 40 ∧ vp_in ((wr (wr x 2 (Int32.toNatClampNeg (x.1 1 7)) v1) 3 (Int32.toNatClampNeg ((wr x 2 (Int32.toNatClampNeg (x.1 1 7)) v1).1 1 7)) v2).1 1 7) 40 ∧ wX6_shorten v1 v2 v3 (wr (wr (wr (wr x 2 (Int32.toNatClampNeg (x.1 1 7)) v1) 3 (Int32.toNatClampNeg ((wr x 2 (Int32.toNatClampNeg (x.1 1 7)) v1).1 1 7)) v2) 4 (Int32.toNatClampNeg ((wr (wr x 2 (Int32.toNatClampNeg (x.1 1 7)) v1) 3 (Int32.toNatClampNeg ((wr x 2 (Int32.toNatClampNeg (x.1 1 7)) v1).1 1 7)) v2).1 1 7)) v3) 1 7 (((wr (wr (wr x 2 (Int32.toNatClampNeg (x.1 1 7)) v1) 3 (Int32.toNatClampNeg ((wr x 2 (Int32.toNatClampNeg (x.1 1 7)) v1).1 1 7)) v2) 4 (Int32.toNatClampNeg ((wr (wr x 2 (Int32.toNatClampNeg (x.1 1 7)) v1) 3 (Int32.toNatClampNeg ((wr x 2 (Int32.toNatClampNeg (x.1 1 7)) v1).1 1 7)) v2).1 1 7)) v3).1 1 7) + 1)) (fun x4 => K ((x4.1 1 7) - 1) x4))) ∧ (¬ (x.1 1 7) < 40 → K (-1) x))
set_option maxHeartbeats 4000000 in
set_option maxRecDepth 100000 in
theorem sX6_add (v1 : Int32) (v2 : Int32) (v3 : Int32)  (x : ab_X) (K : Int32 → ab_X → Prop) (d bc bs : Nat) (hdp : 3 ≤ d) (h : wX6_add v1 v2 v3 x K) : EW MX6_add 0 [(0, .ref 1), (1, .int v1), (2, .int v2), (3, .int v3)] [] (aS x) d bc bs (liI K) := by
  unfold wX6_add at h
  refine EW_aload_n (pc2 := 1) rfl dX6_add_0 0 rfl ?_
  refine AW_geti ⟨gfRX6_41, rfl⟩ (pc2 := 4) rfl dX6_add_1 q1 ?_
  refine EW_bipush (pc2 := 6) (v := 40) rfl dX6_add_4 (by decide) ?_
  refine EW_icmp_lt (tgt := 11) (pc2 := 9) rfl dX6_add_6 (by decide) (fun q => ?_) (fun q => ?_)
  · replace h := h.1 q
    refine EW_aload_n (pc2 := 12) rfl dX6_add_11 0 rfl ?_
    refine AW_getr (r := 2) ⟨gfRX6_9, rfl⟩ (pc2 := 15) rfl dX6_add_12 q1 rfl ?_
    refine EW_aload_n (pc2 := 16) rfl dX6_add_15 0 rfl ?_
    refine AW_geti ⟨gfRX6_41, rfl⟩ (pc2 := 19) rfl dX6_add_16 q1 ?_
    refine EW_iload_n (pc2 := 20) rfl dX6_add_19 1 rfl ?_
    obtain ⟨b1, h⟩ := h
    refine AW_iast (pc2 := 21) rfl dX6_add_20 q2 b1 ?_
    refine EW_aload_n (pc2 := 22) rfl dX6_add_21 0 rfl ?_
    refine AW_getr (r := 3) ⟨gfRX6_15, rfl⟩ (pc2 := 25) rfl dX6_add_22 q1 rfl ?_
    refine EW_aload_n (pc2 := 26) rfl dX6_add_25 0 rfl ?_
    refine AW_geti ⟨gfRX6_41, rfl⟩ (pc2 := 29) rfl dX6_add_26 q1 ?_
    refine EW_iload_n (pc2 := 30) rfl dX6_add_29 2 rfl ?_
    obtain ⟨b2, h⟩ := h
    refine AW_iast (pc2 := 31) rfl dX6_add_30 q3 b2 ?_
    refine EW_aload_n (pc2 := 32) rfl dX6_add_31 0 rfl ?_
    refine AW_getr (r := 4) ⟨gfRX6_18, rfl⟩ (pc2 := 35) rfl dX6_add_32 q1 rfl ?_
    refine EW_aload_n (pc2 := 36) rfl dX6_add_35 0 rfl ?_
    refine AW_geti ⟨gfRX6_41, rfl⟩ (pc2 := 39) rfl dX6_add_36 q1 ?_
    refine EW_iload_n (pc2 := 40) rfl dX6_add_39 3 rfl ?_
    obtain ⟨b3, h⟩ := h
    refine AW_iast (pc2 := 41) rfl dX6_add_40 q4 b3 ?_
    refine EW_aload_n (pc2 := 42) rfl dX6_add_41 0 rfl ?_
    refine EW_dup (pc2 := 43) rfl dX6_add_42 rfl ?_
    refine AW_geti ⟨gfRX6_41, rfl⟩ (pc2 := 46) rfl dX6_add_43 q1 ?_
    refine EW_iconst (pc2 := 47) (v := 1) rfl dX6_add_46 (by decide) ?_
    refine EW_iadd (pc2 := 48) rfl dX6_add_47 ?_
    refine AW_puti ⟨gfRX6_41, rfl, rfl⟩ (pc2 := 51) rfl dX6_add_48 q1 ?_
    refine EW_aload_n (pc2 := 52) rfl dX6_add_51 0 rfl ?_
    refine EW_iload_n (pc2 := 53) rfl dX6_add_52 1 rfl ?_
    refine EW_iload_n (pc2 := 54) rfl dX6_add_53 2 rfl ?_
    refine EW_iload_n (pc2 := 55) rfl dX6_add_54 3 rfl ?_
    refine AW_invV (M' := MX6_shorten) [.int v1, .int v2, .int v3] (rest := []) mlRX6_45 okX6_shorten (pc2 := 58) rfl dX6_add_55 rfl rfl (Nat.le_of_ble_eq_true rfl) (Nat.le_of_ble_eq_true rfl) (d' := 2) (by omega) q1 ⟨by decide, rfl⟩ (EW_mono (fun _ _ hr => ?_) (sX6_shorten v1 v2 v3  (wr (wr (wr (wr x 2 (Int32.toNatClampNeg (x.1 1 7)) v1) 3 (Int32.toNatClampNeg ((wr x 2 (Int32.toNatClampNeg (x.1 1 7)) v1).1 1 7)) v2) 4 (Int32.toNatClampNeg ((wr (wr x 2 (Int32.toNatClampNeg (x.1 1 7)) v1) 3 (Int32.toNatClampNeg ((wr x 2 (Int32.toNatClampNeg (x.1 1 7)) v1).1 1 7)) v2).1 1 7)) v3) 1 7 (((wr (wr (wr x 2 (Int32.toNatClampNeg (x.1 1 7)) v1) 3 (Int32.toNatClampNeg ((wr x 2 (Int32.toNatClampNeg (x.1 1 7)) v1).1 1 7)) v2) 4 (Int32.toNatClampNeg ((wr (wr x 2 (Int32.toNatClampNeg (x.1 1 7)) v1) 3 (Int32.toNatClampNeg ((wr x 2 (Int32.toNatClampNeg (x.1 1 7)) v1).1 1 7)) v2).1 1 7)) v3).1 1 7) + 1)) _ _ 0 0 (Nat.le_refl _) h))
    obtain ⟨x4, rfl, rfl, h⟩ := hr
    refine EW_aload_n (pc2 := 59) rfl dX6_add_58 0 rfl ?_
    refine AW_geti ⟨gfRX6_41, rfl⟩ (pc2 := 62) rfl dX6_add_59 q1 ?_
    refine EW_iconst (pc2 := 63) (v := 1) rfl dX6_add_62 (by decide) ?_
    refine EW_isub (pc2 := 64) rfl dX6_add_63 ?_
    exact AW_iret rfl dX6_add_64 ⟨_, _, rfl, rfl, h⟩
  · replace h := h.2 q
    refine EW_iconst (pc2 := 10) (v := (-1)) rfl dX6_add_9 (by decide) ?_
    exact AW_iret rfl dX6_add_10 ⟨_, _, rfl, rfl, h⟩
theorem mlRX11_78 : Cond.methodLink RX11 78 yX6_add ∈ ab_G ∧ Cond.instanceMethod yX6_add ∈ ab_G ∧ Cond.selects RX6 yX6_add yX6_add ∈ ab_G := ⟨ab_in 773 (by decide +kernel) (by decide +kernel), ab_in 774 (by decide +kernel) (by decide +kernel), ab_in 775 (by decide +kernel) (by decide +kernel)⟩
abbrev MX11_street : ab_M := (yX11_street, cX11_street, 4, (some .int))
theorem dX11_street_0 : decode cX11_street 0 = .ok (.iload_n 1, 1) := by decide +kernel
theorem dX11_street_1 : decode cX11_street 1 = .ok (.invokestatic 70, 3) := by decide +kernel
theorem dX11_street_4 : decode cX11_street 4 = .ok (.ifCond .eq 25, 3) := by decide +kernel
theorem dX11_street_7 : decode cX11_street 7 = .ok (.iload_n 2, 1) := by decide +kernel
theorem dX11_street_8 : decode cX11_street 8 = .ok (.invokestatic 70, 3) := by decide +kernel
theorem dX11_street_11 : decode cX11_street 11 = .ok (.ifCond .eq 18, 3) := by decide +kernel
theorem dX11_street_14 : decode cX11_street 14 = .ok (.iload_n 1, 1) := by decide +kernel
theorem dX11_street_15 : decode cX11_street 15 = .ok (.iload_n 2, 1) := by decide +kernel
theorem dX11_street_16 : decode cX11_street 16 = .ok (.if_icmp .eq 13, 3) := by decide +kernel
theorem dX11_street_19 : decode cX11_street 19 = .ok (.iload_n 3, 1) := by decide +kernel
theorem dX11_street_20 : decode cX11_street 20 = .ok (.iconst 1, 1) := by decide +kernel
theorem dX11_street_21 : decode cX11_street 21 = .ok (.bipush 20, 2) := by decide +kernel
theorem dX11_street_23 : decode cX11_street 23 = .ok (.invokestatic 74, 3) := by decide +kernel
theorem dX11_street_26 : decode cX11_street 26 = .ok (.ifCond .ne 5, 3) := by decide +kernel
theorem dX11_street_29 : decode cX11_street 29 = .ok (.iconst (-1), 1) := by decide +kernel
theorem dX11_street_30 : decode cX11_street 30 = .ok (.ireturn, 1) := by decide +kernel
theorem dX11_street_31 : decode cX11_street 31 = .ok (.aload_n 0, 1) := by decide +kernel
theorem dX11_street_32 : decode cX11_street 32 = .ok (.getfield 12, 3) := by decide +kernel
theorem dX11_street_35 : decode cX11_street 35 = .ok (.iload_n 1, 1) := by decide +kernel
theorem dX11_street_36 : decode cX11_street 36 = .ok (.iload_n 2, 1) := by decide +kernel
theorem dX11_street_37 : decode cX11_street 37 = .ok (.iload_n 3, 1) := by decide +kernel
theorem dX11_street_38 : decode cX11_street 38 = .ok (.invokevirtual 78, 3) := by decide +kernel
theorem dX11_street_41 : decode cX11_street 41 = .ok (.ireturn, 1) := by decide +kernel
theorem okX11_street : ab_okM MX11_street 3 := ⟨by decide, ⟨by decide, by decide⟩, ab_in 766 (by decide +kernel) (by decide +kernel), ab_in 86 (by decide +kernel) (by decide +kernel), by decide +kernel, by decide⟩
set_option maxHeartbeats 4000000 in
set_option maxRecDepth 100000 in
def wX11_street (v1 : Int32) (v2 : Int32) (v3 : Int32) (x : ab_X) (K : Int32 → ab_X → Prop) : Prop := wX11_isCorner v1 x (fun r1 => ((r1 = 0 → K (-1) x) ∧ (¬ r1 = 0 → wX11_isCorner v2 x (fun r2 => ((r2 = 0 → K (-1) x) ∧ (¬ r2 = 0 → ((v1 = v2 → K (-1) x) ∧ (¬ v1 = v2 → wX11_within v3 1 20 x (fun r3 => ((¬ r3 = 0 → wX6_add v1 v2 v3 x (fun r4 x5 => K r4 x5)) ∧ (r3 = 0 → K (-1) x)))))))))))
set_option maxHeartbeats 4000000 in
set_option maxRecDepth 100000 in
theorem sX11_street (v1 : Int32) (v2 : Int32) (v3 : Int32)  (x : ab_X) (K : Int32 → ab_X → Prop) (d bc bs : Nat) (hdp : 4 ≤ d) (h : wX11_street v1 v2 v3 x K) : EW MX11_street 0 [(0, .ref 0), (1, .int v1), (2, .int v2), (3, .int v3)] [] (aS x) d bc bs (liI K) := by
  unfold wX11_street at h
  refine EW_iload_n (pc2 := 1) rfl dX11_street_0 1 rfl ?_
  refine AW_invS (M' := MX11_isCorner) [.int v1] (rest := []) mlRX11_70 okX11_isCorner (pc2 := 4) rfl dX11_street_1 rfl rfl (Nat.le_of_ble_eq_true rfl) (Nat.le_of_ble_eq_true rfl) (d' := 0) (by omega) (EW_mono (fun _ _ hr => ?_) (sX11_isCorner v1  x _ _ 0 0 (Nat.le_refl _) h))
  obtain ⟨r1, rfl, rfl, h⟩ := hr
  refine EW_if_eq (tgt := 29) (pc2 := 7) rfl dX11_street_4 (by decide) (fun q => ?_) (fun q => ?_)
  · replace h := h.1 q
    refine EW_iconst (pc2 := 30) (v := (-1)) rfl dX11_street_29 (by decide) ?_
    exact AW_iret rfl dX11_street_30 ⟨_, _, rfl, rfl, h⟩
  · replace h := h.2 q
    refine EW_iload_n (pc2 := 8) rfl dX11_street_7 2 rfl ?_
    refine AW_invS (M' := MX11_isCorner) [.int v2] (rest := []) mlRX11_70 okX11_isCorner (pc2 := 11) rfl dX11_street_8 rfl rfl (Nat.le_of_ble_eq_true rfl) (Nat.le_of_ble_eq_true rfl) (d' := 0) (by omega) (EW_mono (fun _ _ hr => ?_) (sX11_isCorner v2  x _ _ 0 0 (Nat.le_refl _) h))
    obtain ⟨r2, rfl, rfl, h⟩ := hr
    refine EW_if_eq (tgt := 29) (pc2 := 14) rfl dX11_street_11 (by decide) (fun q => ?_) (fun q => ?_)
    · replace h := h.1 q
      refine EW_iconst (pc2 := 30) (v := (-1)) rfl dX11_street_29 (by decide) ?_
      exact AW_iret rfl dX11_street_30 ⟨_, _, rfl, rfl, h⟩
    · replace h := h.2 q
      refine EW_iload_n (pc2 := 15) rfl dX11_street_14 1 rfl ?_
      refine EW_iload_n (pc2 := 16) rfl dX11_street_15 2 rfl ?_
      refine EW_icmp_eq (tgt := 29) (pc2 := 19) rfl dX11_street_16 (by decide) (fun q => ?_) (fun q => ?_)
      · replace h := h.1 q
        refine EW_iconst (pc2 := 30) (v := (-1)) rfl dX11_street_29 (by decide) ?_
        exact AW_iret rfl dX11_street_30 ⟨_, _, rfl, rfl, h⟩
      · replace h := h.2 q
        refine EW_iload_n (pc2 := 20) rfl dX11_street_19 3 rfl ?_
        refine EW_iconst (pc2 := 21) (v := 1) rfl dX11_street_20 (by decide) ?_
        refine EW_bipush (pc2 := 23) (v := 20) rfl dX11_street_21 (by decide) ?_
        refine AW_invS (M' := MX11_within) [.int v3, .int 1, .int 20] (rest := []) mlRX11_74 okX11_within (pc2 := 26) rfl dX11_street_23 rfl rfl (Nat.le_of_ble_eq_true rfl) (Nat.le_of_ble_eq_true rfl) (d' := 0) (by omega) (EW_mono (fun _ _ hr => ?_) (sX11_within v3 1 20  x _ _ 0 0 (Nat.le_refl _) h))
        obtain ⟨r3, rfl, rfl, h⟩ := hr
        refine EW_if_ne (tgt := 31) (pc2 := 29) rfl dX11_street_26 (by decide) (fun q => ?_) (fun q => ?_)
        · replace h := h.1 q
          refine EW_aload_n (pc2 := 32) rfl dX11_street_31 0 rfl ?_
          refine AW_getr (r := 1) ⟨gfRX11_12, rfl⟩ (pc2 := 35) rfl dX11_street_32 q0 rfl ?_
          refine EW_iload_n (pc2 := 36) rfl dX11_street_35 1 rfl ?_
          refine EW_iload_n (pc2 := 37) rfl dX11_street_36 2 rfl ?_
          refine EW_iload_n (pc2 := 38) rfl dX11_street_37 3 rfl ?_
          refine AW_invV (M' := MX6_add) [.int v1, .int v2, .int v3] (rest := []) mlRX11_78 okX6_add (pc2 := 41) rfl dX11_street_38 rfl rfl (Nat.le_of_ble_eq_true rfl) (Nat.le_of_ble_eq_true rfl) (d' := 3) (by omega) q1 ⟨by decide, rfl⟩ (EW_mono (fun _ _ hr => ?_) (sX6_add v1 v2 v3  x _ _ 0 0 (Nat.le_refl _) h))
          obtain ⟨r4, x5, rfl, rfl, h⟩ := hr
          exact AW_iret rfl dX11_street_41 ⟨_, _, rfl, rfl, h⟩
        · replace h := h.2 q
          refine EW_iconst (pc2 := 30) (v := (-1)) rfl dX11_street_29 (by decide) ?_
          exact AW_iret rfl dX11_street_30 ⟨_, _, rfl, rfl, h⟩
theorem mlRX11_403 : Cond.methodLink RX11 403 yX0_passMinute ∈ ab_G ∧ Cond.instanceMethod yX0_passMinute ∈ ab_G ∧ Cond.selects RX0 yX0_passMinute yX0_passMinute ∈ ab_G := ⟨ab_in 1355 (by decide +kernel) (by decide +kernel), ab_in 1356 (by decide +kernel) (by decide +kernel), ab_in 1357 (by decide +kernel) (by decide +kernel)⟩
abbrev MX11_tick : ab_M := (yX11_tick, cX11_tick, 3, (some .int))
theorem dX11_tick_0 : decode cX11_tick 0 = .ok (.iload_n 1, 1) := by decide +kernel
theorem dX11_tick_1 : decode cX11_tick 1 = .ok (.iconst 0, 1) := by decide +kernel
theorem dX11_tick_2 : decode cX11_tick 2 = .ok (.sipush 300, 3) := by decide +kernel
theorem dX11_tick_5 : decode cX11_tick 5 = .ok (.invokestatic 74, 3) := by decide +kernel
theorem dX11_tick_8 : decode cX11_tick 8 = .ok (.ifCond .eq 18, 3) := by decide +kernel
theorem dX11_tick_11 : decode cX11_tick 11 = .ok (.aload_n 0, 1) := by decide +kernel
theorem dX11_tick_12 : decode cX11_tick 12 = .ok (.getfield 30, 3) := by decide +kernel
theorem dX11_tick_15 : decode cX11_tick 15 = .ok (.getfield 400, 3) := by decide +kernel
theorem dX11_tick_18 : decode cX11_tick 18 = .ok (.iload_n 1, 1) := by decide +kernel
theorem dX11_tick_19 : decode cX11_tick 19 = .ok (.iadd, 1) := by decide +kernel
theorem dX11_tick_20 : decode cX11_tick 20 = .ok (.sipush 20000, 3) := by decide +kernel
theorem dX11_tick_23 : decode cX11_tick 23 = .ok (.if_icmp .le 5, 3) := by decide +kernel
theorem dX11_tick_26 : decode cX11_tick 26 = .ok (.iconst (-1), 1) := by decide +kernel
theorem dX11_tick_27 : decode cX11_tick 27 = .ok (.ireturn, 1) := by decide +kernel
theorem dX11_tick_28 : decode cX11_tick 28 = .ok (.iconst 0, 1) := by decide +kernel
theorem dX11_tick_29 : decode cX11_tick 29 = .ok (.istore_n 2, 1) := by decide +kernel
theorem dX11_tick_30 : decode cX11_tick 30 = .ok (.iload_n 2, 1) := by decide +kernel
theorem dX11_tick_31 : decode cX11_tick 31 = .ok (.iload_n 1, 1) := by decide +kernel
theorem dX11_tick_32 : decode cX11_tick 32 = .ok (.if_icmp .ge 16, 3) := by decide +kernel
theorem dX11_tick_35 : decode cX11_tick 35 = .ok (.aload_n 0, 1) := by decide +kernel
theorem dX11_tick_36 : decode cX11_tick 36 = .ok (.getfield 30, 3) := by decide +kernel
theorem dX11_tick_39 : decode cX11_tick 39 = .ok (.invokevirtual 403, 3) := by decide +kernel
theorem dX11_tick_42 : decode cX11_tick 42 = .ok (.iinc 2 1, 3) := by decide +kernel
theorem dX11_tick_45 : decode cX11_tick 45 = .ok (.goto (-15), 3) := by decide +kernel
theorem dX11_tick_48 : decode cX11_tick 48 = .ok (.aload_n 0, 1) := by decide +kernel
theorem dX11_tick_49 : decode cX11_tick 49 = .ok (.getfield 30, 3) := by decide +kernel
theorem dX11_tick_52 : decode cX11_tick 52 = .ok (.getfield 400, 3) := by decide +kernel
theorem dX11_tick_55 : decode cX11_tick 55 = .ok (.ireturn, 1) := by decide +kernel
theorem okX11_tick : ab_okM MX11_tick 1 := ⟨by decide, ⟨by decide, by decide⟩, ab_in 1354 (by decide +kernel) (by decide +kernel), ab_in 86 (by decide +kernel) (by decide +kernel), by decide +kernel, by decide⟩
set_option maxHeartbeats 4000000 in
set_option maxRecDepth 100000 in
def lX11_tick_30 (v1 : Int32) (K : Int32 → ab_X → Prop)  (L30 : Int32 → ab_X → Prop) (v2 : Int32) (x : ab_X) : Prop := ((v1 ≤ v2 → K (x.1 66 12) x) ∧ (¬ v1 ≤ v2 → wX0_passMinute x (fun x2 => L30 (v2 + 1) x2)))
set_option maxHeartbeats 4000000 in
set_option maxRecDepth 100000 in
theorem sX11_tick_30 (v1 : Int32) (v2 : Int32)  (x : ab_X) (K : Int32 → ab_X → Prop)  (d bc bs : Nat) (hdp : 7 ≤ d)  (h : Lp2 (lX11_tick_30 v1 K ) v2 x) : EW MX11_tick 30 [(0, .ref 0), (1, .int v1), (2, .int v2)] [] (aS x) d bc bs (liI K) := by
  refine Lp2.use (P := fun v2 x => EW MX11_tick 30 [(0, .ref 0), (1, .int v1), (2, .int v2)] [] (aS x) d bc bs (liI K)) (fun L30 v2 x hL30 h => ?_) v2 x h
  unfold lX11_tick_30 at h
  refine EW_iload_n (pc2 := 31) rfl dX11_tick_30 2 rfl ?_
  refine EW_iload_n (pc2 := 32) rfl dX11_tick_31 1 rfl ?_
  refine EW_icmp_ge (tgt := 48) (pc2 := 35) rfl dX11_tick_32 (by decide) (fun q => ?_) (fun q => ?_)
  · replace h := h.1 q
    refine EW_aload_n (pc2 := 49) rfl dX11_tick_48 0 rfl ?_
    refine AW_getr (r := 66) ⟨gfRX11_30, rfl⟩ (pc2 := 52) rfl dX11_tick_49 q0 rfl ?_
    refine AW_geti ⟨gfRX11_400, rfl⟩ (pc2 := 55) rfl dX11_tick_52 q66 ?_
    exact AW_iret rfl dX11_tick_55 ⟨_, _, rfl, rfl, h⟩
  · replace h := h.2 q
    refine EW_aload_n (pc2 := 36) rfl dX11_tick_35 0 rfl ?_
    refine AW_getr (r := 66) ⟨gfRX11_30, rfl⟩ (pc2 := 39) rfl dX11_tick_36 q0 rfl ?_
    refine AW_invV (M' := MX0_passMinute) [] (rest := []) mlRX11_403 okX0_passMinute (pc2 := 42) rfl dX11_tick_39 rfl rfl (Nat.le_of_ble_eq_true rfl) (Nat.le_of_ble_eq_true rfl) (d' := 6) (by omega) q66 ⟨by decide, rfl⟩ (EW_mono (fun _ _ hr => ?_) (sX0_passMinute   x _ _ 0 0 (Nat.le_refl _) h))
    obtain ⟨x2, rfl, rfl, h⟩ := hr
    refine EW_iinc (v2 + 1) (pc2 := 45) rfl dX11_tick_42 2 rfl rfl (by decide) [1, 2, 0] [(0, .ref 0), (1, .int v1), (2, .int (v2 + 1))] rfl ?_
    refine EW_goto (tgt := 30) dX11_tick_45 (by decide) ?_
    exact hL30 (v2 + 1) x2 h
set_option maxHeartbeats 4000000 in
set_option maxRecDepth 100000 in
def wX11_tick (v1 : Int32) (x : ab_X) (K : Int32 → ab_X → Prop) : Prop := wX11_within v1 0 300 x (fun r1 => ((r1 = 0 → K (-1) x) ∧ (¬ r1 = 0 → ((((x.1 66 12) + v1) ≤ 20000 → Lp2 (lX11_tick_30 v1 K ) 0 x) ∧ (¬ ((x.1 66 12) + v1) ≤ 20000 → K (-1) x)))))
set_option maxHeartbeats 4000000 in
set_option maxRecDepth 100000 in
theorem sX11_tick (v1 : Int32)  (x : ab_X) (K : Int32 → ab_X → Prop) (d bc bs : Nat) (hdp : 7 ≤ d) (h : wX11_tick v1 x K) : EW MX11_tick 0 [(0, .ref 0), (1, .int v1)] [] (aS x) d bc bs (liI K) := by
  unfold wX11_tick at h
  refine EW_iload_n (pc2 := 1) rfl dX11_tick_0 1 rfl ?_
  refine EW_iconst (pc2 := 2) (v := 0) rfl dX11_tick_1 (by decide) ?_
  refine EW_sipush (pc2 := 5) (v := 300) rfl dX11_tick_2 (by decide) ?_
  refine AW_invS (M' := MX11_within) [.int v1, .int 0, .int 300] (rest := []) mlRX11_74 okX11_within (pc2 := 8) rfl dX11_tick_5 rfl rfl (Nat.le_of_ble_eq_true rfl) (Nat.le_of_ble_eq_true rfl) (d' := 0) (by omega) (EW_mono (fun _ _ hr => ?_) (sX11_within v1 0 300  x _ _ 0 0 (Nat.le_refl _) h))
  obtain ⟨r1, rfl, rfl, h⟩ := hr
  refine EW_if_eq (tgt := 26) (pc2 := 11) rfl dX11_tick_8 (by decide) (fun q => ?_) (fun q => ?_)
  · replace h := h.1 q
    refine EW_iconst (pc2 := 27) (v := (-1)) rfl dX11_tick_26 (by decide) ?_
    exact AW_iret rfl dX11_tick_27 ⟨_, _, rfl, rfl, h⟩
  · replace h := h.2 q
    refine EW_aload_n (pc2 := 12) rfl dX11_tick_11 0 rfl ?_
    refine AW_getr (r := 66) ⟨gfRX11_30, rfl⟩ (pc2 := 15) rfl dX11_tick_12 q0 rfl ?_
    refine AW_geti ⟨gfRX11_400, rfl⟩ (pc2 := 18) rfl dX11_tick_15 q66 ?_
    refine EW_iload_n (pc2 := 19) rfl dX11_tick_18 1 rfl ?_
    refine EW_iadd (pc2 := 20) rfl dX11_tick_19 ?_
    refine EW_sipush (pc2 := 23) (v := 20000) rfl dX11_tick_20 (by decide) ?_
    refine EW_icmp_le (tgt := 28) (pc2 := 26) rfl dX11_tick_23 (by decide) (fun q => ?_) (fun q => ?_)
    · replace h := h.1 q
      refine EW_iconst (pc2 := 29) (v := 0) rfl dX11_tick_28 (by decide) ?_
      refine EW_istore_n (pc2 := 30) rfl dX11_tick_29 (by decide) [1, 2, 0] [(0, .ref 0), (1, .int v1), (2, .int 0)] rfl ?_
      exact sX11_tick_30 v1 0 x K d bc bs hdp h
    · replace h := h.2 q
      refine EW_iconst (pc2 := 27) (v := (-1)) rfl dX11_tick_26 (by decide) ?_
      exact AW_iret rfl dX11_tick_27 ⟨_, _, rfl, rfl, h⟩
abbrev MX5_wasChanged : ab_M := (yX5_wasChanged, cX5_wasChanged, 3, (some .boolean))
theorem dX5_wasChanged_0 : decode cX5_wasChanged 0 = .ok (.iconst 0, 1) := by decide +kernel
theorem dX5_wasChanged_1 : decode cX5_wasChanged 1 = .ok (.istore_n 2, 1) := by decide +kernel
theorem dX5_wasChanged_2 : decode cX5_wasChanged 2 = .ok (.iload_n 2, 1) := by decide +kernel
theorem dX5_wasChanged_3 : decode cX5_wasChanged 3 = .ok (.aload_n 0, 1) := by decide +kernel
theorem dX5_wasChanged_4 : decode cX5_wasChanged 4 = .ok (.getfield 50, 3) := by decide +kernel
theorem dX5_wasChanged_7 : decode cX5_wasChanged 7 = .ok (.if_icmp .ge 31, 3) := by decide +kernel
theorem dX5_wasChanged_10 : decode cX5_wasChanged 10 = .ok (.aload_n 0, 1) := by decide +kernel
theorem dX5_wasChanged_11 : decode cX5_wasChanged 11 = .ok (.getfield 24, 3) := by decide +kernel
theorem dX5_wasChanged_14 : decode cX5_wasChanged 14 = .ok (.iload_n 2, 1) := by decide +kernel
theorem dX5_wasChanged_15 : decode cX5_wasChanged 15 = .ok (.iaload, 1) := by decide +kernel
theorem dX5_wasChanged_16 : decode cX5_wasChanged 16 = .ok (.iload_n 1, 1) := by decide +kernel
theorem dX5_wasChanged_17 : decode cX5_wasChanged 17 = .ok (.if_icmp .ne 15, 3) := by decide +kernel
theorem dX5_wasChanged_20 : decode cX5_wasChanged 20 = .ok (.aload_n 0, 1) := by decide +kernel
theorem dX5_wasChanged_21 : decode cX5_wasChanged 21 = .ok (.getfield 30, 3) := by decide +kernel
theorem dX5_wasChanged_24 : decode cX5_wasChanged 24 = .ok (.iload_n 2, 1) := by decide +kernel
theorem dX5_wasChanged_25 : decode cX5_wasChanged 25 = .ok (.iaload, 1) := by decide +kernel
theorem dX5_wasChanged_26 : decode cX5_wasChanged 26 = .ok (.iconst (-1), 1) := by decide +kernel
theorem dX5_wasChanged_27 : decode cX5_wasChanged 27 = .ok (.if_icmp .eq 5, 3) := by decide +kernel
theorem dX5_wasChanged_30 : decode cX5_wasChanged 30 = .ok (.iconst 1, 1) := by decide +kernel
theorem dX5_wasChanged_31 : decode cX5_wasChanged 31 = .ok (.ireturn, 1) := by decide +kernel
theorem dX5_wasChanged_32 : decode cX5_wasChanged 32 = .ok (.iinc 2 1, 3) := by decide +kernel
theorem dX5_wasChanged_35 : decode cX5_wasChanged 35 = .ok (.goto (-33), 3) := by decide +kernel
theorem dX5_wasChanged_38 : decode cX5_wasChanged 38 = .ok (.iconst 0, 1) := by decide +kernel
theorem dX5_wasChanged_39 : decode cX5_wasChanged 39 = .ok (.ireturn, 1) := by decide +kernel
theorem okX5_wasChanged : ab_okM MX5_wasChanged 1 := ⟨by decide, ⟨by decide, by decide⟩, ab_in 850 (by decide +kernel) (by decide +kernel), ab_in 97 (by decide +kernel) (by decide +kernel), by decide +kernel, by decide⟩
set_option maxHeartbeats 4000000 in
set_option maxRecDepth 100000 in
def lX5_wasChanged_2 (v1 : Int32) (x : ab_X) (K : Int32 → Prop)  (L2 : Int32 → Prop) (v2 : Int32) : Prop := (((x.1 165 9) ≤ v2 → K 0) ∧ (¬ (x.1 165 9) ≤ v2 → (vp_in v2 100 ∧ ((¬ (x.1 169 (Int32.toNatClampNeg v2)) = v1 → L2 (v2 + 1)) ∧ ((x.1 169 (Int32.toNatClampNeg v2)) = v1 → (vp_in v2 100 ∧ (((x.1 171 (Int32.toNatClampNeg v2)) = (-1) → L2 (v2 + 1)) ∧ (¬ (x.1 171 (Int32.toNatClampNeg v2)) = (-1) → K 1))))))))
set_option maxHeartbeats 4000000 in
set_option maxRecDepth 100000 in
theorem sX5_wasChanged_2 (v1 : Int32) (v2 : Int32)  (x : ab_X) (K : Int32 → Prop)  (d bc bs : Nat) (hdp : 0 ≤ d)  (h : Lp1 (lX5_wasChanged_2 v1 x K ) v2) : EW MX5_wasChanged 2 [(0, .ref 165), (1, .int v1), (2, .int v2)] [] (aS x) d bc bs (liP x K) := by
  refine Lp1.use (P := fun v2 => EW MX5_wasChanged 2 [(0, .ref 165), (1, .int v1), (2, .int v2)] [] (aS x) d bc bs (liP x K)) (fun L2 v2 hL2 h => ?_) v2 h
  unfold lX5_wasChanged_2 at h
  refine EW_iload_n (pc2 := 3) rfl dX5_wasChanged_2 2 rfl ?_
  refine EW_aload_n (pc2 := 4) rfl dX5_wasChanged_3 0 rfl ?_
  refine AW_geti ⟨gfRX5_50, rfl⟩ (pc2 := 7) rfl dX5_wasChanged_4 q165 ?_
  refine EW_icmp_ge (tgt := 38) (pc2 := 10) rfl dX5_wasChanged_7 (by decide) (fun q => ?_) (fun q => ?_)
  · replace h := h.1 q
    refine EW_iconst (pc2 := 39) (v := 0) rfl dX5_wasChanged_38 (by decide) ?_
    exact AW_zret rfl isB0 dX5_wasChanged_39 ⟨_, rfl, rfl, h⟩
  · replace h := h.2 q
    refine EW_aload_n (pc2 := 11) rfl dX5_wasChanged_10 0 rfl ?_
    refine AW_getr (r := 169) ⟨gfRX5_24, rfl⟩ (pc2 := 14) rfl dX5_wasChanged_11 q165 rfl ?_
    refine EW_iload_n (pc2 := 15) rfl dX5_wasChanged_14 2 rfl ?_
    obtain ⟨b1, h⟩ := h
    refine AW_iald (pc2 := 16) rfl dX5_wasChanged_15 q169 b1 ?_
    refine EW_iload_n (pc2 := 17) rfl dX5_wasChanged_16 1 rfl ?_
    refine EW_icmp_ne (tgt := 32) (pc2 := 20) rfl dX5_wasChanged_17 (by decide) (fun q => ?_) (fun q => ?_)
    · replace h := h.1 q
      refine EW_iinc (v2 + 1) (pc2 := 35) rfl dX5_wasChanged_32 2 rfl rfl (by decide) [1, 2, 0] [(0, .ref 165), (1, .int v1), (2, .int (v2 + 1))] rfl ?_
      refine EW_goto (tgt := 2) dX5_wasChanged_35 (by decide) ?_
      exact hL2 (v2 + 1) h
    · replace h := h.2 q
      refine EW_aload_n (pc2 := 21) rfl dX5_wasChanged_20 0 rfl ?_
      refine AW_getr (r := 171) ⟨gfRX5_30, rfl⟩ (pc2 := 24) rfl dX5_wasChanged_21 q165 rfl ?_
      refine EW_iload_n (pc2 := 25) rfl dX5_wasChanged_24 2 rfl ?_
      obtain ⟨b2, h⟩ := h
      refine AW_iald (pc2 := 26) rfl dX5_wasChanged_25 q171 b2 ?_
      refine EW_iconst (pc2 := 27) (v := (-1)) rfl dX5_wasChanged_26 (by decide) ?_
      refine EW_icmp_eq (tgt := 32) (pc2 := 30) rfl dX5_wasChanged_27 (by decide) (fun q => ?_) (fun q => ?_)
      · replace h := h.1 q
        refine EW_iinc (v2 + 1) (pc2 := 35) rfl dX5_wasChanged_32 2 rfl rfl (by decide) [1, 2, 0] [(0, .ref 165), (1, .int v1), (2, .int (v2 + 1))] rfl ?_
        refine EW_goto (tgt := 2) dX5_wasChanged_35 (by decide) ?_
        exact hL2 (v2 + 1) h
      · replace h := h.2 q
        refine EW_iconst (pc2 := 31) (v := 1) rfl dX5_wasChanged_30 (by decide) ?_
        exact AW_zret rfl isB1 dX5_wasChanged_31 ⟨_, rfl, rfl, h⟩
set_option maxHeartbeats 4000000 in
set_option maxRecDepth 100000 in
def wX5_wasChanged (v1 : Int32) (x : ab_X) (K : Int32 → Prop) : Prop := Lp1 (lX5_wasChanged_2 v1 x K ) 0
set_option maxHeartbeats 4000000 in
set_option maxRecDepth 100000 in
theorem sX5_wasChanged (v1 : Int32)  (x : ab_X) (K : Int32 → Prop) (d bc bs : Nat) (hdp : 0 ≤ d) (h : wX5_wasChanged v1 x K) : EW MX5_wasChanged 0 [(0, .ref 165), (1, .int v1)] [] (aS x) d bc bs (liP x K) := by
  unfold wX5_wasChanged at h
  refine EW_iconst (pc2 := 1) (v := 0) rfl dX5_wasChanged_0 (by decide) ?_
  refine EW_istore_n (pc2 := 2) rfl dX5_wasChanged_1 (by decide) [1, 2, 0] [(0, .ref 165), (1, .int v1), (2, .int 0)] rfl ?_
  exact sX5_wasChanged_2 v1 0 x K d bc bs hdp h
theorem mlRX11_141 : Cond.methodLink RX11 141 yX5_wasChanged ∈ ab_G ∧ Cond.instanceMethod yX5_wasChanged ∈ ab_G ∧ Cond.selects RX5 yX5_wasChanged yX5_wasChanged ∈ ab_G := ⟨ab_in 847 (by decide +kernel) (by decide +kernel), ab_in 848 (by decide +kernel) (by decide +kernel), ab_in 849 (by decide +kernel) (by decide +kernel)⟩
theorem gfRX11_144 : ab_L RX11 144 4 9 := ⟨by decide, by decide, ab_in 250 (by decide +kernel) (by decide +kernel)⟩
abbrev MX11_use : ab_M := (yX11_use, cX11_use, 3, (some .boolean))
theorem dX11_use_0 : decode cX11_use 0 = .ok (.aload_n 0, 1) := by decide +kernel
theorem dX11_use_1 : decode cX11_use 1 = .ok (.getfield 21, 3) := by decide +kernel
theorem dX11_use_4 : decode cX11_use 4 = .ok (.iload_n 1, 1) := by decide +kernel
theorem dX11_use_5 : decode cX11_use 5 = .ok (.invokevirtual 124, 3) := by decide +kernel
theorem dX11_use_8 : decode cX11_use 8 = .ok (.ifCond .eq 24, 3) := by decide +kernel
theorem dX11_use_11 : decode cX11_use 11 = .ok (.iload_n 2, 1) := by decide +kernel
theorem dX11_use_12 : decode cX11_use 12 = .ok (.iconst 0, 1) := by decide +kernel
theorem dX11_use_13 : decode cX11_use 13 = .ok (.bipush 9, 2) := by decide +kernel
theorem dX11_use_15 : decode cX11_use 15 = .ok (.invokestatic 74, 3) := by decide +kernel
theorem dX11_use_18 : decode cX11_use 18 = .ok (.ifCond .eq 14, 3) := by decide +kernel
theorem dX11_use_21 : decode cX11_use 21 = .ok (.aload_n 0, 1) := by decide +kernel
theorem dX11_use_22 : decode cX11_use 22 = .ok (.getfield 46, 3) := by decide +kernel
theorem dX11_use_25 : decode cX11_use 25 = .ok (.iload_n 1, 1) := by decide +kernel
theorem dX11_use_26 : decode cX11_use 26 = .ok (.invokevirtual 141, 3) := by decide +kernel
theorem dX11_use_29 : decode cX11_use 29 = .ok (.ifCond .eq 5, 3) := by decide +kernel
theorem dX11_use_32 : decode cX11_use 32 = .ok (.iconst 0, 1) := by decide +kernel
theorem dX11_use_33 : decode cX11_use 33 = .ok (.ireturn, 1) := by decide +kernel
theorem dX11_use_34 : decode cX11_use 34 = .ok (.aload_n 0, 1) := by decide +kernel
theorem dX11_use_35 : decode cX11_use 35 = .ok (.getfield 21, 3) := by decide +kernel
theorem dX11_use_38 : decode cX11_use 38 = .ok (.getfield 127, 3) := by decide +kernel
theorem dX11_use_41 : decode cX11_use 41 = .ok (.iload_n 1, 1) := by decide +kernel
theorem dX11_use_42 : decode cX11_use 42 = .ok (.aaload, 1) := by decide +kernel
theorem dX11_use_43 : decode cX11_use 43 = .ok (.iload_n 2, 1) := by decide +kernel
theorem dX11_use_44 : decode cX11_use 44 = .ok (.putfield 144, 3) := by decide +kernel
theorem dX11_use_47 : decode cX11_use 47 = .ok (.iconst 1, 1) := by decide +kernel
theorem dX11_use_48 : decode cX11_use 48 = .ok (.ireturn, 1) := by decide +kernel
theorem okX11_use : ab_okM MX11_use 2 := ⟨by decide, ⟨by decide, by decide⟩, ab_in 846 (by decide +kernel) (by decide +kernel), ab_in 86 (by decide +kernel) (by decide +kernel), by decide +kernel, by decide⟩
set_option maxHeartbeats 4000000 in
set_option maxRecDepth 100000 in
def wX11_use (v1 : Int32) (v2 : Int32) (x : ab_X) (K : Int32 → ab_X → Prop) : Prop := wX10_has v1 x (fun r1 => ((r1 = 0 → K 0 x) ∧ (¬ r1 = 0 → wX11_within v2 0 9 x (fun r2 => ((r2 = 0 → K 0 x) ∧ (¬ r2 = 0 → wX5_wasChanged v1 x (fun r3 => ((r3 = 0 → (vp_in v1 12 ∧ K 1 (wr x (30 + 3 * Int32.toNatClampNeg v1) 9 v2))) ∧ (¬ r3 = 0 → K 0 x)))))))))
set_option maxHeartbeats 4000000 in
set_option maxRecDepth 100000 in
theorem sX11_use (v1 : Int32) (v2 : Int32)  (x : ab_X) (K : Int32 → ab_X → Prop) (d bc bs : Nat) (hdp : 2 ≤ d) (h : wX11_use v1 v2 x K) : EW MX11_use 0 [(0, .ref 0), (1, .int v1), (2, .int v2)] [] (aS x) d bc bs (liI K) := by
  unfold wX11_use at h
  refine EW_aload_n (pc2 := 1) rfl dX11_use_0 0 rfl ?_
  refine AW_getr (r := 9) ⟨gfRX11_21, rfl⟩ (pc2 := 4) rfl dX11_use_1 q0 rfl ?_
  refine EW_iload_n (pc2 := 5) rfl dX11_use_4 1 rfl ?_
  refine AW_invV (M' := MX10_has) [.int v1] (rest := []) mlRX11_124 okX10_has (pc2 := 8) rfl dX11_use_5 rfl rfl (Nat.le_of_ble_eq_true rfl) (Nat.le_of_ble_eq_true rfl) (d' := 1) (by omega) q9 ⟨by decide, rfl⟩ (EW_mono (fun _ _ hr => ?_) (sX10_has v1  x _ _ 0 0 (Nat.le_refl _) h))
  obtain ⟨r1, rfl, rfl, h⟩ := hr
  refine EW_if_eq (tgt := 32) (pc2 := 11) rfl dX11_use_8 (by decide) (fun q => ?_) (fun q => ?_)
  · replace h := h.1 q
    refine EW_iconst (pc2 := 33) (v := 0) rfl dX11_use_32 (by decide) ?_
    exact AW_zret rfl isB0 dX11_use_33 ⟨_, _, rfl, rfl, h⟩
  · replace h := h.2 q
    refine EW_iload_n (pc2 := 12) rfl dX11_use_11 2 rfl ?_
    refine EW_iconst (pc2 := 13) (v := 0) rfl dX11_use_12 (by decide) ?_
    refine EW_bipush (pc2 := 15) (v := 9) rfl dX11_use_13 (by decide) ?_
    refine AW_invS (M' := MX11_within) [.int v2, .int 0, .int 9] (rest := []) mlRX11_74 okX11_within (pc2 := 18) rfl dX11_use_15 rfl rfl (Nat.le_of_ble_eq_true rfl) (Nat.le_of_ble_eq_true rfl) (d' := 0) (by omega) (EW_mono (fun _ _ hr => ?_) (sX11_within v2 0 9  x _ _ 0 0 (Nat.le_refl _) h))
    obtain ⟨r2, rfl, rfl, h⟩ := hr
    refine EW_if_eq (tgt := 32) (pc2 := 21) rfl dX11_use_18 (by decide) (fun q => ?_) (fun q => ?_)
    · replace h := h.1 q
      refine EW_iconst (pc2 := 33) (v := 0) rfl dX11_use_32 (by decide) ?_
      exact AW_zret rfl isB0 dX11_use_33 ⟨_, _, rfl, rfl, h⟩
    · replace h := h.2 q
      refine EW_aload_n (pc2 := 22) rfl dX11_use_21 0 rfl ?_
      refine AW_getr (r := 165) ⟨gfRX11_46, rfl⟩ (pc2 := 25) rfl dX11_use_22 q0 rfl ?_
      refine EW_iload_n (pc2 := 26) rfl dX11_use_25 1 rfl ?_
      refine AW_invV (M' := MX5_wasChanged) [.int v1] (rest := []) mlRX11_141 okX5_wasChanged (pc2 := 29) rfl dX11_use_26 rfl rfl (Nat.le_of_ble_eq_true rfl) (Nat.le_of_ble_eq_true rfl) (d' := 0) (by omega) q165 ⟨by decide, rfl⟩ (EW_mono (fun _ _ hr => ?_) (sX5_wasChanged v1  x _ _ 0 0 (Nat.le_refl _) h))
      obtain ⟨r3, rfl, rfl, h⟩ := hr
      refine EW_if_eq (tgt := 34) (pc2 := 32) rfl dX11_use_29 (by decide) (fun q => ?_) (fun q => ?_)
      · replace h := h.1 q
        refine EW_aload_n (pc2 := 35) rfl dX11_use_34 0 rfl ?_
        refine AW_getr (r := 9) ⟨gfRX11_21, rfl⟩ (pc2 := 38) rfl dX11_use_35 q0 rfl ?_
        refine AW_getr (r := 10) ⟨gfRX11_127, rfl⟩ (pc2 := 41) rfl dX11_use_38 q9 rfl ?_
        refine EW_iload_n (pc2 := 42) rfl dX11_use_41 1 rfl ?_
        obtain ⟨b4, h⟩ := h
        refine AW_aald5 (pc2 := 43) rfl dX11_use_42 b4 ?_
        refine EW_iload_n (pc2 := 44) rfl dX11_use_43 2 rfl ?_
        refine AW_puti ⟨gfRX11_144, rfl, rfl⟩ (pc2 := 47) rfl dX11_use_44 (isH.o (isH_of b4)) ?_
        refine EW_iconst (pc2 := 48) (v := 1) rfl dX11_use_47 (by decide) ?_
        exact AW_zret rfl isB1 dX11_use_48 ⟨_, _, rfl, rfl, h⟩
      · replace h := h.2 q
        refine EW_iconst (pc2 := 33) (v := 0) rfl dX11_use_32 (by decide) ?_
        exact AW_zret rfl isB0 dX11_use_33 ⟨_, _, rfl, rfl, h⟩
