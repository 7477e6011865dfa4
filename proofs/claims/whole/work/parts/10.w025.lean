theorem gfRX5_50 : ab_L RX5 50 5 9 := ⟨by decide, by decide, ab_in 640 (by decide +kernel) (by decide +kernel)⟩
theorem gfRX5_24 : ab_L RX5 24 5 5 := ⟨by decide, by decide, ab_in 636 (by decide +kernel) (by decide +kernel)⟩
theorem gfRX5_27 : ab_L RX5 27 5 6 := ⟨by decide, by decide, ab_in 637 (by decide +kernel) (by decide +kernel)⟩
theorem gfRX5_30 : ab_L RX5 30 5 7 := ⟨by decide, by decide, ab_in 638 (by decide +kernel) (by decide +kernel)⟩
theorem gfRX5_33 : ab_L RX5 33 5 8 := ⟨by decide, by decide, ab_in 639 (by decide +kernel) (by decide +kernel)⟩
abbrev MX5_tell : ab_M := (yX5_tell, cX5_tell, 5, (some .boolean))
theorem dX5_tell_0 : decode cX5_tell 0 = .ok (.aload_n 0, 1) := by decide +kernel
theorem dX5_tell_1 : decode cX5_tell 1 = .ok (.getfield 50, 3) := by decide +kernel
theorem dX5_tell_4 : decode cX5_tell 4 = .ok (.bipush 100, 2) := by decide +kernel
theorem dX5_tell_6 : decode cX5_tell 6 = .ok (.if_icmp .lt 5, 3) := by decide +kernel
theorem dX5_tell_9 : decode cX5_tell 9 = .ok (.iconst 0, 1) := by decide +kernel
theorem dX5_tell_10 : decode cX5_tell 10 = .ok (.ireturn, 1) := by decide +kernel
theorem dX5_tell_11 : decode cX5_tell 11 = .ok (.aload_n 0, 1) := by decide +kernel
theorem dX5_tell_12 : decode cX5_tell 12 = .ok (.getfield 24, 3) := by decide +kernel
theorem dX5_tell_15 : decode cX5_tell 15 = .ok (.aload_n 0, 1) := by decide +kernel
theorem dX5_tell_16 : decode cX5_tell 16 = .ok (.getfield 50, 3) := by decide +kernel
theorem dX5_tell_19 : decode cX5_tell 19 = .ok (.iload_n 1, 1) := by decide +kernel
theorem dX5_tell_20 : decode cX5_tell 20 = .ok (.iastore, 1) := by decide +kernel
theorem dX5_tell_21 : decode cX5_tell 21 = .ok (.aload_n 0, 1) := by decide +kernel
theorem dX5_tell_22 : decode cX5_tell 22 = .ok (.getfield 27, 3) := by decide +kernel
theorem dX5_tell_25 : decode cX5_tell 25 = .ok (.aload_n 0, 1) := by decide +kernel
theorem dX5_tell_26 : decode cX5_tell 26 = .ok (.getfield 50, 3) := by decide +kernel
theorem dX5_tell_29 : decode cX5_tell 29 = .ok (.iload_n 2, 1) := by decide +kernel
theorem dX5_tell_30 : decode cX5_tell 30 = .ok (.iastore, 1) := by decide +kernel
theorem dX5_tell_31 : decode cX5_tell 31 = .ok (.aload_n 0, 1) := by decide +kernel
theorem dX5_tell_32 : decode cX5_tell 32 = .ok (.getfield 30, 3) := by decide +kernel
theorem dX5_tell_35 : decode cX5_tell 35 = .ok (.aload_n 0, 1) := by decide +kernel
theorem dX5_tell_36 : decode cX5_tell 36 = .ok (.getfield 50, 3) := by decide +kernel
theorem dX5_tell_39 : decode cX5_tell 39 = .ok (.iload_n 3, 1) := by decide +kernel
theorem dX5_tell_40 : decode cX5_tell 40 = .ok (.iastore, 1) := by decide +kernel
theorem dX5_tell_41 : decode cX5_tell 41 = .ok (.aload_n 0, 1) := by decide +kernel
theorem dX5_tell_42 : decode cX5_tell 42 = .ok (.getfield 33, 3) := by decide +kernel
theorem dX5_tell_45 : decode cX5_tell 45 = .ok (.aload_n 0, 1) := by decide +kernel
theorem dX5_tell_46 : decode cX5_tell 46 = .ok (.getfield 50, 3) := by decide +kernel
theorem dX5_tell_49 : decode cX5_tell 49 = .ok (.iload 4, 2) := by decide +kernel
theorem dX5_tell_51 : decode cX5_tell 51 = .ok (.iastore, 1) := by decide +kernel
theorem dX5_tell_52 : decode cX5_tell 52 = .ok (.aload_n 0, 1) := by decide +kernel
theorem dX5_tell_53 : decode cX5_tell 53 = .ok (.dup, 1) := by decide +kernel
theorem dX5_tell_54 : decode cX5_tell 54 = .ok (.getfield 50, 3) := by decide +kernel
theorem dX5_tell_57 : decode cX5_tell 57 = .ok (.iconst 1, 1) := by decide +kernel
theorem dX5_tell_58 : decode cX5_tell 58 = .ok (.iadd, 1) := by decide +kernel
theorem dX5_tell_59 : decode cX5_tell 59 = .ok (.putfield 50, 3) := by decide +kernel
theorem dX5_tell_62 : decode cX5_tell 62 = .ok (.iconst 1, 1) := by decide +kernel
theorem dX5_tell_63 : decode cX5_tell 63 = .ok (.ireturn, 1) := by decide +kernel
theorem okX5_tell : ab_okM MX5_tell 4 := ⟨by decide, ⟨by decide, by decide⟩, ab_in 1538 (by decide +kernel) (by decide +kernel), ab_in 97 (by decide +kernel) (by decide +kernel), by decide +kernel, by decide⟩
set_option maxHeartbeats 4000000 in
set_option maxRecDepth 100000 in
def wX5_tell (v1 : Int32) (v2 : Int32) (v3 : Int32) (v4 : Int32) (x : ab_X) (K : Int32 → ab_X → Prop) : Prop := (((x.1 165 9) < 100 → (vp_in (x.1 165 9) 100 ∧ vp_in ((wr x 169 (Int32.toNatClampNeg (x.1 165 9)) v1).1 165 9) 100 ∧ vp_in ((wr (wr x 169 (Int32.toNatClampNeg (x.1 165 9)) v1) 170 (Int32.toNatClampNeg ((wr x 169 (Int32.toNatClampNeg (x.1 165 9)) v1).1 165 9)) v2).1 165 9) 100 ∧ vp_in ((wr (wr (wr x 169 (Int32.toNatClampNeg (x.1 165 9)) v1) 170 (Int32.toNatClampNeg ((wr x 169 (Int32.toNatClampNeg (x.1 165 9)) v1).1 165 9)) v2) 171 (Int32.toNatClampNeg ((wr (wr x 169 (Int32.toNatClampNeg (x.1 165 9)) v1) 170 (Int32.toNatClampNeg ((wr x 169 (Int32.toNatClampNeg (x.1 165 9)) v1).1 165 9)) v2).1 165 9)) v3).1 165 9) 100 ∧ K 1 (wr (wr (wr (wr (wr x 169 (Int32.toNatClampNeg (x.1 165 9)) v1) 170 (Int32.toNatClampNeg ((wr x 169 (Int32.toNatClampNeg (x.1 165 9)) v1).1 165 9)) v2) 171 (Int32.toNatClampNeg ((wr (wr x 169 (Int32.toNatClampNeg (x.1 165 9)) v1) 170 (Int32.toNatClampNeg ((wr x 169 (Int32.toNatClampNeg (x.1 165 9)) v1).1 165 9)) v2).1 165 9)) v3) 172 (Int32.toNatClampNeg ((wr (wr (wr x 169 (Int32.toNatClampNeg (x.1 165 9)) v1) 170 (Int32.toNatClampNeg ((wr x 169 (Int32.toNatClampNeg (x.1 165 9)) v1).1 165 9)) v2) 171 (Int32.toNatClampNeg ((wr (wr x 169 (Int32.toNatClampNeg (x.1 165 9)) v1) 170 (Int32.toNatClampNeg ((wr x 169 (Int32.toNatClampNeg (x.1 165 9)) v1).1 165 9)) v2).1 165 9)) v3).1 165 9)) v4) 165 9 (((wr (wr (wr (wr x 169 (Int32.toNatClampNeg (x.1 165 9)) v1) 170 (Int32.toNatClampNeg ((wr x 169 (Int32.toNatClampNeg (x.1 165 9)) v1).1 165 9)) v2) 171 (Int32.toNatClampNeg ((wr (wr x 169 (Int32.toNatClampNeg (x.1 165 9)) v1) 170 (Int32.toNatClampNeg ((wr x 169 (Int32.toNatClampNeg (x.1 165 9)) v1).1 165 9)) v2).1 165 9)) v3) 172 (Int32.toNatClampNeg ((wr (wr (wr x 169 (Int32.toNatClampNeg (x.1 165 9)) v1) 170 (Int32.toNatClampNeg ((wr x 169 (Int32.toNatClampNeg (x.1 165 9)) v1).1 165 9)) v2) 171 (Int32.toNatClampNeg ((wr (wr x 169 (Int32.toNatClampNeg (x.1 165 9)) v1) 170 (Int32.toNatClampNeg ((wr x 169 (Int32.toNatClampNeg (x.1 165 9)) v1).1 165 9)) v2).1 165 9)) v3).1 165 9)) v4).1 165 9) + 1)))) ∧ (¬ (x.1 165 9) < 100 → K 0 x))
set_option maxHeartbeats 4000000 in
set_option maxRecDepth 100000 in
theorem sX5_tell (v1 : Int32) (v2 : Int32) (v3 : Int32) (v4 : Int32)  (x : ab_X) (K : Int32 → ab_X → Prop) (d bc bs : Nat) (hdp : 0 ≤ d) (h : wX5_tell v1 v2 v3 v4 x K) : EW MX5_tell 0 [(0, .ref 165), (1, .int v1), (2, .int v2), (3, .int v3), (4, .int v4)] [] (aS x) d bc bs (liI K) := by
  unfold wX5_tell at h
  refine EW_aload_n (pc2 := 1) rfl dX5_tell_0 0 rfl ?_
  refine AW_geti ⟨gfRX5_50, rfl⟩ (pc2 := 4) rfl dX5_tell_1 q165 ?_
  refine EW_bipush (pc2 := 6) (v := 100) rfl dX5_tell_4 (by decide) ?_
  refine EW_icmp_lt (tgt := 11) (pc2 := 9) rfl dX5_tell_6 (by decide) (fun q => ?_) (fun q => ?_)
  · replace h := h.1 q
    refine EW_aload_n (pc2 := 12) rfl dX5_tell_11 0 rfl ?_
    refine AW_getr (r := 169) ⟨gfRX5_24, rfl⟩ (pc2 := 15) rfl dX5_tell_12 q165 rfl ?_
    refine EW_aload_n (pc2 := 16) rfl dX5_tell_15 0 rfl ?_
    refine AW_geti ⟨gfRX5_50, rfl⟩ (pc2 := 19) rfl dX5_tell_16 q165 ?_
    refine EW_iload_n (pc2 := 20) rfl dX5_tell_19 1 rfl ?_
    obtain ⟨b1, h⟩ := h
    refine AW_iast (pc2 := 21) rfl dX5_tell_20 q169 b1 ?_
    refine EW_aload_n (pc2 := 22) rfl dX5_tell_21 0 rfl ?_
    refine AW_getr (r := 170) ⟨gfRX5_27, rfl⟩ (pc2 := 25) rfl dX5_tell_22 q165 rfl ?_
    refine EW_aload_n (pc2 := 26) rfl dX5_tell_25 0 rfl ?_
    refine AW_geti ⟨gfRX5_50, rfl⟩ (pc2 := 29) rfl dX5_tell_26 q165 ?_
    refine EW_iload_n (pc2 := 30) rfl dX5_tell_29 2 rfl ?_
    obtain ⟨b2, h⟩ := h
    refine AW_iast (pc2 := 31) rfl dX5_tell_30 q170 b2 ?_
    refine EW_aload_n (pc2 := 32) rfl dX5_tell_31 0 rfl ?_
    refine AW_getr (r := 171) ⟨gfRX5_30, rfl⟩ (pc2 := 35) rfl dX5_tell_32 q165 rfl ?_
    refine EW_aload_n (pc2 := 36) rfl dX5_tell_35 0 rfl ?_
    refine AW_geti ⟨gfRX5_50, rfl⟩ (pc2 := 39) rfl dX5_tell_36 q165 ?_
    refine EW_iload_n (pc2 := 40) rfl dX5_tell_39 3 rfl ?_
    obtain ⟨b3, h⟩ := h
    refine AW_iast (pc2 := 41) rfl dX5_tell_40 q171 b3 ?_
    refine EW_aload_n (pc2 := 42) rfl dX5_tell_41 0 rfl ?_
    refine AW_getr (r := 172) ⟨gfRX5_33, rfl⟩ (pc2 := 45) rfl dX5_tell_42 q165 rfl ?_
    refine EW_aload_n (pc2 := 46) rfl dX5_tell_45 0 rfl ?_
    refine AW_geti ⟨gfRX5_50, rfl⟩ (pc2 := 49) rfl dX5_tell_46 q165 ?_
    refine EW_iload (pc2 := 51) rfl dX5_tell_49 4 rfl ?_
    obtain ⟨b4, h⟩ := h
    refine AW_iast (pc2 := 52) rfl dX5_tell_51 q172 b4 ?_
    refine EW_aload_n (pc2 := 53) rfl dX5_tell_52 0 rfl ?_
    refine EW_dup (pc2 := 54) rfl dX5_tell_53 rfl ?_
    refine AW_geti ⟨gfRX5_50, rfl⟩ (pc2 := 57) rfl dX5_tell_54 q165 ?_
    refine EW_iconst (pc2 := 58) (v := 1) rfl dX5_tell_57 (by decide) ?_
    refine EW_iadd (pc2 := 59) rfl dX5_tell_58 ?_
    refine AW_puti ⟨gfRX5_50, rfl, rfl⟩ (pc2 := 62) rfl dX5_tell_59 q165 ?_
    refine EW_iconst (pc2 := 63) (v := 1) rfl dX5_tell_62 (by decide) ?_
    exact AW_zret rfl isB1 dX5_tell_63 ⟨_, _, rfl, rfl, h⟩
  · replace h := h.2 q
    refine EW_iconst (pc2 := 10) (v := 0) rfl dX5_tell_9 (by decide) ?_
    exact AW_zret rfl isB0 dX5_tell_10 ⟨_, _, rfl, rfl, h⟩
theorem mlRX11_416 : Cond.methodLink RX11 416 yX11_isKnown ∈ ab_G ∧ Cond.instanceMethod yX11_isKnown ∈ ab_G ∧ Cond.selects RX11 yX11_isKnown yX11_isKnown ∈ ab_G := ⟨ab_in 1523 (by decide +kernel) (by decide +kernel), ab_in 1525 (by decide +kernel) (by decide +kernel), ab_in 7 (by decide +kernel) (by decide +kernel)⟩
theorem mlRX11_422 : Cond.methodLink RX11 422 yX5_tell ∈ ab_G ∧ Cond.instanceMethod yX5_tell ∈ ab_G ∧ Cond.selects RX5 yX5_tell yX5_tell ∈ ab_G := ⟨ab_in 1535 (by decide +kernel) (by decide +kernel), ab_in 1536 (by decide +kernel) (by decide +kernel), ab_in 1537 (by decide +kernel) (by decide +kernel)⟩
abbrev MX11_change : ab_M := (yX11_change, cX11_change, 4, (some .boolean))
theorem dX11_change_0 : decode cX11_change 0 = .ok (.aload_n 0, 1) := by decide +kernel
theorem dX11_change_1 : decode cX11_change 1 = .ok (.iload_n 1, 1) := by decide +kernel
theorem dX11_change_2 : decode cX11_change 2 = .ok (.iload_n 3, 1) := by decide +kernel
theorem dX11_change_3 : decode cX11_change 3 = .ok (.invokevirtual 416, 3) := by decide +kernel
theorem dX11_change_6 : decode cX11_change 6 = .ok (.ifCond .eq 13, 3) := by decide +kernel
theorem dX11_change_9 : decode cX11_change 9 = .ok (.iload_n 2, 1) := by decide +kernel
theorem dX11_change_10 : decode cX11_change 10 = .ok (.iconst 0, 1) := by decide +kernel
theorem dX11_change_11 : decode cX11_change 11 = .ok (.bipush 9, 2) := by decide +kernel
theorem dX11_change_13 : decode cX11_change 13 = .ok (.invokestatic 74, 3) := by decide +kernel
theorem dX11_change_16 : decode cX11_change 16 = .ok (.ifCond .ne 5, 3) := by decide +kernel
theorem dX11_change_19 : decode cX11_change 19 = .ok (.iconst 0, 1) := by decide +kernel
theorem dX11_change_20 : decode cX11_change 20 = .ok (.ireturn, 1) := by decide +kernel
theorem dX11_change_21 : decode cX11_change 21 = .ok (.aload_n 0, 1) := by decide +kernel
theorem dX11_change_22 : decode cX11_change 22 = .ok (.getfield 46, 3) := by decide +kernel
theorem dX11_change_25 : decode cX11_change 25 = .ok (.iload_n 1, 1) := by decide +kernel
theorem dX11_change_26 : decode cX11_change 26 = .ok (.aload_n 0, 1) := by decide +kernel
theorem dX11_change_27 : decode cX11_change 27 = .ok (.getfield 30, 3) := by decide +kernel
theorem dX11_change_30 : decode cX11_change 30 = .ok (.getfield 400, 3) := by decide +kernel
theorem dX11_change_33 : decode cX11_change 33 = .ok (.iload_n 2, 1) := by decide +kernel
theorem dX11_change_34 : decode cX11_change 34 = .ok (.iload_n 3, 1) := by decide +kernel
theorem dX11_change_35 : decode cX11_change 35 = .ok (.invokevirtual 422, 3) := by decide +kernel
theorem dX11_change_38 : decode cX11_change 38 = .ok (.ireturn, 1) := by decide +kernel
theorem okX11_change : ab_okM MX11_change 3 := ⟨by decide, ⟨by decide, by decide⟩, ab_in 1534 (by decide +kernel) (by decide +kernel), ab_in 86 (by decide +kernel) (by decide +kernel), by decide +kernel, by decide⟩
set_option maxHeartbeats 4000000 in
set_option maxRecDepth 100000 in
def wX11_change (v1 : Int32) (v2 : Int32) (v3 : Int32) (x : ab_X) (K : Int32 → ab_X → Prop) : Prop := wX11_isKnown v1 v3 x (fun r1 => ((r1 = 0 → K 0 x) ∧ (¬ r1 = 0 → wX11_within v2 0 9 x (fun r2 => ((¬ r2 = 0 → wX5_tell v1 (x.1 66 12) v2 v3 x (fun r3 x4 => (isB r3 ∧ K r3 x4))) ∧ (r2 = 0 → K 0 x))))))
set_option maxHeartbeats 4000000 in
set_option maxRecDepth 100000 in
theorem sX11_change (v1 : Int32) (v2 : Int32) (v3 : Int32)  (x : ab_X) (K : Int32 → ab_X → Prop) (d bc bs : Nat) (hdp : 3 ≤ d) (h : wX11_change v1 v2 v3 x K) : EW MX11_change 0 [(0, .ref 0), (1, .int v1), (2, .int v2), (3, .int v3)] [] (aS x) d bc bs (liI K) := by
  unfold wX11_change at h
  refine EW_aload_n (pc2 := 1) rfl dX11_change_0 0 rfl ?_
  refine EW_iload_n (pc2 := 2) rfl dX11_change_1 1 rfl ?_
  refine EW_iload_n (pc2 := 3) rfl dX11_change_2 3 rfl ?_
  refine AW_invV (M' := MX11_isKnown) [.int v1, .int v3] (rest := []) mlRX11_416 okX11_isKnown (pc2 := 6) rfl dX11_change_3 rfl rfl (Nat.le_of_ble_eq_true rfl) (Nat.le_of_ble_eq_true rfl) (d' := 2) (by omega) q0 ⟨by decide, rfl⟩ (EW_mono (fun _ _ hr => ?_) (sX11_isKnown v1 v3  x _ _ 0 0 (Nat.le_refl _) h))
  obtain ⟨r1, rfl, rfl, h⟩ := hr
  refine EW_if_eq (tgt := 19) (pc2 := 9) rfl dX11_change_6 (by decide) (fun q => ?_) (fun q => ?_)
  · replace h := h.1 q
    refine EW_iconst (pc2 := 20) (v := 0) rfl dX11_change_19 (by decide) ?_
    exact AW_zret rfl isB0 dX11_change_20 ⟨_, _, rfl, rfl, h⟩
  · replace h := h.2 q
    refine EW_iload_n (pc2 := 10) rfl dX11_change_9 2 rfl ?_
    refine EW_iconst (pc2 := 11) (v := 0) rfl dX11_change_10 (by decide) ?_
    refine EW_bipush (pc2 := 13) (v := 9) rfl dX11_change_11 (by decide) ?_
    refine AW_invS (M' := MX11_within) [.int v2, .int 0, .int 9] (rest := []) mlRX11_74 okX11_within (pc2 := 16) rfl dX11_change_13 rfl rfl (Nat.le_of_ble_eq_true rfl) (Nat.le_of_ble_eq_true rfl) (d' := 0) (by omega) (EW_mono (fun _ _ hr => ?_) (sX11_within v2 0 9  x _ _ 0 0 (Nat.le_refl _) h))
    obtain ⟨r2, rfl, rfl, h⟩ := hr
    refine EW_if_ne (tgt := 21) (pc2 := 19) rfl dX11_change_16 (by decide) (fun q => ?_) (fun q => ?_)
    · replace h := h.1 q
      refine EW_aload_n (pc2 := 22) rfl dX11_change_21 0 rfl ?_
      refine AW_getr (r := 165) ⟨gfRX11_46, rfl⟩ (pc2 := 25) rfl dX11_change_22 q0 rfl ?_
      refine EW_iload_n (pc2 := 26) rfl dX11_change_25 1 rfl ?_
      refine EW_aload_n (pc2 := 27) rfl dX11_change_26 0 rfl ?_
      refine AW_getr (r := 66) ⟨gfRX11_30, rfl⟩ (pc2 := 30) rfl dX11_change_27 q0 rfl ?_
      refine AW_geti ⟨gfRX11_400, rfl⟩ (pc2 := 33) rfl dX11_change_30 q66 ?_
      refine EW_iload_n (pc2 := 34) rfl dX11_change_33 2 rfl ?_
      refine EW_iload_n (pc2 := 35) rfl dX11_change_34 3 rfl ?_
      refine AW_invV (M' := MX5_tell) [.int v1, .int (x.1 66 12), .int v2, .int v3] (rest := []) mlRX11_422 okX5_tell (pc2 := 38) rfl dX11_change_35 rfl rfl (Nat.le_of_ble_eq_true rfl) (Nat.le_of_ble_eq_true rfl) (d' := 0) (by omega) q165 ⟨by decide, rfl⟩ (EW_mono (fun _ _ hr => ?_) (sX5_tell v1 (x.1 66 12) v2 v3  x _ _ 0 0 (Nat.le_refl _) h))
      obtain ⟨r3, x4, rfl, rfl, h⟩ := hr
      obtain ⟨z5, h⟩ := h
      exact AW_zret rfl z5 dX11_change_38 ⟨_, _, rfl, rfl, h⟩
    · replace h := h.2 q
      refine EW_iconst (pc2 := 20) (v := 0) rfl dX11_change_19 (by decide) ?_
      exact AW_zret rfl isB0 dX11_change_20 ⟨_, _, rfl, rfl, h⟩
theorem gfRX11_12 : ab_L RX11 12 11 0 := ⟨by decide, by decide, ab_in 732 (by decide +kernel) (by decide +kernel)⟩
theorem gfRX11_82 : ab_L RX11 82 6 7 := ⟨by decide, by decide, ab_in 141 (by decide +kernel) (by decide +kernel)⟩
theorem gfRX11_93 : ab_L RX11 93 6 3 := ⟨by decide, by decide, ab_in 135 (by decide +kernel) (by decide +kernel)⟩
abbrev MX11_closed : ab_M := (yX11_closed, cX11_closed, 3, (some .boolean))
theorem dX11_closed_0 : decode cX11_closed 0 = .ok (.iload_n 1, 1) := by decide +kernel
theorem dX11_closed_1 : decode cX11_closed 1 = .ok (.aload_n 0, 1) := by decide +kernel
theorem dX11_closed_2 : decode cX11_closed 2 = .ok (.getfield 12, 3) := by decide +kernel
theorem dX11_closed_5 : decode cX11_closed 5 = .ok (.getfield 82, 3) := by decide +kernel
theorem dX11_closed_8 : decode cX11_closed 8 = .ok (.invokestatic 86, 3) := by decide +kernel
theorem dX11_closed_11 : decode cX11_closed 11 = .ok (.ifCond .eq 16, 3) := by decide +kernel
theorem dX11_closed_14 : decode cX11_closed 14 = .ok (.aload_n 0, 1) := by decide +kernel
theorem dX11_closed_15 : decode cX11_closed 15 = .ok (.getfield 12, 3) := by decide +kernel
theorem dX11_closed_18 : decode cX11_closed 18 = .ok (.getfield 93, 3) := by decide +kernel
theorem dX11_closed_21 : decode cX11_closed 21 = .ok (.iload_n 1, 1) := by decide +kernel
theorem dX11_closed_22 : decode cX11_closed 22 = .ok (.baload, 1) := by decide +kernel
theorem dX11_closed_23 : decode cX11_closed 23 = .ok (.iload_n 2, 1) := by decide +kernel
theorem dX11_closed_24 : decode cX11_closed 24 = .ok (.if_icmp .ne 5, 3) := by decide +kernel
theorem dX11_closed_27 : decode cX11_closed 27 = .ok (.iconst 0, 1) := by decide +kernel
theorem dX11_closed_28 : decode cX11_closed 28 = .ok (.ireturn, 1) := by decide +kernel
theorem dX11_closed_29 : decode cX11_closed 29 = .ok (.aload_n 0, 1) := by decide +kernel
theorem dX11_closed_30 : decode cX11_closed 30 = .ok (.getfield 12, 3) := by decide +kernel
theorem dX11_closed_33 : decode cX11_closed 33 = .ok (.getfield 93, 3) := by decide +kernel
theorem dX11_closed_36 : decode cX11_closed 36 = .ok (.iload_n 1, 1) := by decide +kernel
theorem dX11_closed_37 : decode cX11_closed 37 = .ok (.iload_n 2, 1) := by decide +kernel
theorem dX11_closed_38 : decode cX11_closed 38 = .ok (.bastore, 1) := by decide +kernel
theorem dX11_closed_39 : decode cX11_closed 39 = .ok (.iconst 1, 1) := by decide +kernel
theorem dX11_closed_40 : decode cX11_closed 40 = .ok (.ireturn, 1) := by decide +kernel
theorem okX11_closed : ab_okM MX11_closed 2 := ⟨by decide, ⟨by decide, by decide⟩, ab_in 799 (by decide +kernel) (by decide +kernel), ab_in 86 (by decide +kernel) (by decide +kernel), by decide +kernel, by decide⟩
set_option maxHeartbeats 4000000 in
set_option maxRecDepth 100000 in
def wX11_closed (v1 : Int32) (v2 : Int32) (x : ab_X) (K : Int32 → ab_X → Prop) : Prop := wX11_below v1 (x.1 1 7) x (fun r1 => ((r1 = 0 → K 0 x) ∧ (¬ r1 = 0 → (vp_in v1 40 ∧ ((¬ (x.1 5 (Int32.toNatClampNeg v1)) = v2 → (vp_in v1 40 ∧ isB v2 ∧ K 1 (wr x 5 (Int32.toNatClampNeg v1) v2))) ∧ ((x.1 5 (Int32.toNatClampNeg v1)) = v2 → K 0 x))))))
set_option maxHeartbeats 4000000 in
set_option maxRecDepth 100000 in
theorem sX11_closed (v1 : Int32) (v2 : Int32)  (x : ab_X) (K : Int32 → ab_X → Prop) (d bc bs : Nat) (hdp : 1 ≤ d) (h : wX11_closed v1 v2 x K) : EW MX11_closed 0 [(0, .ref 0), (1, .int v1), (2, .int v2)] [] (aS x) d bc bs (liI K) := by
  unfold wX11_closed at h
  refine EW_iload_n (pc2 := 1) rfl dX11_closed_0 1 rfl ?_
  refine EW_aload_n (pc2 := 2) rfl dX11_closed_1 0 rfl ?_
  refine AW_getr (r := 1) ⟨gfRX11_12, rfl⟩ (pc2 := 5) rfl dX11_closed_2 q0 rfl ?_
  refine AW_geti ⟨gfRX11_82, rfl⟩ (pc2 := 8) rfl dX11_closed_5 q1 ?_
  refine AW_invS (M' := MX11_below) [.int v1, .int (x.1 1 7)] (rest := []) mlRX11_86 okX11_below (pc2 := 11) rfl dX11_closed_8 rfl rfl (Nat.le_of_ble_eq_true rfl) (Nat.le_of_ble_eq_true rfl) (d' := 0) (by omega) (EW_mono (fun _ _ hr => ?_) (sX11_below v1 (x.1 1 7)  x _ _ 0 0 (Nat.le_refl _) h))
  obtain ⟨r1, rfl, rfl, h⟩ := hr
  refine EW_if_eq (tgt := 27) (pc2 := 14) rfl dX11_closed_11 (by decide) (fun q => ?_) (fun q => ?_)
  · replace h := h.1 q
    refine EW_iconst (pc2 := 28) (v := 0) rfl dX11_closed_27 (by decide) ?_
    exact AW_zret rfl isB0 dX11_closed_28 ⟨_, _, rfl, rfl, h⟩
  · replace h := h.2 q
    refine EW_aload_n (pc2 := 15) rfl dX11_closed_14 0 rfl ?_
    refine AW_getr (r := 1) ⟨gfRX11_12, rfl⟩ (pc2 := 18) rfl dX11_closed_15 q0 rfl ?_
    refine AW_getr (r := 5) ⟨gfRX11_93, rfl⟩ (pc2 := 21) rfl dX11_closed_18 q1 rfl ?_
    refine EW_iload_n (pc2 := 22) rfl dX11_closed_21 1 rfl ?_
    obtain ⟨b2, h⟩ := h
    refine AW_zald (pc2 := 23) rfl dX11_closed_22 q5 b2 ?_
    refine EW_iload_n (pc2 := 24) rfl dX11_closed_23 2 rfl ?_
    refine EW_icmp_ne (tgt := 29) (pc2 := 27) rfl dX11_closed_24 (by decide) (fun q => ?_) (fun q => ?_)
    · replace h := h.1 q
      refine EW_aload_n (pc2 := 30) rfl dX11_closed_29 0 rfl ?_
      refine AW_getr (r := 1) ⟨gfRX11_12, rfl⟩ (pc2 := 33) rfl dX11_closed_30 q0 rfl ?_
      refine AW_getr (r := 5) ⟨gfRX11_93, rfl⟩ (pc2 := 36) rfl dX11_closed_33 q1 rfl ?_
      refine EW_iload_n (pc2 := 37) rfl dX11_closed_36 1 rfl ?_
      refine EW_iload_n (pc2 := 38) rfl dX11_closed_37 2 rfl ?_
      obtain ⟨b3, h⟩ := h
      obtain ⟨z4, h⟩ := h
      refine AW_zast (pc2 := 39) rfl dX11_closed_38 q5 b3 z4 ?_
      refine EW_iconst (pc2 := 40) (v := 1) rfl dX11_closed_39 (by decide) ?_
      exact AW_zret rfl isB1 dX11_closed_40 ⟨_, _, rfl, rfl, h⟩
    · replace h := h.2 q
      refine EW_iconst (pc2 := 28) (v := 0) rfl dX11_closed_27 (by decide) ?_
      exact AW_zret rfl isB0 dX11_closed_28 ⟨_, _, rfl, rfl, h⟩
theorem gfRX5_41 : ab_L RX5 41 5 0 := ⟨by decide, by decide, ab_in 629 (by decide +kernel) (by decide +kernel)⟩
theorem gfRX5_53 : ab_L RX5 53 10 1 := ⟨by decide, by decide, ab_in 310 (by decide +kernel) (by decide +kernel)⟩
theorem gfRX5_59 : ab_L RX5 59 4 8 := ⟨by decide, by decide, ab_in 247 (by decide +kernel) (by decide +kernel)⟩
abbrev MX5_actFor : ab_M := (yX5_actFor, cX5_actFor, 6, (some .int))
theorem dX5_actFor_0 : decode cX5_actFor 0 = .ok (.iconst (-1), 1) := by decide +kernel
theorem dX5_actFor_1 : decode cX5_actFor 1 = .ok (.istore_n 3, 1) := by decide +kernel
theorem dX5_actFor_2 : decode cX5_actFor 2 = .ok (.iconst 0, 1) := by decide +kernel
theorem dX5_actFor_3 : decode cX5_actFor 3 = .ok (.istore 4, 2) := by decide +kernel
theorem dX5_actFor_5 : decode cX5_actFor 5 = .ok (.iload 4, 2) := by decide +kernel
theorem dX5_actFor_7 : decode cX5_actFor 7 = .ok (.aload_n 0, 1) := by decide +kernel
theorem dX5_actFor_8 : decode cX5_actFor 8 = .ok (.getfield 46, 3) := by decide +kernel
theorem dX5_actFor_11 : decode cX5_actFor 11 = .ok (.if_icmp .ge 78, 3) := by decide +kernel
theorem dX5_actFor_14 : decode cX5_actFor 14 = .ok (.aload_n 0, 1) := by decide +kernel
theorem dX5_actFor_15 : decode cX5_actFor 15 = .ok (.getfield 21, 3) := by decide +kernel
theorem dX5_actFor_18 : decode cX5_actFor 18 = .ok (.iload 4, 2) := by decide +kernel
theorem dX5_actFor_20 : decode cX5_actFor 20 = .ok (.iaload, 1) := by decide +kernel
theorem dX5_actFor_21 : decode cX5_actFor 21 = .ok (.iload_n 2, 1) := by decide +kernel
theorem dX5_actFor_22 : decode cX5_actFor 22 = .ok (.if_icmp .gt 29, 3) := by decide +kernel
theorem dX5_actFor_25 : decode cX5_actFor 25 = .ok (.aload_n 0, 1) := by decide +kernel
theorem dX5_actFor_26 : decode cX5_actFor 26 = .ok (.getfield 17, 3) := by decide +kernel
theorem dX5_actFor_29 : decode cX5_actFor 29 = .ok (.iload 4, 2) := by decide +kernel
theorem dX5_actFor_31 : decode cX5_actFor 31 = .ok (.iaload, 1) := by decide +kernel
theorem dX5_actFor_32 : decode cX5_actFor 32 = .ok (.aload_n 0, 1) := by decide +kernel
theorem dX5_actFor_33 : decode cX5_actFor 33 = .ok (.getfield 41, 3) := by decide +kernel
theorem dX5_actFor_36 : decode cX5_actFor 36 = .ok (.getfield 53, 3) := by decide +kernel
theorem dX5_actFor_39 : decode cX5_actFor 39 = .ok (.iload_n 1, 1) := by decide +kernel
theorem dX5_actFor_40 : decode cX5_actFor 40 = .ok (.aaload, 1) := by decide +kernel
theorem dX5_actFor_41 : decode cX5_actFor 41 = .ok (.getfield 59, 3) := by decide +kernel
theorem dX5_actFor_44 : decode cX5_actFor 44 = .ok (.if_icmp .gt 7, 3) := by decide +kernel
theorem dX5_actFor_47 : decode cX5_actFor 47 = .ok (.iconst 1, 1) := by decide +kernel
theorem dX5_actFor_48 : decode cX5_actFor 48 = .ok (.goto 4, 3) := by decide +kernel
theorem dX5_actFor_51 : decode cX5_actFor 51 = .ok (.iconst 0, 1) := by decide +kernel
theorem dX5_actFor_52 : decode cX5_actFor 52 = .ok (.istore 5, 2) := by decide +kernel
theorem dX5_actFor_54 : decode cX5_actFor 54 = .ok (.iload 5, 2) := by decide +kernel
theorem dX5_actFor_56 : decode cX5_actFor 56 = .ok (.ifCond .eq 27, 3) := by decide +kernel
theorem dX5_actFor_59 : decode cX5_actFor 59 = .ok (.iload_n 3, 1) := by decide +kernel
theorem dX5_actFor_60 : decode cX5_actFor 60 = .ok (.iconst (-1), 1) := by decide +kernel
theorem dX5_actFor_61 : decode cX5_actFor 61 = .ok (.if_icmp .eq 19, 3) := by decide +kernel
theorem dX5_actFor_64 : decode cX5_actFor 64 = .ok (.aload_n 0, 1) := by decide +kernel
theorem dX5_actFor_65 : decode cX5_actFor 65 = .ok (.getfield 17, 3) := by decide +kernel
theorem dX5_actFor_68 : decode cX5_actFor 68 = .ok (.iload 4, 2) := by decide +kernel
theorem dX5_actFor_70 : decode cX5_actFor 70 = .ok (.iaload, 1) := by decide +kernel
theorem dX5_actFor_71 : decode cX5_actFor 71 = .ok (.aload_n 0, 1) := by decide +kernel
theorem dX5_actFor_72 : decode cX5_actFor 72 = .ok (.getfield 17, 3) := by decide +kernel
theorem dX5_actFor_75 : decode cX5_actFor 75 = .ok (.iload_n 3, 1) := by decide +kernel
theorem dX5_actFor_76 : decode cX5_actFor 76 = .ok (.iaload, 1) := by decide +kernel
theorem dX5_actFor_77 : decode cX5_actFor 77 = .ok (.if_icmp .lt 6, 3) := by decide +kernel
theorem dX5_actFor_80 : decode cX5_actFor 80 = .ok (.iload 4, 2) := by decide +kernel
theorem dX5_actFor_82 : decode cX5_actFor 82 = .ok (.istore_n 3, 1) := by decide +kernel
theorem dX5_actFor_83 : decode cX5_actFor 83 = .ok (.iinc 4 1, 3) := by decide +kernel
theorem dX5_actFor_86 : decode cX5_actFor 86 = .ok (.goto (-81), 3) := by decide +kernel
theorem dX5_actFor_89 : decode cX5_actFor 89 = .ok (.iload_n 3, 1) := by decide +kernel
theorem dX5_actFor_90 : decode cX5_actFor 90 = .ok (.ireturn, 1) := by decide +kernel
theorem okX5_actFor : ab_okM MX5_actFor 2 := ⟨by decide, ⟨by decide, by decide⟩, ab_in 1530 (by decide +kernel) (by decide +kernel), ab_in 97 (by decide +kernel) (by decide +kernel), by decide +kernel, by decide⟩
set_option maxHeartbeats 4000000 in
set_option maxRecDepth 100000 in
def wX5_actFor_80 (v1 : Int32) (v2 : Int32) (v4 : Int32) (x : ab_X) (K : Int32 → Prop) (L5 : Int32 → Int32 → Prop) : Prop := L5 v4 (v4 + 1)
set_option maxHeartbeats 4000000 in
set_option maxRecDepth 100000 in
theorem sX5_actFor_80 (v1 : Int32) (v2 : Int32) (v4 : Int32)  (x : ab_X) (K : Int32 → Prop) (L5 : Int32 → Int32 → Prop) (d bc bs : Nat) (hdp : 0 ≤ d) (hL5 : ∀ (v3 : Int32) (v4 : Int32), L5 v3 v4 → EW MX5_actFor 5 [(0, .ref 165), (1, .int v1), (2, .int v2), (3, .int v3), (4, .int v4)] [] (aS x) d bc bs (liP x K)) (h : wX5_actFor_80 v1 v2 v4 x K L5) : EW MX5_actFor 80 [(0, .ref 165), (1, .int v1), (2, .int v2), (4, .int v4)] [] (aS x) d bc bs (liP x K) := by
  unfold wX5_actFor_80 at h
  refine EW_iload (pc2 := 82) rfl dX5_actFor_80 3 rfl ?_
  refine EW_istore_n (pc2 := 83) rfl dX5_actFor_82 (by decide) [1, 2, 3, 0, 4] [(0, .ref 165), (1, .int v1), (2, .int v2), (3, .int v4), (4, .int v4)] rfl ?_
  refine EW_iinc (v4 + 1) (pc2 := 86) rfl dX5_actFor_83 4 rfl rfl (by decide) [1, 2, 3, 4, 0] [(0, .ref 165), (1, .int v1), (2, .int v2), (3, .int v4), (4, .int (v4 + 1))] rfl ?_
  refine EW_goto (tgt := 5) dX5_actFor_86 (by decide) ?_
  exact hL5 v4 (v4 + 1) h
set_option maxHeartbeats 4000000 in
set_option maxRecDepth 100000 in
def wX5_actFor_52 (v1 : Int32) (v2 : Int32) (v3 : Int32) (v4 : Int32) (s0 : Int32) (x : ab_X) (K : Int32 → Prop) (L5 : Int32 → Int32 → Prop) : Prop := ((s0 = 0 → L5 v3 (v4 + 1)) ∧ (¬ s0 = 0 → ((v3 = (-1) → wX5_actFor_80 v1 v2 v4 x K L5) ∧ (¬ v3 = (-1) → (vp_in v4 12 ∧ vp_in v3 12 ∧ (((x.1 167 (Int32.toNatClampNeg v4)) < (x.1 167 (Int32.toNatClampNeg v3)) → L5 v3 (v4 + 1)) ∧ (¬ (x.1 167 (Int32.toNatClampNeg v4)) < (x.1 167 (Int32.toNatClampNeg v3)) → wX5_actFor_80 v1 v2 v4 x K L5)))))))
set_option maxHeartbeats 4000000 in
set_option maxRecDepth 100000 in
theorem sX5_actFor_52 (v1 : Int32) (v2 : Int32) (v3 : Int32) (v4 : Int32) (s0 : Int32)  (x : ab_X) (K : Int32 → Prop) (L5 : Int32 → Int32 → Prop) (d bc bs : Nat) (hdp : 0 ≤ d) (hL5 : ∀ (v3 : Int32) (v4 : Int32), L5 v3 v4 → EW MX5_actFor 5 [(0, .ref 165), (1, .int v1), (2, .int v2), (3, .int v3), (4, .int v4)] [] (aS x) d bc bs (liP x K)) (h : wX5_actFor_52 v1 v2 v3 v4 s0 x K L5) : EW MX5_actFor 52 [(0, .ref 165), (1, .int v1), (2, .int v2), (3, .int v3), (4, .int v4)] [.int s0] (aS x) d bc bs (liP x K) := by
  unfold wX5_actFor_52 at h
  refine EW_istore (pc2 := 54) rfl dX5_actFor_52 (by decide) [1, 2, 3, 4, 5, 0] [(0, .ref 165), (1, .int v1), (2, .int v2), (3, .int v3), (4, .int v4), (5, .int s0)] rfl ?_
  refine EW_iload (pc2 := 56) rfl dX5_actFor_54 5 rfl ?_
  refine EW_if_eq (tgt := 83) (pc2 := 59) rfl dX5_actFor_56 (by decide) (fun q => ?_) (fun q => ?_)
  · replace h := h.1 q
    refine EW_iinc (v4 + 1) (pc2 := 86) rfl dX5_actFor_83 4 rfl rfl (by decide) [1, 2, 3, 4, 0, 5] [(0, .ref 165), (1, .int v1), (2, .int v2), (3, .int v3), (4, .int (v4 + 1)), (5, .int s0)] rfl ?_
    refine EW_goto (tgt := 5) dX5_actFor_86 (by decide) ?_
    refine EW_ls [0, 1, 2, 3, 4] rfl ?_
    exact hL5 v3 (v4 + 1) h
  · replace h := h.2 q
    refine EW_iload_n (pc2 := 60) rfl dX5_actFor_59 3 rfl ?_
    refine EW_iconst (pc2 := 61) (v := (-1)) rfl dX5_actFor_60 (by decide) ?_
    refine EW_icmp_eq (tgt := 80) (pc2 := 64) rfl dX5_actFor_61 (by decide) (fun q => ?_) (fun q => ?_)
    · replace h := h.1 q
      refine EW_ls [0, 1, 2, 4] rfl ?_
      exact sX5_actFor_80 v1 v2 v4 x K L5 d bc bs hdp hL5 h
    · replace h := h.2 q
      refine EW_aload_n (pc2 := 65) rfl dX5_actFor_64 0 rfl ?_
      refine AW_getr (r := 167) ⟨gfRX5_17, rfl⟩ (pc2 := 68) rfl dX5_actFor_65 q165 rfl ?_
      refine EW_iload (pc2 := 70) rfl dX5_actFor_68 4 rfl ?_
      obtain ⟨b4, h⟩ := h
      refine AW_iald (pc2 := 71) rfl dX5_actFor_70 q167 b4 ?_
      refine EW_aload_n (pc2 := 72) rfl dX5_actFor_71 0 rfl ?_
      refine AW_getr (r := 167) ⟨gfRX5_17, rfl⟩ (pc2 := 75) rfl dX5_actFor_72 q165 rfl ?_
      refine EW_iload_n (pc2 := 76) rfl dX5_actFor_75 3 rfl ?_
      obtain ⟨b5, h⟩ := h
      refine AW_iald (pc2 := 77) rfl dX5_actFor_76 q167 b5 ?_
      refine EW_icmp_lt (tgt := 83) (pc2 := 80) rfl dX5_actFor_77 (by decide) (fun q => ?_) (fun q => ?_)
      · replace h := h.1 q
        refine EW_iinc (v4 + 1) (pc2 := 86) rfl dX5_actFor_83 4 rfl rfl (by decide) [1, 2, 3, 4, 0, 5] [(0, .ref 165), (1, .int v1), (2, .int v2), (3, .int v3), (4, .int (v4 + 1)), (5, .int s0)] rfl ?_
        refine EW_goto (tgt := 5) dX5_actFor_86 (by decide) ?_
        refine EW_ls [0, 1, 2, 3, 4] rfl ?_
        exact hL5 v3 (v4 + 1) h
      · replace h := h.2 q
        refine EW_ls [0, 1, 2, 4] rfl ?_
        exact sX5_actFor_80 v1 v2 v4 x K L5 d bc bs hdp hL5 h
set_option maxHeartbeats 4000000 in
set_option maxRecDepth 100000 in
def wX5_actFor_51 (v1 : Int32) (v2 : Int32) (v3 : Int32) (v4 : Int32) (x : ab_X) (K : Int32 → Prop) (L5 : Int32 → Int32 → Prop) : Prop := wX5_actFor_52 v1 v2 v3 v4 0 x K L5
set_option maxHeartbeats 4000000 in
set_option maxRecDepth 100000 in
theorem sX5_actFor_51 (v1 : Int32) (v2 : Int32) (v3 : Int32) (v4 : Int32)  (x : ab_X) (K : Int32 → Prop) (L5 : Int32 → Int32 → Prop) (d bc bs : Nat) (hdp : 0 ≤ d) (hL5 : ∀ (v3 : Int32) (v4 : Int32), L5 v3 v4 → EW MX5_actFor 5 [(0, .ref 165), (1, .int v1), (2, .int v2), (3, .int v3), (4, .int v4)] [] (aS x) d bc bs (liP x K)) (h : wX5_actFor_51 v1 v2 v3 v4 x K L5) : EW MX5_actFor 51 [(0, .ref 165), (1, .int v1), (2, .int v2), (3, .int v3), (4, .int v4)] [] (aS x) d bc bs (liP x K) := by
  unfold wX5_actFor_51 at h
  refine EW_iconst (pc2 := 52) (v := 0) rfl dX5_actFor_51 (by decide) ?_
  exact sX5_actFor_52 v1 v2 v3 v4 0 x K L5 d bc bs hdp hL5 h
set_option maxHeartbeats 4000000 in
set_option maxRecDepth 100000 in
def lX5_actFor_5 (v1 : Int32) (v2 : Int32) (x : ab_X) (K : Int32 → Prop)  (L5 : Int32 → Int32 → Prop) (v3 : Int32) (v4 : Int32) : Prop := (((x.1 165 4) ≤ v4 → K v3) ∧ (¬ (x.1 165 4) ≤ v4 → (vp_in v4 12 ∧ ((v2 < (x.1 168 (Int32.toNatClampNeg v4)) → wX5_actFor_51 v1 v2 v3 v4 x K L5) ∧ (¬ v2 < (x.1 168 (Int32.toNatClampNeg v4)) → (vp_in v4 12 ∧ vp_in v1 12 ∧ (((x.1 (30 + 3 * Int32.toNatClampNeg v1) 8) < (x.1 167 (Int32.toNatClampNeg v4)) → wX5_actFor_51 v1 v2 v3 v4 x K L5) ∧ (¬ (x.1 (30 + 3 * Int32.toNatClampNeg v1) 8) < (x.1 167 (Int32.toNatClampNeg v4)) → wX5_actFor_52 v1 v2 v3 v4 1 x K L5))))))))
set_option maxHeartbeats 4000000 in
set_option maxRecDepth 100000 in
theorem sX5_actFor_5 (v1 : Int32) (v2 : Int32) (v3 : Int32) (v4 : Int32)  (x : ab_X) (K : Int32 → Prop)  (d bc bs : Nat) (hdp : 0 ≤ d)  (h : Lp2 (lX5_actFor_5 v1 v2 x K ) v3 v4) : EW MX5_actFor 5 [(0, .ref 165), (1, .int v1), (2, .int v2), (3, .int v3), (4, .int v4)] [] (aS x) d bc bs (liP x K) := by
  refine Lp2.use (P := fun v3 v4 => EW MX5_actFor 5 [(0, .ref 165), (1, .int v1), (2, .int v2), (3, .int v3), (4, .int v4)] [] (aS x) d bc bs (liP x K)) (fun L5 v3 v4 hL5 h => ?_) v3 v4 h
  unfold lX5_actFor_5 at h
  refine EW_iload (pc2 := 7) rfl dX5_actFor_5 4 rfl ?_
  refine EW_aload_n (pc2 := 8) rfl dX5_actFor_7 0 rfl ?_
  refine AW_geti ⟨gfRX5_46, rfl⟩ (pc2 := 11) rfl dX5_actFor_8 q165 ?_
  refine EW_icmp_ge (tgt := 89) (pc2 := 14) rfl dX5_actFor_11 (by decide) (fun q => ?_) (fun q => ?_)
  · replace h := h.1 q
    refine EW_iload_n (pc2 := 90) rfl dX5_actFor_89 3 rfl ?_
    exact AW_iret rfl dX5_actFor_90 ⟨_, rfl, rfl, h⟩
  · replace h := h.2 q
    refine EW_aload_n (pc2 := 15) rfl dX5_actFor_14 0 rfl ?_
    refine AW_getr (r := 168) ⟨gfRX5_21, rfl⟩ (pc2 := 18) rfl dX5_actFor_15 q165 rfl ?_
    refine EW_iload (pc2 := 20) rfl dX5_actFor_18 4 rfl ?_
    obtain ⟨b1, h⟩ := h
    refine AW_iald (pc2 := 21) rfl dX5_actFor_20 q168 b1 ?_
    refine EW_iload_n (pc2 := 22) rfl dX5_actFor_21 2 rfl ?_
    refine EW_icmp_gt (tgt := 51) (pc2 := 25) rfl dX5_actFor_22 (by decide) (fun q => ?_) (fun q => ?_)
    · replace h := h.1 q
      exact sX5_actFor_51 v1 v2 v3 v4 x K L5 d bc bs hdp hL5 h
    · replace h := h.2 q
      refine EW_aload_n (pc2 := 26) rfl dX5_actFor_25 0 rfl ?_
      refine AW_getr (r := 167) ⟨gfRX5_17, rfl⟩ (pc2 := 29) rfl dX5_actFor_26 q165 rfl ?_
      refine EW_iload (pc2 := 31) rfl dX5_actFor_29 4 rfl ?_
      obtain ⟨b2, h⟩ := h
      refine AW_iald (pc2 := 32) rfl dX5_actFor_31 q167 b2 ?_
      refine EW_aload_n (pc2 := 33) rfl dX5_actFor_32 0 rfl ?_
      refine AW_getr (r := 9) ⟨gfRX5_41, rfl⟩ (pc2 := 36) rfl dX5_actFor_33 q165 rfl ?_
      refine AW_getr (r := 10) ⟨gfRX5_53, rfl⟩ (pc2 := 39) rfl dX5_actFor_36 q9 rfl ?_
      refine EW_iload_n (pc2 := 40) rfl dX5_actFor_39 1 rfl ?_
      obtain ⟨b3, h⟩ := h
      refine AW_aald5 (pc2 := 41) rfl dX5_actFor_40 b3 ?_
      refine AW_geti ⟨gfRX5_59, rfl⟩ (pc2 := 44) rfl dX5_actFor_41 (isH.o (isH_of b3)) ?_
      refine EW_icmp_gt (tgt := 51) (pc2 := 47) rfl dX5_actFor_44 (by decide) (fun q => ?_) (fun q => ?_)
      · replace h := h.1 q
        exact sX5_actFor_51 v1 v2 v3 v4 x K L5 d bc bs hdp hL5 h
      · replace h := h.2 q
        refine EW_iconst (pc2 := 48) (v := 1) rfl dX5_actFor_47 (by decide) ?_
        refine EW_goto (tgt := 52) dX5_actFor_48 (by decide) ?_
        exact sX5_actFor_52 v1 v2 v3 v4 1 x K L5 d bc bs hdp hL5 h
set_option maxHeartbeats 4000000 in
set_option maxRecDepth 100000 in
def wX5_actFor (v1 : Int32) (v2 : Int32) (x : ab_X) (K : Int32 → Prop) : Prop := Lp2 (lX5_actFor_5 v1 v2 x K ) (-1) 0
set_option maxHeartbeats 4000000 in
set_option maxRecDepth 100000 in
theorem sX5_actFor (v1 : Int32) (v2 : Int32)  (x : ab_X) (K : Int32 → Prop) (d bc bs : Nat) (hdp : 0 ≤ d) (h : wX5_actFor v1 v2 x K) : EW MX5_actFor 0 [(0, .ref 165), (1, .int v1), (2, .int v2)] [] (aS x) d bc bs (liP x K) := by
  unfold wX5_actFor at h
  refine EW_iconst (pc2 := 1) (v := (-1)) rfl dX5_actFor_0 (by decide) ?_
  refine EW_istore_n (pc2 := 2) rfl dX5_actFor_1 (by decide) [1, 2, 3, 0] [(0, .ref 165), (1, .int v1), (2, .int v2), (3, .int (-1))] rfl ?_
  refine EW_iconst (pc2 := 3) (v := 0) rfl dX5_actFor_2 (by decide) ?_
  refine EW_istore (pc2 := 5) rfl dX5_actFor_3 (by decide) [1, 2, 3, 4, 0] [(0, .ref 165), (1, .int v1), (2, .int v2), (3, .int (-1)), (4, .int 0)] rfl ?_
  exact sX5_actFor_5 v1 v2 (-1) 0 x K d bc bs hdp h
theorem gfRX4_27 : ab_L RX4 27 4 11 := ⟨by decide, by decide, ab_in 254 (by decide +kernel) (by decide +kernel)⟩
theorem gfRX4_24 : ab_L RX4 24 4 10 := ⟨by decide, by decide, ab_in 251 (by decide +kernel) (by decide +kernel)⟩
abbrev MX4_beside : ab_M := (yX4_beside, cX4_beside, 1, (some .int))
theorem dX4_beside_0 : decode cX4_beside 0 = .ok (.aload_n 0, 1) := by decide +kernel
theorem dX4_beside_1 : decode cX4_beside 1 = .ok (.getfield 24, 3) := by decide +kernel
theorem dX4_beside_4 : decode cX4_beside 4 = .ok (.iconst (-1), 1) := by decide +kernel
theorem dX4_beside_5 : decode cX4_beside 5 = .ok (.if_icmp .ne 7, 3) := by decide +kernel
theorem dX4_beside_8 : decode cX4_beside 8 = .ok (.iconst 0, 1) := by decide +kernel
theorem dX4_beside_9 : decode cX4_beside 9 = .ok (.goto 4, 3) := by decide +kernel
theorem dX4_beside_12 : decode cX4_beside 12 = .ok (.iconst 1, 1) := by decide +kernel
theorem dX4_beside_13 : decode cX4_beside 13 = .ok (.aload_n 0, 1) := by decide +kernel
theorem dX4_beside_14 : decode cX4_beside 14 = .ok (.getfield 27, 3) := by decide +kernel
theorem dX4_beside_17 : decode cX4_beside 17 = .ok (.iconst (-1), 1) := by decide +kernel
theorem dX4_beside_18 : decode cX4_beside 18 = .ok (.if_icmp .ne 7, 3) := by decide +kernel
theorem dX4_beside_21 : decode cX4_beside 21 = .ok (.iconst 0, 1) := by decide +kernel
theorem dX4_beside_22 : decode cX4_beside 22 = .ok (.goto 4, 3) := by decide +kernel
theorem dX4_beside_25 : decode cX4_beside 25 = .ok (.iconst 1, 1) := by decide +kernel
theorem dX4_beside_26 : decode cX4_beside 26 = .ok (.iadd, 1) := by decide +kernel
theorem dX4_beside_27 : decode cX4_beside 27 = .ok (.ireturn, 1) := by decide +kernel
theorem okX4_beside : ab_okM MX4_beside 0 := ⟨by decide, ⟨by decide, by decide⟩, ab_in 1570 (by decide +kernel) (by decide +kernel), ab_in 91 (by decide +kernel) (by decide +kernel), by decide +kernel, by decide⟩
set_option maxHeartbeats 4000000 in
set_option maxRecDepth 100000 in
def wX4_beside_13 (v0 : Nat) (s0 : Int32) (x : ab_X) (K : Int32 → Prop)  : Prop := ((¬ (x.1 v0 11) = (-1) → K (s0 + 1)) ∧ ((x.1 v0 11) = (-1) → K (s0 + 0)))
set_option maxHeartbeats 4000000 in
set_option maxRecDepth 100000 in
theorem sX4_beside_13 (v0 : Nat) (s0 : Int32) (hv0 : isH v0) (x : ab_X) (K : Int32 → Prop)  (d bc bs : Nat) (hdp : 0 ≤ d)  (h : wX4_beside_13 v0 s0 x K ) : EW MX4_beside 13 [(0, .ref v0)] [.int s0] (aS x) d bc bs (liP x K) := by
  unfold wX4_beside_13 at h
  refine EW_aload_n (pc2 := 14) rfl dX4_beside_13 0 rfl ?_
  refine AW_geti ⟨gfRX4_27, rfl⟩ (pc2 := 17) rfl dX4_beside_14 (isH.o hv0) ?_
  refine EW_iconst (pc2 := 18) (v := (-1)) rfl dX4_beside_17 (by decide) ?_
  refine EW_icmp_ne (tgt := 25) (pc2 := 21) rfl dX4_beside_18 (by decide) (fun q => ?_) (fun q => ?_)
  · replace h := h.1 q
    refine EW_iconst (pc2 := 26) (v := 1) rfl dX4_beside_25 (by decide) ?_
    refine EW_iadd (pc2 := 27) rfl dX4_beside_26 ?_
    exact AW_iret rfl dX4_beside_27 ⟨_, rfl, rfl, h⟩
  · replace h := h.2 q
    refine EW_iconst (pc2 := 22) (v := 0) rfl dX4_beside_21 (by decide) ?_
    refine EW_goto (tgt := 26) dX4_beside_22 (by decide) ?_
    refine EW_iadd (pc2 := 27) rfl dX4_beside_26 ?_
    exact AW_iret rfl dX4_beside_27 ⟨_, rfl, rfl, h⟩
set_option maxHeartbeats 4000000 in
set_option maxRecDepth 100000 in
def wX4_beside (v0 : Nat) (x : ab_X) (K : Int32 → Prop) : Prop := ((¬ (x.1 v0 10) = (-1) → wX4_beside_13 v0 1 x K) ∧ ((x.1 v0 10) = (-1) → wX4_beside_13 v0 0 x K))
set_option maxHeartbeats 4000000 in
set_option maxRecDepth 100000 in
theorem sX4_beside (v0 : Nat) (hv0 : isH v0) (x : ab_X) (K : Int32 → Prop) (d bc bs : Nat) (hdp : 0 ≤ d) (h : wX4_beside v0 x K) : EW MX4_beside 0 [(0, .ref v0)] [] (aS x) d bc bs (liP x K) := by
  unfold wX4_beside at h
  refine EW_aload_n (pc2 := 1) rfl dX4_beside_0 0 rfl ?_
  refine AW_geti ⟨gfRX4_24, rfl⟩ (pc2 := 4) rfl dX4_beside_1 (isH.o hv0) ?_
  refine EW_iconst (pc2 := 5) (v := (-1)) rfl dX4_beside_4 (by decide) ?_
  refine EW_icmp_ne (tgt := 12) (pc2 := 8) rfl dX4_beside_5 (by decide) (fun q => ?_) (fun q => ?_)
  · replace h := h.1 q
    refine EW_iconst (pc2 := 13) (v := 1) rfl dX4_beside_12 (by decide) ?_
    exact sX4_beside_13 v0 1 hv0 x K d bc bs hdp h
  · replace h := h.2 q
    refine EW_iconst (pc2 := 9) (v := 0) rfl dX4_beside_8 (by decide) ?_
    refine EW_goto (tgt := 13) dX4_beside_9 (by decide) ?_
    exact sX4_beside_13 v0 0 hv0 x K d bc bs hdp h
abbrev MX5_daysSinceLook : ab_M := (yX5_daysSinceLook, cX5_daysSinceLook, 5, (some .int))
theorem dX5_daysSinceLook_0 : decode cX5_daysSinceLook 0 = .ok (.sipush 999, 3) := by decide +kernel
theorem dX5_daysSinceLook_3 : decode cX5_daysSinceLook 3 = .ok (.istore_n 3, 1) := by decide +kernel
theorem dX5_daysSinceLook_4 : decode cX5_daysSinceLook 4 = .ok (.iconst 0, 1) := by decide +kernel
theorem dX5_daysSinceLook_5 : decode cX5_daysSinceLook 5 = .ok (.istore 4, 2) := by decide +kernel
theorem dX5_daysSinceLook_7 : decode cX5_daysSinceLook 7 = .ok (.iload 4, 2) := by decide +kernel
theorem dX5_daysSinceLook_9 : decode cX5_daysSinceLook 9 = .ok (.aload_n 0, 1) := by decide +kernel
theorem dX5_daysSinceLook_10 : decode cX5_daysSinceLook 10 = .ok (.getfield 50, 3) := by decide +kernel
theorem dX5_daysSinceLook_13 : decode cX5_daysSinceLook 13 = .ok (.if_icmp .ge 56, 3) := by decide +kernel
theorem dX5_daysSinceLook_16 : decode cX5_daysSinceLook 16 = .ok (.aload_n 0, 1) := by decide +kernel
theorem dX5_daysSinceLook_17 : decode cX5_daysSinceLook 17 = .ok (.getfield 24, 3) := by decide +kernel
theorem dX5_daysSinceLook_20 : decode cX5_daysSinceLook 20 = .ok (.iload 4, 2) := by decide +kernel
theorem dX5_daysSinceLook_22 : decode cX5_daysSinceLook 22 = .ok (.iaload, 1) := by decide +kernel
theorem dX5_daysSinceLook_23 : decode cX5_daysSinceLook 23 = .ok (.iload_n 1, 1) := by decide +kernel
theorem dX5_daysSinceLook_24 : decode cX5_daysSinceLook 24 = .ok (.if_icmp .ne 39, 3) := by decide +kernel
theorem dX5_daysSinceLook_27 : decode cX5_daysSinceLook 27 = .ok (.aload_n 0, 1) := by decide +kernel
theorem dX5_daysSinceLook_28 : decode cX5_daysSinceLook 28 = .ok (.getfield 30, 3) := by decide +kernel
theorem dX5_daysSinceLook_31 : decode cX5_daysSinceLook 31 = .ok (.iload 4, 2) := by decide +kernel
theorem dX5_daysSinceLook_33 : decode cX5_daysSinceLook 33 = .ok (.iaload, 1) := by decide +kernel
theorem dX5_daysSinceLook_34 : decode cX5_daysSinceLook 34 = .ok (.iconst (-1), 1) := by decide +kernel
theorem dX5_daysSinceLook_35 : decode cX5_daysSinceLook 35 = .ok (.if_icmp .ne 28, 3) := by decide +kernel
theorem dX5_daysSinceLook_38 : decode cX5_daysSinceLook 38 = .ok (.aload_n 0, 1) := by decide +kernel
theorem dX5_daysSinceLook_39 : decode cX5_daysSinceLook 39 = .ok (.getfield 27, 3) := by decide +kernel
theorem dX5_daysSinceLook_42 : decode cX5_daysSinceLook 42 = .ok (.iload 4, 2) := by decide +kernel
theorem dX5_daysSinceLook_44 : decode cX5_daysSinceLook 44 = .ok (.iaload, 1) := by decide +kernel
theorem dX5_daysSinceLook_45 : decode cX5_daysSinceLook 45 = .ok (.iload_n 2, 1) := by decide +kernel
theorem dX5_daysSinceLook_46 : decode cX5_daysSinceLook 46 = .ok (.if_icmp .gt 17, 3) := by decide +kernel
theorem dX5_daysSinceLook_49 : decode cX5_daysSinceLook 49 = .ok (.iload_n 2, 1) := by decide +kernel
theorem dX5_daysSinceLook_50 : decode cX5_daysSinceLook 50 = .ok (.aload_n 0, 1) := by decide +kernel
theorem dX5_daysSinceLook_51 : decode cX5_daysSinceLook 51 = .ok (.getfield 27, 3) := by decide +kernel
theorem dX5_daysSinceLook_54 : decode cX5_daysSinceLook 54 = .ok (.iload 4, 2) := by decide +kernel
theorem dX5_daysSinceLook_56 : decode cX5_daysSinceLook 56 = .ok (.iaload, 1) := by decide +kernel
theorem dX5_daysSinceLook_57 : decode cX5_daysSinceLook 57 = .ok (.isub, 1) := by decide +kernel
theorem dX5_daysSinceLook_58 : decode cX5_daysSinceLook 58 = .ok (.sipush 1440, 3) := by decide +kernel
theorem dX5_daysSinceLook_61 : decode cX5_daysSinceLook 61 = .ok (.idiv, 1) := by decide +kernel
theorem dX5_daysSinceLook_62 : decode cX5_daysSinceLook 62 = .ok (.istore_n 3, 1) := by decide +kernel
theorem dX5_daysSinceLook_63 : decode cX5_daysSinceLook 63 = .ok (.iinc 4 1, 3) := by decide +kernel
theorem dX5_daysSinceLook_66 : decode cX5_daysSinceLook 66 = .ok (.goto (-59), 3) := by decide +kernel
theorem dX5_daysSinceLook_69 : decode cX5_daysSinceLook 69 = .ok (.iload_n 3, 1) := by decide +kernel
theorem dX5_daysSinceLook_70 : decode cX5_daysSinceLook 70 = .ok (.ireturn, 1) := by decide +kernel
theorem okX5_daysSinceLook : ab_okM MX5_daysSinceLook 2 := ⟨by decide, ⟨by decide, by decide⟩, ab_in 1574 (by decide +kernel) (by decide +kernel), ab_in 97 (by decide +kernel) (by decide +kernel), by decide +kernel, by decide⟩
set_option maxHeartbeats 4000000 in
set_option maxRecDepth 100000 in
def lX5_daysSinceLook_7 (v1 : Int32) (v2 : Int32) (x : ab_X) (K : Int32 → Prop)  (L7 : Int32 → Int32 → Prop) (v3 : Int32) (v4 : Int32) : Prop := (((x.1 165 9) ≤ v4 → K v3) ∧ (¬ (x.1 165 9) ≤ v4 → (vp_in v4 100 ∧ ((¬ (x.1 169 (Int32.toNatClampNeg v4)) = v1 → L7 v3 (v4 + 1)) ∧ ((x.1 169 (Int32.toNatClampNeg v4)) = v1 → (vp_in v4 100 ∧ ((¬ (x.1 171 (Int32.toNatClampNeg v4)) = (-1) → L7 v3 (v4 + 1)) ∧ ((x.1 171 (Int32.toNatClampNeg v4)) = (-1) → (vp_in v4 100 ∧ ((v2 < (x.1 170 (Int32.toNatClampNeg v4)) → L7 v3 (v4 + 1)) ∧ (¬ v2 < (x.1 170 (Int32.toNatClampNeg v4)) → (vp_in v4 100 ∧ L7 ((v2 - (x.1 170 (Int32.toNatClampNeg v4))) / 1440) (v4 + 1)))))))))))))
set_option maxHeartbeats 4000000 in
set_option maxRecDepth 100000 in
theorem sX5_daysSinceLook_7 (v1 : Int32) (v2 : Int32) (v3 : Int32) (v4 : Int32)  (x : ab_X) (K : Int32 → Prop)  (d bc bs : Nat) (hdp : 0 ≤ d)  (h : Lp2 (lX5_daysSinceLook_7 v1 v2 x K ) v3 v4) : EW MX5_daysSinceLook 7 [(0, .ref 165), (1, .int v1), (2, .int v2), (3, .int v3), (4, .int v4)] [] (aS x) d bc bs (liP x K) := by
  refine Lp2.use (P := fun v3 v4 => EW MX5_daysSinceLook 7 [(0, .ref 165), (1, .int v1), (2, .int v2), (3, .int v3), (4, .int v4)] [] (aS x) d bc bs (liP x K)) (fun L7 v3 v4 hL7 h => ?_) v3 v4 h
  unfold lX5_daysSinceLook_7 at h
  refine EW_iload (pc2 := 9) rfl dX5_daysSinceLook_7 4 rfl ?_
  refine EW_aload_n (pc2 := 10) rfl dX5_daysSinceLook_9 0 rfl ?_
  refine AW_geti ⟨gfRX5_50, rfl⟩ (pc2 := 13) rfl dX5_daysSinceLook_10 q165 ?_
  refine EW_icmp_ge (tgt := 69) (pc2 := 16) rfl dX5_daysSinceLook_13 (by decide) (fun q => ?_) (fun q => ?_)
  · replace h := h.1 q
    refine EW_iload_n (pc2 := 70) rfl dX5_daysSinceLook_69 3 rfl ?_
    exact AW_iret rfl dX5_daysSinceLook_70 ⟨_, rfl, rfl, h⟩
  · replace h := h.2 q
    refine EW_aload_n (pc2 := 17) rfl dX5_daysSinceLook_16 0 rfl ?_
    refine AW_getr (r := 169) ⟨gfRX5_24, rfl⟩ (pc2 := 20) rfl dX5_daysSinceLook_17 q165 rfl ?_
    refine EW_iload (pc2 := 22) rfl dX5_daysSinceLook_20 4 rfl ?_
    obtain ⟨b1, h⟩ := h
    refine AW_iald (pc2 := 23) rfl dX5_daysSinceLook_22 q169 b1 ?_
    refine EW_iload_n (pc2 := 24) rfl dX5_daysSinceLook_23 1 rfl ?_
    refine EW_icmp_ne (tgt := 63) (pc2 := 27) rfl dX5_daysSinceLook_24 (by decide) (fun q => ?_) (fun q => ?_)
    · replace h := h.1 q
      refine EW_iinc (v4 + 1) (pc2 := 66) rfl dX5_daysSinceLook_63 4 rfl rfl (by decide) [1, 2, 3, 4, 0] [(0, .ref 165), (1, .int v1), (2, .int v2), (3, .int v3), (4, .int (v4 + 1))] rfl ?_
      refine EW_goto (tgt := 7) dX5_daysSinceLook_66 (by decide) ?_
      exact hL7 v3 (v4 + 1) h
    · replace h := h.2 q
      refine EW_aload_n (pc2 := 28) rfl dX5_daysSinceLook_27 0 rfl ?_
      refine AW_getr (r := 171) ⟨gfRX5_30, rfl⟩ (pc2 := 31) rfl dX5_daysSinceLook_28 q165 rfl ?_
      refine EW_iload (pc2 := 33) rfl dX5_daysSinceLook_31 4 rfl ?_
      obtain ⟨b2, h⟩ := h
      refine AW_iald (pc2 := 34) rfl dX5_daysSinceLook_33 q171 b2 ?_
      refine EW_iconst (pc2 := 35) (v := (-1)) rfl dX5_daysSinceLook_34 (by decide) ?_
      refine EW_icmp_ne (tgt := 63) (pc2 := 38) rfl dX5_daysSinceLook_35 (by decide) (fun q => ?_) (fun q => ?_)
      · replace h := h.1 q
        refine EW_iinc (v4 + 1) (pc2 := 66) rfl dX5_daysSinceLook_63 4 rfl rfl (by decide) [1, 2, 3, 4, 0] [(0, .ref 165), (1, .int v1), (2, .int v2), (3, .int v3), (4, .int (v4 + 1))] rfl ?_
        refine EW_goto (tgt := 7) dX5_daysSinceLook_66 (by decide) ?_
        exact hL7 v3 (v4 + 1) h
      · replace h := h.2 q
        refine EW_aload_n (pc2 := 39) rfl dX5_daysSinceLook_38 0 rfl ?_
        refine AW_getr (r := 170) ⟨gfRX5_27, rfl⟩ (pc2 := 42) rfl dX5_daysSinceLook_39 q165 rfl ?_
        refine EW_iload (pc2 := 44) rfl dX5_daysSinceLook_42 4 rfl ?_
        obtain ⟨b3, h⟩ := h
        refine AW_iald (pc2 := 45) rfl dX5_daysSinceLook_44 q170 b3 ?_
        refine EW_iload_n (pc2 := 46) rfl dX5_daysSinceLook_45 2 rfl ?_
        refine EW_icmp_gt (tgt := 63) (pc2 := 49) rfl dX5_daysSinceLook_46 (by decide) (fun q => ?_) (fun q => ?_)
        · replace h := h.1 q
          refine EW_iinc (v4 + 1) (pc2 := 66) rfl dX5_daysSinceLook_63 4 rfl rfl (by decide) [1, 2, 3, 4, 0] [(0, .ref 165), (1, .int v1), (2, .int v2), (3, .int v3), (4, .int (v4 + 1))] rfl ?_
          refine EW_goto (tgt := 7) dX5_daysSinceLook_66 (by decide) ?_
          exact hL7 v3 (v4 + 1) h
        · replace h := h.2 q
          refine EW_iload_n (pc2 := 50) rfl dX5_daysSinceLook_49 2 rfl ?_
          refine EW_aload_n (pc2 := 51) rfl dX5_daysSinceLook_50 0 rfl ?_
          refine AW_getr (r := 170) ⟨gfRX5_27, rfl⟩ (pc2 := 54) rfl dX5_daysSinceLook_51 q165 rfl ?_
          refine EW_iload (pc2 := 56) rfl dX5_daysSinceLook_54 4 rfl ?_
          obtain ⟨b4, h⟩ := h
          refine AW_iald (pc2 := 57) rfl dX5_daysSinceLook_56 q170 b4 ?_
          refine EW_isub (pc2 := 58) rfl dX5_daysSinceLook_57 ?_
          refine EW_sipush (pc2 := 61) (v := 1440) rfl dX5_daysSinceLook_58 (by decide) ?_
          refine EW_idiv (pc2 := 62) rfl dX5_daysSinceLook_61 (by decide) ?_
          refine EW_istore_n (pc2 := 63) rfl dX5_daysSinceLook_62 (by decide) [1, 2, 3, 0, 4] [(0, .ref 165), (1, .int v1), (2, .int v2), (3, .int ((v2 - (x.1 170 (Int32.toNatClampNeg v4))) / 1440)), (4, .int v4)] rfl ?_
          refine EW_iinc (v4 + 1) (pc2 := 66) rfl dX5_daysSinceLook_63 4 rfl rfl (by decide) [1, 2, 3, 4, 0] [(0, .ref 165), (1, .int v1), (2, .int v2), (3, .int ((v2 - (x.1 170 (Int32.toNatClampNeg v4))) / 1440)), (4, .int (v4 + 1))] rfl ?_
          refine EW_goto (tgt := 7) dX5_daysSinceLook_66 (by decide) ?_
          exact hL7 ((v2 - (x.1 170 (Int32.toNatClampNeg v4))) / 1440) (v4 + 1) h
set_option maxHeartbeats 4000000 in
set_option maxRecDepth 100000 in
def wX5_daysSinceLook (v1 : Int32) (v2 : Int32) (x : ab_X) (K : Int32 → Prop) : Prop := Lp2 (lX5_daysSinceLook_7 v1 v2 x K ) 999 0
set_option maxHeartbeats 4000000 in
set_option maxRecDepth 100000 in
theorem sX5_daysSinceLook (v1 : Int32) (v2 : Int32)  (x : ab_X) (K : Int32 → Prop) (d bc bs : Nat) (hdp : 0 ≤ d) (h : wX5_daysSinceLook v1 v2 x K) : EW MX5_daysSinceLook 0 [(0, .ref 165), (1, .int v1), (2, .int v2)] [] (aS x) d bc bs (liP x K) := by
  unfold wX5_daysSinceLook at h
  refine EW_sipush (pc2 := 3) (v := 999) rfl dX5_daysSinceLook_0 (by decide) ?_
  refine EW_istore_n (pc2 := 4) rfl dX5_daysSinceLook_3 (by decide) [1, 2, 3, 0] [(0, .ref 165), (1, .int v1), (2, .int v2), (3, .int 999)] rfl ?_
  refine EW_iconst (pc2 := 5) (v := 0) rfl dX5_daysSinceLook_4 (by decide) ?_
  refine EW_istore (pc2 := 7) rfl dX5_daysSinceLook_5 (by decide) [1, 2, 3, 4, 0] [(0, .ref 165), (1, .int v1), (2, .int v2), (3, .int 999), (4, .int 0)] rfl ?_
  exact sX5_daysSinceLook_7 v1 v2 999 0 x K d bc bs hdp h
