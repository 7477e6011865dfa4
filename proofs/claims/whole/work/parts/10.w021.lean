abbrev MX8_number : ab_M := (yX8_number, cX8_number, 5, (some .boolean))
theorem dX8_number_0 : decode cX8_number 0 = .ok (.aload_n 0, 1) := by decide +kernel
theorem dX8_number_1 : decode cX8_number 1 = .ok (.invokevirtual 46, 3) := by decide +kernel
theorem dX8_number_4 : decode cX8_number 4 = .ok (.invokestatic 76, 3) := by decide +kernel
theorem dX8_number_7 : decode cX8_number 7 = .ok (.ifCond .ne 5, 3) := by decide +kernel
theorem dX8_number_10 : decode cX8_number 10 = .ok (.iconst 0, 1) := by decide +kernel
theorem dX8_number_11 : decode cX8_number 11 = .ok (.ireturn, 1) := by decide +kernel
theorem dX8_number_12 : decode cX8_number 12 = .ok (.iconst 0, 1) := by decide +kernel
theorem dX8_number_13 : decode cX8_number 13 = .ok (.istore_n 3, 1) := by decide +kernel
theorem dX8_number_14 : decode cX8_number 14 = .ok (.iconst 0, 1) := by decide +kernel
theorem dX8_number_15 : decode cX8_number 15 = .ok (.istore 4, 2) := by decide +kernel
theorem dX8_number_17 : decode cX8_number 17 = .ok (.iload 4, 2) := by decide +kernel
theorem dX8_number_19 : decode cX8_number 19 = .ok (.iload_n 1, 1) := by decide +kernel
theorem dX8_number_20 : decode cX8_number 20 = .ok (.if_icmp .gt 80, 3) := by decide +kernel
theorem dX8_number_23 : decode cX8_number 23 = .ok (.aload_n 0, 1) := by decide +kernel
theorem dX8_number_24 : decode cX8_number 24 = .ok (.getfield 36, 3) := by decide +kernel
theorem dX8_number_27 : decode cX8_number 27 = .ok (.aload_n 0, 1) := by decide +kernel
theorem dX8_number_28 : decode cX8_number 28 = .ok (.getfield 28, 3) := by decide +kernel
theorem dX8_number_31 : decode cX8_number 31 = .ok (.if_icmp .ge 18, 3) := by decide +kernel
theorem dX8_number_34 : decode cX8_number 34 = .ok (.aload_n 0, 1) := by decide +kernel
theorem dX8_number_35 : decode cX8_number 35 = .ok (.getfield 9, 3) := by decide +kernel
theorem dX8_number_38 : decode cX8_number 38 = .ok (.aload_n 0, 1) := by decide +kernel
theorem dX8_number_39 : decode cX8_number 39 = .ok (.getfield 36, 3) := by decide +kernel
theorem dX8_number_42 : decode cX8_number 42 = .ok (.iaload, 1) := by decide +kernel
theorem dX8_number_43 : decode cX8_number 43 = .ok (.invokestatic 76, 3) := by decide +kernel
theorem dX8_number_46 : decode cX8_number 46 = .ok (.ifCond .ne 14, 3) := by decide +kernel
theorem dX8_number_49 : decode cX8_number 49 = .ok (.aload_n 0, 1) := by decide +kernel
theorem dX8_number_50 : decode cX8_number 50 = .ok (.getfield 24, 3) := by decide +kernel
theorem dX8_number_53 : decode cX8_number 53 = .ok (.iload_n 2, 1) := by decide +kernel
theorem dX8_number_54 : decode cX8_number 54 = .ok (.iload_n 3, 1) := by decide +kernel
theorem dX8_number_55 : decode cX8_number 55 = .ok (.invokevirtual 58, 3) := by decide +kernel
theorem dX8_number_58 : decode cX8_number 58 = .ok (.iconst 1, 1) := by decide +kernel
theorem dX8_number_59 : decode cX8_number 59 = .ok (.ireturn, 1) := by decide +kernel
theorem dX8_number_60 : decode cX8_number 60 = .ok (.iload 4, 2) := by decide +kernel
theorem dX8_number_62 : decode cX8_number 62 = .ok (.iload_n 1, 1) := by decide +kernel
theorem dX8_number_63 : decode cX8_number 63 = .ok (.if_icmp .ge 31, 3) := by decide +kernel
theorem dX8_number_66 : decode cX8_number 66 = .ok (.iload_n 3, 1) := by decide +kernel
theorem dX8_number_67 : decode cX8_number 67 = .ok (.bipush 10, 2) := by decide +kernel
theorem dX8_number_69 : decode cX8_number 69 = .ok (.imul, 1) := by decide +kernel
theorem dX8_number_70 : decode cX8_number 70 = .ok (.aload_n 0, 1) := by decide +kernel
theorem dX8_number_71 : decode cX8_number 71 = .ok (.getfield 9, 3) := by decide +kernel
theorem dX8_number_74 : decode cX8_number 74 = .ok (.aload_n 0, 1) := by decide +kernel
theorem dX8_number_75 : decode cX8_number 75 = .ok (.getfield 36, 3) := by decide +kernel
theorem dX8_number_78 : decode cX8_number 78 = .ok (.iaload, 1) := by decide +kernel
theorem dX8_number_79 : decode cX8_number 79 = .ok (.iadd, 1) := by decide +kernel
theorem dX8_number_80 : decode cX8_number 80 = .ok (.bipush 48, 2) := by decide +kernel
theorem dX8_number_82 : decode cX8_number 82 = .ok (.isub, 1) := by decide +kernel
theorem dX8_number_83 : decode cX8_number 83 = .ok (.istore_n 3, 1) := by decide +kernel
theorem dX8_number_84 : decode cX8_number 84 = .ok (.aload_n 0, 1) := by decide +kernel
theorem dX8_number_85 : decode cX8_number 85 = .ok (.dup, 1) := by decide +kernel
theorem dX8_number_86 : decode cX8_number 86 = .ok (.getfield 36, 3) := by decide +kernel
theorem dX8_number_89 : decode cX8_number 89 = .ok (.iconst 1, 1) := by decide +kernel
theorem dX8_number_90 : decode cX8_number 90 = .ok (.iadd, 1) := by decide +kernel
theorem dX8_number_91 : decode cX8_number 91 = .ok (.putfield 36, 3) := by decide +kernel
theorem dX8_number_94 : decode cX8_number 94 = .ok (.iinc 4 1, 3) := by decide +kernel
theorem dX8_number_97 : decode cX8_number 97 = .ok (.goto (-80), 3) := by decide +kernel
theorem dX8_number_100 : decode cX8_number 100 = .ok (.iconst 0, 1) := by decide +kernel
theorem dX8_number_101 : decode cX8_number 101 = .ok (.ireturn, 1) := by decide +kernel
theorem okX8_number : ab_okM MX8_number 2 := ⟨by decide, ⟨by decide, by decide⟩, ab_in 1226 (by decide +kernel) (by decide +kernel), ab_in 96 (by decide +kernel) (by decide +kernel), by decide +kernel, by decide⟩
set_option maxHeartbeats 4000000 in
set_option maxRecDepth 100000 in
def wX8_number_49 (v2 : Int32) (v3 : Int32) (x : ab_X) (K : Int32 → ab_X → Prop)  : Prop := wX9_add 160 v2 v3 x (fun x7 => K 1 x7)
set_option maxHeartbeats 4000000 in
set_option maxRecDepth 100000 in
theorem sX8_number_49 (v2 : Int32) (v3 : Int32)  (x : ab_X) (K : Int32 → ab_X → Prop)  (d bc bs : Nat) (hdp : 1 ≤ d)  (h : wX8_number_49 v2 v3 x K ) : EW MX8_number 49 [(0, .ref 158), (2, .int v2), (3, .int v3)] [] (aS x) d bc bs (liI K) := by
  unfold wX8_number_49 at h
  refine EW_aload_n (pc2 := 50) rfl dX8_number_49 0 rfl ?_
  refine AW_getr (r := 160) ⟨gfRX8_24, rfl⟩ (pc2 := 53) rfl dX8_number_50 q158 rfl ?_
  refine EW_iload_n (pc2 := 54) rfl dX8_number_53 1 rfl ?_
  refine EW_iload_n (pc2 := 55) rfl dX8_number_54 2 rfl ?_
  refine AW_invV (M' := MX9_add) [.int v2, .int v3] (rest := []) mlRX8_58 okX9_add (pc2 := 58) rfl dX8_number_55 rfl rfl (Nat.le_of_ble_eq_true rfl) (Nat.le_of_ble_eq_true rfl) (d' := 0) (by omega) q160 ⟨by decide, rfl⟩ (EW_mono (fun _ _ hr => ?_) (sX9_add 160 v2 v3 (Or.inr (Or.inr (Or.inl rfl)) : isT 160) x _ _ 0 0 (Nat.le_refl _) h))
  obtain ⟨x7, rfl, rfl, h⟩ := hr
  refine EW_iconst (pc2 := 59) (v := 1) rfl dX8_number_58 (by decide) ?_
  exact AW_zret rfl isB1 dX8_number_59 ⟨_, _, rfl, rfl, h⟩
set_option maxHeartbeats 4000000 in
set_option maxRecDepth 100000 in
def lX8_number_17 (v1 : Int32) (v2 : Int32) (K : Int32 → ab_X → Prop)  (L17 : Int32 → Int32 → ab_X → Prop) (v3 : Int32) (v4 : Int32) (x : ab_X) : Prop := ((v1 < v4 → K 0 x) ∧ (¬ v1 < v4 → (((x.1 158 1) ≤ (x.1 158 2) → wX8_number_49 v2 v3 x K) ∧ (¬ (x.1 158 1) ≤ (x.1 158 2) → (vp_in (x.1 158 2) 200 ∧ wX8_isDigit (x.1 159 (Int32.toNatClampNeg (x.1 158 2))) x (fun r5 => ((¬ r5 = 0 → ((v1 ≤ v4 → L17 v3 (v4 + 1) x) ∧ (¬ v1 ≤ v4 → (vp_in (x.1 158 2) 200 ∧ L17 (((v3 * 10) + (x.1 159 (Int32.toNatClampNeg (x.1 158 2)))) - 48) (v4 + 1) (wr x 158 2 ((x.1 158 2) + 1)))))) ∧ (r5 = 0 → wX8_number_49 v2 v3 x K))))))))
set_option maxHeartbeats 4000000 in
set_option maxRecDepth 100000 in
theorem sX8_number_17 (v1 : Int32) (v2 : Int32) (v3 : Int32) (v4 : Int32)  (x : ab_X) (K : Int32 → ab_X → Prop)  (d bc bs : Nat) (hdp : 1 ≤ d)  (h : Lp3 (lX8_number_17 v1 v2 K ) v3 v4 x) : EW MX8_number 17 [(0, .ref 158), (1, .int v1), (2, .int v2), (3, .int v3), (4, .int v4)] [] (aS x) d bc bs (liI K) := by
  refine Lp3.use (P := fun v3 v4 x => EW MX8_number 17 [(0, .ref 158), (1, .int v1), (2, .int v2), (3, .int v3), (4, .int v4)] [] (aS x) d bc bs (liI K)) (fun L17 v3 v4 x hL17 h => ?_) v3 v4 x h
  unfold lX8_number_17 at h
  refine EW_iload (pc2 := 19) rfl dX8_number_17 4 rfl ?_
  refine EW_iload_n (pc2 := 20) rfl dX8_number_19 1 rfl ?_
  refine EW_icmp_gt (tgt := 100) (pc2 := 23) rfl dX8_number_20 (by decide) (fun q => ?_) (fun q => ?_)
  · replace h := h.1 q
    refine EW_iconst (pc2 := 101) (v := 0) rfl dX8_number_100 (by decide) ?_
    exact AW_zret rfl isB0 dX8_number_101 ⟨_, _, rfl, rfl, h⟩
  · replace h := h.2 q
    refine EW_aload_n (pc2 := 24) rfl dX8_number_23 0 rfl ?_
    refine AW_geti ⟨gfRX8_36, rfl⟩ (pc2 := 27) rfl dX8_number_24 q158 ?_
    refine EW_aload_n (pc2 := 28) rfl dX8_number_27 0 rfl ?_
    refine AW_geti ⟨gfRX8_28, rfl⟩ (pc2 := 31) rfl dX8_number_28 q158 ?_
    refine EW_icmp_ge (tgt := 49) (pc2 := 34) rfl dX8_number_31 (by decide) (fun q => ?_) (fun q => ?_)
    · replace h := h.1 q
      refine EW_ls [0, 2, 3] rfl ?_
      exact sX8_number_49 v2 v3 x K d bc bs hdp h
    · replace h := h.2 q
      refine EW_aload_n (pc2 := 35) rfl dX8_number_34 0 rfl ?_
      refine AW_getr (r := 159) ⟨gfRX8_9, rfl⟩ (pc2 := 38) rfl dX8_number_35 q158 rfl ?_
      refine EW_aload_n (pc2 := 39) rfl dX8_number_38 0 rfl ?_
      refine AW_geti ⟨gfRX8_36, rfl⟩ (pc2 := 42) rfl dX8_number_39 q158 ?_
      obtain ⟨b4, h⟩ := h
      refine AW_iald (pc2 := 43) rfl dX8_number_42 q159 b4 ?_
      refine AW_invS (M' := MX8_isDigit) [.int (x.1 159 (Int32.toNatClampNeg (x.1 158 2)))] (rest := []) mlRX8_76 okX8_isDigit (pc2 := 46) rfl dX8_number_43 rfl rfl (Nat.le_of_ble_eq_true rfl) (Nat.le_of_ble_eq_true rfl) (d' := 0) (by omega) (EW_mono (fun _ _ hr => ?_) (sX8_isDigit (x.1 159 (Int32.toNatClampNeg (x.1 158 2)))  x _ _ 0 0 (Nat.le_refl _) h))
      obtain ⟨r5, rfl, rfl, h⟩ := hr
      refine EW_if_ne (tgt := 60) (pc2 := 49) rfl dX8_number_46 (by decide) (fun q => ?_) (fun q => ?_)
      · replace h := h.1 q
        refine EW_iload (pc2 := 62) rfl dX8_number_60 4 rfl ?_
        refine EW_iload_n (pc2 := 63) rfl dX8_number_62 1 rfl ?_
        refine EW_icmp_ge (tgt := 94) (pc2 := 66) rfl dX8_number_63 (by decide) (fun q => ?_) (fun q => ?_)
        · replace h := h.1 q
          refine EW_iinc (v4 + 1) (pc2 := 97) rfl dX8_number_94 4 rfl rfl (by decide) [1, 2, 3, 4, 0] [(0, .ref 158), (1, .int v1), (2, .int v2), (3, .int v3), (4, .int (v4 + 1))] rfl ?_
          refine EW_goto (tgt := 17) dX8_number_97 (by decide) ?_
          exact hL17 v3 (v4 + 1) x h
        · replace h := h.2 q
          refine EW_iload_n (pc2 := 67) rfl dX8_number_66 3 rfl ?_
          refine EW_bipush (pc2 := 69) (v := 10) rfl dX8_number_67 (by decide) ?_
          refine EW_imul (pc2 := 70) rfl dX8_number_69 ?_
          refine EW_aload_n (pc2 := 71) rfl dX8_number_70 0 rfl ?_
          refine AW_getr (r := 159) ⟨gfRX8_9, rfl⟩ (pc2 := 74) rfl dX8_number_71 q158 rfl ?_
          refine EW_aload_n (pc2 := 75) rfl dX8_number_74 0 rfl ?_
          refine AW_geti ⟨gfRX8_36, rfl⟩ (pc2 := 78) rfl dX8_number_75 q158 ?_
          obtain ⟨b6, h⟩ := h
          refine AW_iald (pc2 := 79) rfl dX8_number_78 q159 b6 ?_
          refine EW_iadd (pc2 := 80) rfl dX8_number_79 ?_
          refine EW_bipush (pc2 := 82) (v := 48) rfl dX8_number_80 (by decide) ?_
          refine EW_isub (pc2 := 83) rfl dX8_number_82 ?_
          refine EW_istore_n (pc2 := 84) rfl dX8_number_83 (by decide) [1, 2, 3, 0, 4] [(0, .ref 158), (1, .int v1), (2, .int v2), (3, .int (((v3 * 10) + (x.1 159 (Int32.toNatClampNeg (x.1 158 2)))) - 48)), (4, .int v4)] rfl ?_
          refine EW_aload_n (pc2 := 85) rfl dX8_number_84 0 rfl ?_
          refine EW_dup (pc2 := 86) rfl dX8_number_85 rfl ?_
          refine AW_geti ⟨gfRX8_36, rfl⟩ (pc2 := 89) rfl dX8_number_86 q158 ?_
          refine EW_iconst (pc2 := 90) (v := 1) rfl dX8_number_89 (by decide) ?_
          refine EW_iadd (pc2 := 91) rfl dX8_number_90 ?_
          refine AW_puti ⟨gfRX8_36, rfl, rfl⟩ (pc2 := 94) rfl dX8_number_91 q158 ?_
          refine EW_iinc (v4 + 1) (pc2 := 97) rfl dX8_number_94 4 rfl rfl (by decide) [1, 2, 3, 4, 0] [(0, .ref 158), (1, .int v1), (2, .int v2), (3, .int (((v3 * 10) + (x.1 159 (Int32.toNatClampNeg (x.1 158 2)))) - 48)), (4, .int (v4 + 1))] rfl ?_
          refine EW_goto (tgt := 17) dX8_number_97 (by decide) ?_
          exact hL17 (((v3 * 10) + (x.1 159 (Int32.toNatClampNeg (x.1 158 2)))) - 48) (v4 + 1) (wr x 158 2 ((x.1 158 2) + 1)) h
      · replace h := h.2 q
        refine EW_ls [0, 2, 3] rfl ?_
        exact sX8_number_49 v2 v3 x K d bc bs hdp h
set_option maxHeartbeats 4000000 in
set_option maxRecDepth 100000 in
def wX8_number (v1 : Int32) (v2 : Int32) (x : ab_X) (K : Int32 → ab_X → Prop) : Prop := wX8_peek x (fun r1 x2 => wX8_isDigit r1 x2 (fun r3 => ((¬ r3 = 0 → Lp3 (lX8_number_17 v1 v2 K ) 0 0 x2) ∧ (r3 = 0 → K 0 x2))))
set_option maxHeartbeats 4000000 in
set_option maxRecDepth 100000 in
theorem sX8_number (v1 : Int32) (v2 : Int32)  (x : ab_X) (K : Int32 → ab_X → Prop) (d bc bs : Nat) (hdp : 1 ≤ d) (h : wX8_number v1 v2 x K) : EW MX8_number 0 [(0, .ref 158), (1, .int v1), (2, .int v2)] [] (aS x) d bc bs (liI K) := by
  unfold wX8_number at h
  refine EW_aload_n (pc2 := 1) rfl dX8_number_0 0 rfl ?_
  refine AW_invV (M' := MX8_peek) [] (rest := []) mlRX8_46 okX8_peek (pc2 := 4) rfl dX8_number_1 rfl rfl (Nat.le_of_ble_eq_true rfl) (Nat.le_of_ble_eq_true rfl) (d' := 0) (by omega) q158 ⟨by decide, rfl⟩ (EW_mono (fun _ _ hr => ?_) (sX8_peek   x _ _ 0 0 (Nat.le_refl _) h))
  obtain ⟨r1, x2, rfl, rfl, h⟩ := hr
  refine AW_invS (M' := MX8_isDigit) [.int r1] (rest := []) mlRX8_76 okX8_isDigit (pc2 := 7) rfl dX8_number_4 rfl rfl (Nat.le_of_ble_eq_true rfl) (Nat.le_of_ble_eq_true rfl) (d' := 0) (by omega) (EW_mono (fun _ _ hr => ?_) (sX8_isDigit r1  x2 _ _ 0 0 (Nat.le_refl _) h))
  obtain ⟨r3, rfl, rfl, h⟩ := hr
  refine EW_if_ne (tgt := 12) (pc2 := 10) rfl dX8_number_7 (by decide) (fun q => ?_) (fun q => ?_)
  · replace h := h.1 q
    refine EW_iconst (pc2 := 13) (v := 0) rfl dX8_number_12 (by decide) ?_
    refine EW_istore_n (pc2 := 14) rfl dX8_number_13 (by decide) [1, 2, 3, 0] [(0, .ref 158), (1, .int v1), (2, .int v2), (3, .int 0)] rfl ?_
    refine EW_iconst (pc2 := 15) (v := 0) rfl dX8_number_14 (by decide) ?_
    refine EW_istore (pc2 := 17) rfl dX8_number_15 (by decide) [1, 2, 3, 4, 0] [(0, .ref 158), (1, .int v1), (2, .int v2), (3, .int 0), (4, .int 0)] rfl ?_
    exact sX8_number_17 v1 v2 0 0 x2 K d bc bs hdp h
  · replace h := h.2 q
    refine EW_iconst (pc2 := 11) (v := 0) rfl dX8_number_10 (by decide) ?_
    exact AW_zret rfl isB0 dX8_number_11 ⟨_, _, rfl, rfl, h⟩
abbrev MX8_opens : ab_M := (yX8_opens, cX8_opens, 2, (some .boolean))
theorem dX8_opens_0 : decode cX8_opens 0 = .ok (.iload_n 1, 1) := by decide +kernel
theorem dX8_opens_1 : decode cX8_opens 1 = .ok (.bipush 8, 2) := by decide +kernel
theorem dX8_opens_3 : decode cX8_opens 3 = .ok (.if_icmp .lt 5, 3) := by decide +kernel
theorem dX8_opens_6 : decode cX8_opens 6 = .ok (.iconst 0, 1) := by decide +kernel
theorem dX8_opens_7 : decode cX8_opens 7 = .ok (.ireturn, 1) := by decide +kernel
theorem dX8_opens_8 : decode cX8_opens 8 = .ok (.aload_n 0, 1) := by decide +kernel
theorem dX8_opens_9 : decode cX8_opens 9 = .ok (.dup, 1) := by decide +kernel
theorem dX8_opens_10 : decode cX8_opens 10 = .ok (.getfield 36, 3) := by decide +kernel
theorem dX8_opens_13 : decode cX8_opens 13 = .ok (.iconst 1, 1) := by decide +kernel
theorem dX8_opens_14 : decode cX8_opens 14 = .ok (.iadd, 1) := by decide +kernel
theorem dX8_opens_15 : decode cX8_opens 15 = .ok (.putfield 36, 3) := by decide +kernel
theorem dX8_opens_18 : decode cX8_opens 18 = .ok (.iconst 1, 1) := by decide +kernel
theorem dX8_opens_19 : decode cX8_opens 19 = .ok (.ireturn, 1) := by decide +kernel
theorem okX8_opens : ab_okM MX8_opens 1 := ⟨by decide, ⟨by decide, by decide⟩, ab_in 1195 (by decide +kernel) (by decide +kernel), ab_in 96 (by decide +kernel) (by decide +kernel), by decide +kernel, by decide⟩
set_option maxHeartbeats 4000000 in
set_option maxRecDepth 100000 in
def wX8_opens (v1 : Int32) (x : ab_X) (K : Int32 → ab_X → Prop) : Prop := ((v1 < 8 → K 1 (wr x 158 2 ((x.1 158 2) + 1))) ∧ (¬ v1 < 8 → K 0 x))
set_option maxHeartbeats 4000000 in
set_option maxRecDepth 100000 in
theorem sX8_opens (v1 : Int32)  (x : ab_X) (K : Int32 → ab_X → Prop) (d bc bs : Nat) (hdp : 0 ≤ d) (h : wX8_opens v1 x K) : EW MX8_opens 0 [(0, .ref 158), (1, .int v1)] [] (aS x) d bc bs (liI K) := by
  unfold wX8_opens at h
  refine EW_iload_n (pc2 := 1) rfl dX8_opens_0 1 rfl ?_
  refine EW_bipush (pc2 := 3) (v := 8) rfl dX8_opens_1 (by decide) ?_
  refine EW_icmp_lt (tgt := 8) (pc2 := 6) rfl dX8_opens_3 (by decide) (fun q => ?_) (fun q => ?_)
  · replace h := h.1 q
    refine EW_aload_n (pc2 := 9) rfl dX8_opens_8 0 rfl ?_
    refine EW_dup (pc2 := 10) rfl dX8_opens_9 rfl ?_
    refine AW_geti ⟨gfRX8_36, rfl⟩ (pc2 := 13) rfl dX8_opens_10 q158 ?_
    refine EW_iconst (pc2 := 14) (v := 1) rfl dX8_opens_13 (by decide) ?_
    refine EW_iadd (pc2 := 15) rfl dX8_opens_14 ?_
    refine AW_puti ⟨gfRX8_36, rfl, rfl⟩ (pc2 := 18) rfl dX8_opens_15 q158 ?_
    refine EW_iconst (pc2 := 19) (v := 1) rfl dX8_opens_18 (by decide) ?_
    exact AW_zret rfl isB1 dX8_opens_19 ⟨_, _, rfl, rfl, h⟩
  · replace h := h.2 q
    refine EW_iconst (pc2 := 7) (v := 0) rfl dX8_opens_6 (by decide) ?_
    exact AW_zret rfl isB0 dX8_opens_7 ⟨_, _, rfl, rfl, h⟩
