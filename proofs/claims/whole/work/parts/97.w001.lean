abbrev MX9_joined : ab_M := (yX9_joined, cX9_joined, 3, (some .long))
theorem dX9_joined_0 : decode cX9_joined 0 = .ok (.iload_n 0, 1) := by decide +kernel
theorem dX9_joined_1 : decode cX9_joined 1 = .ok (.tableswitch 103 2 9 #[47, 53, 59, 65, 76, 87, 103, 98], 47) := by decide +kernel
theorem dX9_joined_48 : decode cX9_joined 48 = .ok (.iload_n 1, 1) := by decide +kernel
theorem dX9_joined_49 : decode cX9_joined 49 = .ok (.i2l, 1) := by decide +kernel
theorem dX9_joined_50 : decode cX9_joined 50 = .ok (.iload_n 2, 1) := by decide +kernel
theorem dX9_joined_51 : decode cX9_joined 51 = .ok (.i2l, 1) := by decide +kernel
theorem dX9_joined_52 : decode cX9_joined 52 = .ok (.ladd, 1) := by decide +kernel
theorem dX9_joined_53 : decode cX9_joined 53 = .ok (.lreturn, 1) := by decide +kernel
theorem dX9_joined_54 : decode cX9_joined 54 = .ok (.iload_n 1, 1) := by decide +kernel
theorem dX9_joined_55 : decode cX9_joined 55 = .ok (.i2l, 1) := by decide +kernel
theorem dX9_joined_56 : decode cX9_joined 56 = .ok (.iload_n 2, 1) := by decide +kernel
theorem dX9_joined_57 : decode cX9_joined 57 = .ok (.i2l, 1) := by decide +kernel
theorem dX9_joined_58 : decode cX9_joined 58 = .ok (.lsub, 1) := by decide +kernel
theorem dX9_joined_59 : decode cX9_joined 59 = .ok (.lreturn, 1) := by decide +kernel
theorem dX9_joined_60 : decode cX9_joined 60 = .ok (.iload_n 1, 1) := by decide +kernel
theorem dX9_joined_61 : decode cX9_joined 61 = .ok (.i2l, 1) := by decide +kernel
theorem dX9_joined_62 : decode cX9_joined 62 = .ok (.iload_n 2, 1) := by decide +kernel
theorem dX9_joined_63 : decode cX9_joined 63 = .ok (.i2l, 1) := by decide +kernel
theorem dX9_joined_64 : decode cX9_joined 64 = .ok (.lmul, 1) := by decide +kernel
theorem dX9_joined_65 : decode cX9_joined 65 = .ok (.lreturn, 1) := by decide +kernel
theorem dX9_joined_66 : decode cX9_joined 66 = .ok (.iload_n 1, 1) := by decide +kernel
theorem dX9_joined_67 : decode cX9_joined 67 = .ok (.iload_n 2, 1) := by decide +kernel
theorem dX9_joined_68 : decode cX9_joined 68 = .ok (.if_icmp .ne 7, 3) := by decide +kernel
theorem dX9_joined_71 : decode cX9_joined 71 = .ok (.lconst 1, 1) := by decide +kernel
theorem dX9_joined_72 : decode cX9_joined 72 = .ok (.goto 4, 3) := by decide +kernel
theorem dX9_joined_75 : decode cX9_joined 75 = .ok (.lconst 0, 1) := by decide +kernel
theorem dX9_joined_76 : decode cX9_joined 76 = .ok (.lreturn, 1) := by decide +kernel
theorem dX9_joined_77 : decode cX9_joined 77 = .ok (.iload_n 1, 1) := by decide +kernel
theorem dX9_joined_78 : decode cX9_joined 78 = .ok (.iload_n 2, 1) := by decide +kernel
theorem dX9_joined_79 : decode cX9_joined 79 = .ok (.if_icmp .ge 7, 3) := by decide +kernel
theorem dX9_joined_82 : decode cX9_joined 82 = .ok (.lconst 1, 1) := by decide +kernel
theorem dX9_joined_83 : decode cX9_joined 83 = .ok (.goto 4, 3) := by decide +kernel
theorem dX9_joined_86 : decode cX9_joined 86 = .ok (.lconst 0, 1) := by decide +kernel
theorem dX9_joined_87 : decode cX9_joined 87 = .ok (.lreturn, 1) := by decide +kernel
theorem dX9_joined_88 : decode cX9_joined 88 = .ok (.iload_n 1, 1) := by decide +kernel
theorem dX9_joined_89 : decode cX9_joined 89 = .ok (.iload_n 2, 1) := by decide +kernel
theorem dX9_joined_90 : decode cX9_joined 90 = .ok (.if_icmp .le 7, 3) := by decide +kernel
theorem dX9_joined_93 : decode cX9_joined 93 = .ok (.lconst 1, 1) := by decide +kernel
theorem dX9_joined_94 : decode cX9_joined 94 = .ok (.goto 4, 3) := by decide +kernel
theorem dX9_joined_97 : decode cX9_joined 97 = .ok (.lconst 0, 1) := by decide +kernel
theorem dX9_joined_98 : decode cX9_joined 98 = .ok (.lreturn, 1) := by decide +kernel
theorem dX9_joined_99 : decode cX9_joined 99 = .ok (.iload_n 1, 1) := by decide +kernel
theorem dX9_joined_100 : decode cX9_joined 100 = .ok (.iload_n 2, 1) := by decide +kernel
theorem dX9_joined_101 : decode cX9_joined 101 = .ok (.iand, 1) := by decide +kernel
theorem dX9_joined_102 : decode cX9_joined 102 = .ok (.i2l, 1) := by decide +kernel
theorem dX9_joined_103 : decode cX9_joined 103 = .ok (.lreturn, 1) := by decide +kernel
theorem dX9_joined_104 : decode cX9_joined 104 = .ok (.iload_n 1, 1) := by decide +kernel
theorem dX9_joined_105 : decode cX9_joined 105 = .ok (.iload_n 2, 1) := by decide +kernel
theorem dX9_joined_106 : decode cX9_joined 106 = .ok (.ior, 1) := by decide +kernel
theorem dX9_joined_107 : decode cX9_joined 107 = .ok (.i2l, 1) := by decide +kernel
theorem dX9_joined_108 : decode cX9_joined 108 = .ok (.lreturn, 1) := by decide +kernel
theorem okX9_joined : ab_okM MX9_joined 3 := ⟨by decide, ⟨by decide, by decide⟩, ab_in 1103 (by decide +kernel) (by decide +kernel), ab_in 93 (by decide +kernel) (by decide +kernel), by decide +kernel, by decide⟩
set_option maxHeartbeats 4000000 in
set_option maxRecDepth 100000 in
theorem sX9_joined (v0 : Int32) (v1 : Int32) (v2 : Int32)  (x : ab_X) (K : Int64 → Prop) (d bc bs : Nat) (hdp : 0 ≤ d) (h : wX9_joined v0 v1 v2 x K) : EW MX9_joined 0 [(0, .int v0), (1, .int v1), (2, .int v2)] [] (aS x) d bc bs (liL x K) := by
  unfold wX9_joined at h
  refine EW_iload_n (pc2 := 1) rfl dX9_joined_0 0 rfl ?_
  by_cases qo : Int32.toInt v0 < 2 ∨ 9 < Int32.toInt v0
  · replace h := h.1 qo
    refine EW_tabOut (tgt := 104) dX9_joined_1 qo (by decide) ?_
    refine EW_iload_n (pc2 := 105) rfl dX9_joined_104 1 rfl ?_
    refine EW_iload_n (pc2 := 106) rfl dX9_joined_105 2 rfl ?_
    refine EW_ior (pc2 := 107) rfl dX9_joined_106 ?_
    refine EW_i2l (pc2 := 108) (v := (Int32.toInt64 (v1 ||| v2))) rfl dX9_joined_107 rfl ?_
    exact EW_lret rfl dX9_joined_108 ⟨_, rfl, rfl, h⟩
  · obtain ⟨kk, hkk, qk⟩ := sw_in 2 7 (by decide) qo
    match kk, hkk, qk with
    | 0, _, qk =>
      replace h := h.2.1 qk
      refine EW_tabIn (off := 47) (tgt := 48) dX9_joined_1 (by rw [qk]; decide) (by rw [qk]; decide) (by rw [qk]; decide) (by decide) ?_
      refine EW_iload_n (pc2 := 49) rfl dX9_joined_48 1 rfl ?_
      refine EW_i2l (pc2 := 50) (v := (Int32.toInt64 v1)) rfl dX9_joined_49 rfl ?_
      refine EW_iload_n (pc2 := 51) rfl dX9_joined_50 2 rfl ?_
      refine EW_i2l (pc2 := 52) (v := (Int32.toInt64 v2)) rfl dX9_joined_51 rfl ?_
      refine EW_ladd (pc2 := 53) rfl dX9_joined_52 ?_
      exact EW_lret rfl dX9_joined_53 ⟨_, rfl, rfl, h⟩
    | 1, _, qk =>
      replace h := h.2.2.1 qk
      refine EW_tabIn (off := 53) (tgt := 54) dX9_joined_1 (by rw [qk]; decide) (by rw [qk]; decide) (by rw [qk]; decide) (by decide) ?_
      refine EW_iload_n (pc2 := 55) rfl dX9_joined_54 1 rfl ?_
      refine EW_i2l (pc2 := 56) (v := (Int32.toInt64 v1)) rfl dX9_joined_55 rfl ?_
      refine EW_iload_n (pc2 := 57) rfl dX9_joined_56 2 rfl ?_
      refine EW_i2l (pc2 := 58) (v := (Int32.toInt64 v2)) rfl dX9_joined_57 rfl ?_
      refine EW_lsub (pc2 := 59) rfl dX9_joined_58 ?_
      exact EW_lret rfl dX9_joined_59 ⟨_, rfl, rfl, h⟩
    | 2, _, qk =>
      replace h := h.2.2.2.1 qk
      refine EW_tabIn (off := 59) (tgt := 60) dX9_joined_1 (by rw [qk]; decide) (by rw [qk]; decide) (by rw [qk]; decide) (by decide) ?_
      refine EW_iload_n (pc2 := 61) rfl dX9_joined_60 1 rfl ?_
      refine EW_i2l (pc2 := 62) (v := (Int32.toInt64 v1)) rfl dX9_joined_61 rfl ?_
      refine EW_iload_n (pc2 := 63) rfl dX9_joined_62 2 rfl ?_
      refine EW_i2l (pc2 := 64) (v := (Int32.toInt64 v2)) rfl dX9_joined_63 rfl ?_
      refine EW_lmul (pc2 := 65) rfl dX9_joined_64 ?_
      exact EW_lret rfl dX9_joined_65 ⟨_, rfl, rfl, h⟩
    | 3, _, qk =>
      replace h := h.2.2.2.2.1 qk
      refine EW_tabIn (off := 65) (tgt := 66) dX9_joined_1 (by rw [qk]; decide) (by rw [qk]; decide) (by rw [qk]; decide) (by decide) ?_
      refine EW_iload_n (pc2 := 67) rfl dX9_joined_66 1 rfl ?_
      refine EW_iload_n (pc2 := 68) rfl dX9_joined_67 2 rfl ?_
      refine EW_icmp_ne (tgt := 75) (pc2 := 71) rfl dX9_joined_68 (by decide) (fun q => ?_) (fun q => ?_)
      · replace h := h.1 q
        refine EW_lconst (pc2 := 76) (v := 0) rfl dX9_joined_75 (by decide) ?_
        exact EW_lret rfl dX9_joined_76 ⟨_, rfl, rfl, h⟩
      · replace h := h.2 q
        refine EW_lconst (pc2 := 72) (v := 1) rfl dX9_joined_71 (by decide) ?_
        refine EW_goto (tgt := 76) dX9_joined_72 (by decide) ?_
        exact EW_lret rfl dX9_joined_76 ⟨_, rfl, rfl, h⟩
    | 4, _, qk =>
      replace h := h.2.2.2.2.2.1 qk
      refine EW_tabIn (off := 76) (tgt := 77) dX9_joined_1 (by rw [qk]; decide) (by rw [qk]; decide) (by rw [qk]; decide) (by decide) ?_
      refine EW_iload_n (pc2 := 78) rfl dX9_joined_77 1 rfl ?_
      refine EW_iload_n (pc2 := 79) rfl dX9_joined_78 2 rfl ?_
      refine EW_icmp_ge (tgt := 86) (pc2 := 82) rfl dX9_joined_79 (by decide) (fun q => ?_) (fun q => ?_)
      · replace h := h.1 q
        refine EW_lconst (pc2 := 87) (v := 0) rfl dX9_joined_86 (by decide) ?_
        exact EW_lret rfl dX9_joined_87 ⟨_, rfl, rfl, h⟩
      · replace h := h.2 q
        refine EW_lconst (pc2 := 83) (v := 1) rfl dX9_joined_82 (by decide) ?_
        refine EW_goto (tgt := 87) dX9_joined_83 (by decide) ?_
        exact EW_lret rfl dX9_joined_87 ⟨_, rfl, rfl, h⟩
    | 5, _, qk =>
      replace h := h.2.2.2.2.2.2.1 qk
      refine EW_tabIn (off := 87) (tgt := 88) dX9_joined_1 (by rw [qk]; decide) (by rw [qk]; decide) (by rw [qk]; decide) (by decide) ?_
      refine EW_iload_n (pc2 := 89) rfl dX9_joined_88 1 rfl ?_
      refine EW_iload_n (pc2 := 90) rfl dX9_joined_89 2 rfl ?_
      refine EW_icmp_le (tgt := 97) (pc2 := 93) rfl dX9_joined_90 (by decide) (fun q => ?_) (fun q => ?_)
      · replace h := h.1 q
        refine EW_lconst (pc2 := 98) (v := 0) rfl dX9_joined_97 (by decide) ?_
        exact EW_lret rfl dX9_joined_98 ⟨_, rfl, rfl, h⟩
      · replace h := h.2 q
        refine EW_lconst (pc2 := 94) (v := 1) rfl dX9_joined_93 (by decide) ?_
        refine EW_goto (tgt := 98) dX9_joined_94 (by decide) ?_
        exact EW_lret rfl dX9_joined_98 ⟨_, rfl, rfl, h⟩
    | 6, _, qk =>
      replace h := h.2.2.2.2.2.2.2.1 qk
      refine EW_tabIn (off := 103) (tgt := 104) dX9_joined_1 (by rw [qk]; decide) (by rw [qk]; decide) (by rw [qk]; decide) (by decide) ?_
      refine EW_iload_n (pc2 := 105) rfl dX9_joined_104 1 rfl ?_
      refine EW_iload_n (pc2 := 106) rfl dX9_joined_105 2 rfl ?_
      refine EW_ior (pc2 := 107) rfl dX9_joined_106 ?_
      refine EW_i2l (pc2 := 108) (v := (Int32.toInt64 (v1 ||| v2))) rfl dX9_joined_107 rfl ?_
      exact EW_lret rfl dX9_joined_108 ⟨_, rfl, rfl, h⟩
    | 7, _, qk =>
      replace h := h.2.2.2.2.2.2.2.2 qk
      refine EW_tabIn (off := 98) (tgt := 99) dX9_joined_1 (by rw [qk]; decide) (by rw [qk]; decide) (by rw [qk]; decide) (by decide) ?_
      refine EW_iload_n (pc2 := 100) rfl dX9_joined_99 1 rfl ?_
      refine EW_iload_n (pc2 := 101) rfl dX9_joined_100 2 rfl ?_
      refine EW_iand (pc2 := 102) rfl dX9_joined_101 ?_
      refine EW_i2l (pc2 := 103) (v := (Int32.toInt64 (v1 &&& v2))) rfl dX9_joined_102 rfl ?_
      exact EW_lret rfl dX9_joined_103 ⟨_, rfl, rfl, h⟩
    | n9 + 8, hkk, _ => exact absurd hkk (by omega)
abbrev MX9_pop : ab_M := (yX9_pop, cX9_pop, 1, (some .int))
theorem dX9_pop_0 : decode cX9_pop 0 = .ok (.aload_n 0, 1) := by decide +kernel
theorem dX9_pop_1 : decode cX9_pop 1 = .ok (.getfield 34, 3) := by decide +kernel
theorem dX9_pop_4 : decode cX9_pop 4 = .ok (.iconst 1, 1) := by decide +kernel
theorem dX9_pop_5 : decode cX9_pop 5 = .ok (.if_icmp .ge 5, 3) := by decide +kernel
theorem dX9_pop_8 : decode cX9_pop 8 = .ok (.iconst 0, 1) := by decide +kernel
theorem dX9_pop_9 : decode cX9_pop 9 = .ok (.ireturn, 1) := by decide +kernel
theorem dX9_pop_10 : decode cX9_pop 10 = .ok (.aload_n 0, 1) := by decide +kernel
theorem dX9_pop_11 : decode cX9_pop 11 = .ok (.dup, 1) := by decide +kernel
theorem dX9_pop_12 : decode cX9_pop 12 = .ok (.getfield 34, 3) := by decide +kernel
theorem dX9_pop_15 : decode cX9_pop 15 = .ok (.iconst 1, 1) := by decide +kernel
theorem dX9_pop_16 : decode cX9_pop 16 = .ok (.isub, 1) := by decide +kernel
theorem dX9_pop_17 : decode cX9_pop 17 = .ok (.putfield 34, 3) := by decide +kernel
theorem dX9_pop_20 : decode cX9_pop 20 = .ok (.aload_n 0, 1) := by decide +kernel
theorem dX9_pop_21 : decode cX9_pop 21 = .ok (.getfield 15, 3) := by decide +kernel
theorem dX9_pop_24 : decode cX9_pop 24 = .ok (.aload_n 0, 1) := by decide +kernel
theorem dX9_pop_25 : decode cX9_pop 25 = .ok (.getfield 34, 3) := by decide +kernel
theorem dX9_pop_28 : decode cX9_pop 28 = .ok (.iaload, 1) := by decide +kernel
theorem dX9_pop_29 : decode cX9_pop 29 = .ok (.ireturn, 1) := by decide +kernel
theorem okX9_pop : ab_okM MX9_pop 0 := ⟨by decide, ⟨by decide, by decide⟩, ab_in 1087 (by decide +kernel) (by decide +kernel), ab_in 93 (by decide +kernel) (by decide +kernel), by decide +kernel, by decide⟩
set_option maxHeartbeats 4000000 in
set_option maxRecDepth 100000 in
theorem sX9_pop (v0 : Nat) (hv0 : isT v0) (x : ab_X) (K : Int32 → ab_X → Prop) (d bc bs : Nat) (hdp : 0 ≤ d) (h : wX9_pop v0 x K) : EW MX9_pop 0 [(0, .ref v0)] [] (aS x) d bc bs (liI K) := by
  unfold wX9_pop at h
  refine EW_aload_n (pc2 := 1) rfl dX9_pop_0 0 rfl ?_
  refine AW_geti ⟨gfRX9_34, rfl⟩ (pc2 := 4) rfl dX9_pop_1 (isT.o hv0) ?_
  refine EW_iconst (pc2 := 5) (v := 1) rfl dX9_pop_4 (by decide) ?_
  refine EW_icmp_ge (tgt := 10) (pc2 := 8) rfl dX9_pop_5 (by decide) (fun q => ?_) (fun q => ?_)
  · replace h := h.1 q
    refine EW_aload_n (pc2 := 11) rfl dX9_pop_10 0 rfl ?_
    refine EW_dup (pc2 := 12) rfl dX9_pop_11 rfl ?_
    refine AW_geti ⟨gfRX9_34, rfl⟩ (pc2 := 15) rfl dX9_pop_12 (isT.o hv0) ?_
    refine EW_iconst (pc2 := 16) (v := 1) rfl dX9_pop_15 (by decide) ?_
    refine EW_isub (pc2 := 17) rfl dX9_pop_16 ?_
    refine AW_puti ⟨gfRX9_34, rfl, rfl⟩ (pc2 := 20) rfl dX9_pop_17 (isT.o hv0) ?_
    refine EW_aload_n (pc2 := 21) rfl dX9_pop_20 0 rfl ?_
    refine AW_getr (r := (v0 + 2)) ⟨gfRX9_15, rfl⟩ (pc2 := 24) rfl dX9_pop_21 (isT.o hv0) (isT.r2 hv0) ?_
    refine EW_aload_n (pc2 := 25) rfl dX9_pop_24 0 rfl ?_
    refine AW_geti ⟨gfRX9_34, rfl⟩ (pc2 := 28) rfl dX9_pop_25 (isT.o hv0) ?_
    obtain ⟨b1, h⟩ := h
    refine AW_iald (pc2 := 29) rfl dX9_pop_28 (isT.a2 hv0) b1 ?_
    exact AW_iret rfl dX9_pop_29 ⟨_, _, rfl, rfl, h⟩
  · replace h := h.2 q
    refine EW_iconst (pc2 := 9) (v := 0) rfl dX9_pop_8 (by decide) ?_
    exact AW_iret rfl dX9_pop_9 ⟨_, _, rfl, rfl, h⟩
abbrev MX9_push : ab_M := (yX9_push, cX9_push, 2, none)
theorem dX9_push_0 : decode cX9_push 0 = .ok (.aload_n 0, 1) := by decide +kernel
theorem dX9_push_1 : decode cX9_push 1 = .ok (.getfield 34, 3) := by decide +kernel
theorem dX9_push_4 : decode cX9_push 4 = .ok (.bipush 40, 2) := by decide +kernel
theorem dX9_push_6 : decode cX9_push 6 = .ok (.if_icmp .ge 23, 3) := by decide +kernel
theorem dX9_push_9 : decode cX9_push 9 = .ok (.aload_n 0, 1) := by decide +kernel
theorem dX9_push_10 : decode cX9_push 10 = .ok (.getfield 15, 3) := by decide +kernel
theorem dX9_push_13 : decode cX9_push 13 = .ok (.aload_n 0, 1) := by decide +kernel
theorem dX9_push_14 : decode cX9_push 14 = .ok (.getfield 34, 3) := by decide +kernel
theorem dX9_push_17 : decode cX9_push 17 = .ok (.iload_n 1, 1) := by decide +kernel
theorem dX9_push_18 : decode cX9_push 18 = .ok (.iastore, 1) := by decide +kernel
theorem dX9_push_19 : decode cX9_push 19 = .ok (.aload_n 0, 1) := by decide +kernel
theorem dX9_push_20 : decode cX9_push 20 = .ok (.dup, 1) := by decide +kernel
theorem dX9_push_21 : decode cX9_push 21 = .ok (.getfield 34, 3) := by decide +kernel
theorem dX9_push_24 : decode cX9_push 24 = .ok (.iconst 1, 1) := by decide +kernel
theorem dX9_push_25 : decode cX9_push 25 = .ok (.iadd, 1) := by decide +kernel
theorem dX9_push_26 : decode cX9_push 26 = .ok (.putfield 34, 3) := by decide +kernel
theorem dX9_push_29 : decode cX9_push 29 = .ok (.return_, 1) := by decide +kernel
theorem okX9_push : ab_okM MX9_push 1 := ⟨by decide, ⟨by decide, by decide⟩, ab_in 1082 (by decide +kernel) (by decide +kernel), ab_in 93 (by decide +kernel) (by decide +kernel), by decide +kernel, by decide⟩
set_option maxHeartbeats 4000000 in
set_option maxRecDepth 100000 in
theorem sX9_push (v0 : Nat) (v1 : Int32) (hv0 : isT v0) (x : ab_X) (K : ab_X → Prop) (d bc bs : Nat) (hdp : 0 ≤ d) (h : wX9_push v0 v1 x K) : EW MX9_push 0 [(0, .ref v0), (1, .int v1)] [] (aS x) d bc bs (liV K) := by
  unfold wX9_push at h
  refine EW_aload_n (pc2 := 1) rfl dX9_push_0 0 rfl ?_
  refine AW_geti ⟨gfRX9_34, rfl⟩ (pc2 := 4) rfl dX9_push_1 (isT.o hv0) ?_
  refine EW_bipush (pc2 := 6) (v := 40) rfl dX9_push_4 (by decide) ?_
  refine EW_icmp_ge (tgt := 29) (pc2 := 9) rfl dX9_push_6 (by decide) (fun q => ?_) (fun q => ?_)
  · replace h := h.1 q
    exact EW_vret rfl dX9_push_29 ⟨_, rfl, rfl, h⟩
  · replace h := h.2 q
    refine EW_aload_n (pc2 := 10) rfl dX9_push_9 0 rfl ?_
    refine AW_getr (r := (v0 + 2)) ⟨gfRX9_15, rfl⟩ (pc2 := 13) rfl dX9_push_10 (isT.o hv0) (isT.r2 hv0) ?_
    refine EW_aload_n (pc2 := 14) rfl dX9_push_13 0 rfl ?_
    refine AW_geti ⟨gfRX9_34, rfl⟩ (pc2 := 17) rfl dX9_push_14 (isT.o hv0) ?_
    refine EW_iload_n (pc2 := 18) rfl dX9_push_17 1 rfl ?_
    obtain ⟨b1, h⟩ := h
    refine AW_iast (pc2 := 19) rfl dX9_push_18 (isT.a2 hv0) b1 ?_
    refine EW_aload_n (pc2 := 20) rfl dX9_push_19 0 rfl ?_
    refine EW_dup (pc2 := 21) rfl dX9_push_20 rfl ?_
    refine AW_geti ⟨gfRX9_34, rfl⟩ (pc2 := 24) rfl dX9_push_21 (isT.o hv0) ?_
    refine EW_iconst (pc2 := 25) (v := 1) rfl dX9_push_24 (by decide) ?_
    refine EW_iadd (pc2 := 26) rfl dX9_push_25 ?_
    refine AW_puti ⟨gfRX9_34, rfl, rfl⟩ (pc2 := 29) rfl dX9_push_26 (isT.o hv0) ?_
    exact EW_vret rfl dX9_push_29 ⟨_, rfl, rfl, h⟩
theorem mlRX9_57 : Cond.methodLink RX9 57 yX9_push ∈ ab_G ∧ Cond.instanceMethod yX9_push ∈ ab_G ∧ Cond.selects RX9 yX9_push yX9_push ∈ ab_G := ⟨ab_in 1079 (by decide +kernel) (by decide +kernel), ab_in 1080 (by decide +kernel) (by decide +kernel), ab_in 1081 (by decide +kernel) (by decide +kernel)⟩
theorem mlRX9_69 : Cond.methodLink RX9 69 yX9_beginActions ∈ ab_G ∧ Cond.instanceMethod yX9_beginActions ∈ ab_G ∧ Cond.selects RX9 yX9_beginActions yX9_beginActions ∈ ab_G := ⟨ab_in 1088 (by decide +kernel) (by decide +kernel), ab_in 1089 (by decide +kernel) (by decide +kernel), ab_in 1090 (by decide +kernel) (by decide +kernel)⟩
theorem gfRX9_24 : ab_L RX9 24 9 1 := ⟨by decide, by decide, ab_in 368 (by decide +kernel) (by decide +kernel)⟩
theorem gfRX9_9 : ab_L RX9 9 9 0 := ⟨by decide, by decide, ab_in 367 (by decide +kernel) (by decide +kernel)⟩
theorem cnRX9_56 : Cond.constant RX9 56 65535 ∈ ab_G := ab_in 1078 (by decide +kernel) (by decide +kernel)
theorem mlRX9_65 : Cond.methodLink RX9 65 yX9_pop ∈ ab_G ∧ Cond.instanceMethod yX9_pop ∈ ab_G ∧ Cond.selects RX9 yX9_pop yX9_pop ∈ ab_G := ⟨ab_in 1084 (by decide +kernel) (by decide +kernel), ab_in 1085 (by decide +kernel) (by decide +kernel), ab_in 1086 (by decide +kernel) (by decide +kernel)⟩
theorem mlRX9_80 : Cond.methodLink RX9 80 yX9_joined ∈ ab_G ∧ Cond.static yX9_joined ∈ ab_G := ⟨ab_in 1101 (by decide +kernel) (by decide +kernel), ab_in 1102 (by decide +kernel) (by decide +kernel)⟩
theorem mlRX9_84 : Cond.methodLink RX9 84 yX9_bounded ∈ ab_G ∧ Cond.static yX9_bounded ∈ ab_G := ⟨ab_in 1104 (by decide +kernel) (by decide +kernel), ab_in 1105 (by decide +kernel) (by decide +kernel)⟩
theorem mlRX9_73 : Cond.methodLink RX9 73 yX9_ask ∈ ab_G ∧ Cond.instanceMethod yX9_ask ∈ ab_G ∧ Cond.selects RX9 yX9_ask yX9_ask ∈ ab_G := ⟨ab_in 1092 (by decide +kernel) (by decide +kernel), ab_in 1093 (by decide +kernel) (by decide +kernel), ab_in 1094 (by decide +kernel) (by decide +kernel)⟩
theorem mlRX9_77 : Cond.methodLink RX9 77 yX9_find ∈ ab_G ∧ Cond.instanceMethod yX9_find ∈ ab_G ∧ Cond.selects RX9 yX9_find yX9_find ∈ ab_G := ⟨ab_in 1097 (by decide +kernel) (by decide +kernel), ab_in 1098 (by decide +kernel) (by decide +kernel), ab_in 1099 (by decide +kernel) (by decide +kernel)⟩
theorem mlRX9_50 : Cond.methodLink RX9 50 yJ7_fill_53178 ∈ ab_G ∧ Cond.static yJ7_fill_53178 ∈ ab_G := ⟨ab_in 1077 (by decide +kernel) (by decide +kernel), ab_in 128 (by decide +kernel) (by decide +kernel)⟩
abbrev MX9_run : ab_M := (yX9_run, cX9_run, 5, none)
theorem dX9_run_0 : decode cX9_run 0 = .ok (.aload_n 0, 1) := by decide +kernel
theorem dX9_run_1 : decode cX9_run 1 = .ok (.iconst 0, 1) := by decide +kernel
theorem dX9_run_2 : decode cX9_run 2 = .ok (.putfield 34, 3) := by decide +kernel
theorem dX9_run_5 : decode cX9_run 5 = .ok (.aload_n 0, 1) := by decide +kernel
theorem dX9_run_6 : decode cX9_run 6 = .ok (.iconst 0, 1) := by decide +kernel
theorem dX9_run_7 : decode cX9_run 7 = .ok (.putfield 37, 3) := by decide +kernel
theorem dX9_run_10 : decode cX9_run 10 = .ok (.aload_n 0, 1) := by decide +kernel
theorem dX9_run_11 : decode cX9_run 11 = .ok (.iconst 0, 1) := by decide +kernel
theorem dX9_run_12 : decode cX9_run 12 = .ok (.putfield 40, 3) := by decide +kernel
theorem dX9_run_15 : decode cX9_run 15 = .ok (.aload_n 0, 1) := by decide +kernel
theorem dX9_run_16 : decode cX9_run 16 = .ok (.iconst 0, 1) := by decide +kernel
theorem dX9_run_17 : decode cX9_run 17 = .ok (.putfield 44, 3) := by decide +kernel
theorem dX9_run_20 : decode cX9_run 20 = .ok (.aload_n 0, 1) := by decide +kernel
theorem dX9_run_21 : decode cX9_run 21 = .ok (.iconst 0, 1) := by decide +kernel
theorem dX9_run_22 : decode cX9_run 22 = .ok (.putfield 47, 3) := by decide +kernel
theorem dX9_run_25 : decode cX9_run 25 = .ok (.aload_n 0, 1) := by decide +kernel
theorem dX9_run_26 : decode cX9_run 26 = .ok (.getfield 18, 3) := by decide +kernel
theorem dX9_run_29 : decode cX9_run 29 = .ok (.iconst 0, 1) := by decide +kernel
theorem dX9_run_30 : decode cX9_run 30 = .ok (.invokestatic 50, 3) := by decide +kernel
theorem dX9_run_33 : decode cX9_run 33 = .ok (.iconst 0, 1) := by decide +kernel
theorem dX9_run_34 : decode cX9_run 34 = .ok (.istore_n 2, 1) := by decide +kernel
theorem dX9_run_35 : decode cX9_run 35 = .ok (.iload_n 2, 1) := by decide +kernel
theorem dX9_run_36 : decode cX9_run 36 = .ok (.aload_n 0, 1) := by decide +kernel
theorem dX9_run_37 : decode cX9_run 37 = .ok (.getfield 24, 3) := by decide +kernel
theorem dX9_run_40 : decode cX9_run 40 = .ok (.if_icmp .ge 215, 3) := by decide +kernel
theorem dX9_run_43 : decode cX9_run 43 = .ok (.aload_n 0, 1) := by decide +kernel
theorem dX9_run_44 : decode cX9_run 44 = .ok (.getfield 9, 3) := by decide +kernel
theorem dX9_run_47 : decode cX9_run 47 = .ok (.iload_n 2, 1) := by decide +kernel
theorem dX9_run_48 : decode cX9_run 48 = .ok (.iaload, 1) := by decide +kernel
theorem dX9_run_49 : decode cX9_run 49 = .ok (.ldc 56, 2) := by decide +kernel
theorem dX9_run_51 : decode cX9_run 51 = .ok (.iand, 1) := by decide +kernel
theorem dX9_run_52 : decode cX9_run 52 = .ok (.istore_n 3, 1) := by decide +kernel
theorem dX9_run_53 : decode cX9_run 53 = .ok (.aload_n 0, 1) := by decide +kernel
theorem dX9_run_54 : decode cX9_run 54 = .ok (.getfield 9, 3) := by decide +kernel
theorem dX9_run_57 : decode cX9_run 57 = .ok (.iload_n 2, 1) := by decide +kernel
theorem dX9_run_58 : decode cX9_run 58 = .ok (.iaload, 1) := by decide +kernel
theorem dX9_run_59 : decode cX9_run 59 = .ok (.bipush 16, 2) := by decide +kernel
theorem dX9_run_61 : decode cX9_run 61 = .ok (.ishr, 1) := by decide +kernel
theorem dX9_run_62 : decode cX9_run 62 = .ok (.tableswitch 156 0 13 #[70, 78, 156, 156, 156, 156, 156, 156, 101, 156, 156, 114, 133, 148], 70) := by decide +kernel
theorem dX9_run_132 : decode cX9_run 132 = .ok (.aload_n 0, 1) := by decide +kernel
theorem dX9_run_133 : decode cX9_run 133 = .ok (.iload_n 3, 1) := by decide +kernel
theorem dX9_run_134 : decode cX9_run 134 = .ok (.invokevirtual 57, 3) := by decide +kernel
theorem dX9_run_137 : decode cX9_run 137 = .ok (.goto 112, 3) := by decide +kernel
theorem dX9_run_140 : decode cX9_run 140 = .ok (.aload_n 0, 1) := by decide +kernel
theorem dX9_run_141 : decode cX9_run 141 = .ok (.iload_n 3, 1) := by decide +kernel
theorem dX9_run_142 : decode cX9_run 142 = .ok (.aload_n 1, 1) := by decide +kernel
theorem dX9_run_143 : decode cX9_run 143 = .ok (.arraylength, 1) := by decide +kernel
theorem dX9_run_144 : decode cX9_run 144 = .ok (.invokestatic 61, 3) := by decide +kernel
theorem dX9_run_147 : decode cX9_run 147 = .ok (.ifCond .eq 9, 3) := by decide +kernel
theorem dX9_run_150 : decode cX9_run 150 = .ok (.aload_n 1, 1) := by decide +kernel
theorem dX9_run_151 : decode cX9_run 151 = .ok (.iload_n 3, 1) := by decide +kernel
theorem dX9_run_152 : decode cX9_run 152 = .ok (.iaload, 1) := by decide +kernel
theorem dX9_run_153 : decode cX9_run 153 = .ok (.goto 4, 3) := by decide +kernel
theorem dX9_run_156 : decode cX9_run 156 = .ok (.iconst 0, 1) := by decide +kernel
theorem dX9_run_157 : decode cX9_run 157 = .ok (.invokevirtual 57, 3) := by decide +kernel
theorem dX9_run_160 : decode cX9_run 160 = .ok (.goto 89, 3) := by decide +kernel
theorem dX9_run_163 : decode cX9_run 163 = .ok (.aload_n 0, 1) := by decide +kernel
theorem dX9_run_164 : decode cX9_run 164 = .ok (.iconst 1, 1) := by decide +kernel
theorem dX9_run_165 : decode cX9_run 165 = .ok (.aload_n 0, 1) := by decide +kernel
theorem dX9_run_166 : decode cX9_run 166 = .ok (.invokevirtual 65, 3) := by decide +kernel
theorem dX9_run_169 : decode cX9_run 169 = .ok (.isub, 1) := by decide +kernel
theorem dX9_run_170 : decode cX9_run 170 = .ok (.invokevirtual 57, 3) := by decide +kernel
theorem dX9_run_173 : decode cX9_run 173 = .ok (.goto 76, 3) := by decide +kernel
theorem dX9_run_176 : decode cX9_run 176 = .ok (.aload_n 0, 1) := by decide +kernel
theorem dX9_run_177 : decode cX9_run 177 = .ok (.aload_n 0, 1) := by decide +kernel
theorem dX9_run_178 : decode cX9_run 178 = .ok (.invokevirtual 65, 3) := by decide +kernel
theorem dX9_run_181 : decode cX9_run 181 = .ok (.ifCond .eq 7, 3) := by decide +kernel
theorem dX9_run_184 : decode cX9_run 184 = .ok (.iconst 1, 1) := by decide +kernel
theorem dX9_run_185 : decode cX9_run 185 = .ok (.goto 4, 3) := by decide +kernel
theorem dX9_run_188 : decode cX9_run 188 = .ok (.iconst 0, 1) := by decide +kernel
theorem dX9_run_189 : decode cX9_run 189 = .ok (.invokevirtual 69, 3) := by decide +kernel
theorem dX9_run_192 : decode cX9_run 192 = .ok (.goto 57, 3) := by decide +kernel
theorem dX9_run_195 : decode cX9_run 195 = .ok (.aload_n 0, 1) := by decide +kernel
theorem dX9_run_196 : decode cX9_run 196 = .ok (.iload_n 3, 1) := by decide +kernel
theorem dX9_run_197 : decode cX9_run 197 = .ok (.bipush 10, 2) := by decide +kernel
theorem dX9_run_199 : decode cX9_run 199 = .ok (.idiv, 1) := by decide +kernel
theorem dX9_run_200 : decode cX9_run 200 = .ok (.iload_n 3, 1) := by decide +kernel
theorem dX9_run_201 : decode cX9_run 201 = .ok (.bipush 10, 2) := by decide +kernel
theorem dX9_run_203 : decode cX9_run 203 = .ok (.irem, 1) := by decide +kernel
theorem dX9_run_204 : decode cX9_run 204 = .ok (.invokevirtual 73, 3) := by decide +kernel
theorem dX9_run_207 : decode cX9_run 207 = .ok (.goto 42, 3) := by decide +kernel
theorem dX9_run_210 : decode cX9_run 210 = .ok (.aload_n 0, 1) := by decide +kernel
theorem dX9_run_211 : decode cX9_run 211 = .ok (.iload_n 3, 1) := by decide +kernel
theorem dX9_run_212 : decode cX9_run 212 = .ok (.invokevirtual 77, 3) := by decide +kernel
theorem dX9_run_215 : decode cX9_run 215 = .ok (.goto 34, 3) := by decide +kernel
theorem dX9_run_218 : decode cX9_run 218 = .ok (.aload_n 0, 1) := by decide +kernel
theorem dX9_run_219 : decode cX9_run 219 = .ok (.invokevirtual 65, 3) := by decide +kernel
theorem dX9_run_222 : decode cX9_run 222 = .ok (.istore 4, 2) := by decide +kernel
theorem dX9_run_224 : decode cX9_run 224 = .ok (.aload_n 0, 1) := by decide +kernel
theorem dX9_run_225 : decode cX9_run 225 = .ok (.aload_n 0, 1) := by decide +kernel
theorem dX9_run_226 : decode cX9_run 226 = .ok (.getfield 9, 3) := by decide +kernel
theorem dX9_run_229 : decode cX9_run 229 = .ok (.iload_n 2, 1) := by decide +kernel
theorem dX9_run_230 : decode cX9_run 230 = .ok (.iaload, 1) := by decide +kernel
theorem dX9_run_231 : decode cX9_run 231 = .ok (.bipush 16, 2) := by decide +kernel
theorem dX9_run_233 : decode cX9_run 233 = .ok (.ishr, 1) := by decide +kernel
theorem dX9_run_234 : decode cX9_run 234 = .ok (.aload_n 0, 1) := by decide +kernel
theorem dX9_run_235 : decode cX9_run 235 = .ok (.invokevirtual 65, 3) := by decide +kernel
theorem dX9_run_238 : decode cX9_run 238 = .ok (.iload 4, 2) := by decide +kernel
theorem dX9_run_240 : decode cX9_run 240 = .ok (.invokestatic 80, 3) := by decide +kernel
theorem dX9_run_243 : decode cX9_run 243 = .ok (.invokestatic 84, 3) := by decide +kernel
theorem dX9_run_246 : decode cX9_run 246 = .ok (.invokevirtual 57, 3) := by decide +kernel
theorem dX9_run_249 : decode cX9_run 249 = .ok (.iinc 2 1, 3) := by decide +kernel
theorem dX9_run_252 : decode cX9_run 252 = .ok (.goto (-217), 3) := by decide +kernel
theorem dX9_run_255 : decode cX9_run 255 = .ok (.return_, 1) := by decide +kernel
theorem okX9_run : ab_okM MX9_run 1 := ⟨by decide, ⟨by decide, by decide⟩, ab_in 1076 (by decide +kernel) (by decide +kernel), ab_in 93 (by decide +kernel) (by decide +kernel), by decide +kernel, by decide⟩
set_option maxHeartbeats 4000000 in
set_option maxRecDepth 100000 in
theorem sX9_run_157 (v0 : Nat) (v1 : Nat) (v2 : Int32) (s0 : Nat) (s1 : Int32) (hv0 : isT v0) (hv1 : isLA v1) (hs0 : isT s0) (x : ab_X) (K : ab_X → Prop) (L35 : Int32 → ab_X → Prop) (d bc bs : Nat) (hdp : 2 ≤ d) (hL35 : ∀ (v2 : Int32) (x : ab_X), L35 v2 x → EW MX9_run 35 [(0, .ref v0), (1, .ref v1), (2, .int v2)] [] (aS x) d bc bs (liV K)) (h : wX9_run_157 v0 v1 v2 s0 s1 x K L35) : EW MX9_run 157 [(0, .ref v0), (1, .ref v1), (2, .int v2)] [.int s1, .ref s0] (aS x) d bc bs (liV K) := by
  unfold wX9_run_157 at h
  refine AW_invV (M' := MX9_push) [.int s1] (rest := []) mlRX9_57 okX9_push (pc2 := 160) rfl dX9_run_157 rfl rfl (Nat.le_of_ble_eq_true rfl) (Nat.le_of_ble_eq_true rfl) (d' := 0) (by omega) (isT.o hs0) ⟨by decide, rfl⟩ (EW_mono (fun _ _ hr => ?_) (sX9_push s0 s1 hs0 x _ _ 0 0 (Nat.le_refl _) h))
  obtain ⟨x86, rfl, rfl, h⟩ := hr
  refine EW_goto (tgt := 249) dX9_run_160 (by decide) ?_
  refine EW_iinc (v2 + 1) (pc2 := 252) rfl dX9_run_249 2 rfl rfl (by decide) [1, 2, 0] [(0, .ref v0), (1, .ref v1), (2, .int (v2 + 1))] rfl ?_
  refine EW_goto (tgt := 35) dX9_run_252 (by decide) ?_
  exact hL35 (v2 + 1) x86 h
set_option maxHeartbeats 4000000 in
set_option maxRecDepth 100000 in
theorem sX9_run_189 (v0 : Nat) (v1 : Nat) (v2 : Int32) (s0 : Nat) (s1 : Int32) (hv0 : isT v0) (hv1 : isLA v1) (hs0 : isT s0) (x : ab_X) (K : ab_X → Prop) (L35 : Int32 → ab_X → Prop) (d bc bs : Nat) (hdp : 2 ≤ d) (hL35 : ∀ (v2 : Int32) (x : ab_X), L35 v2 x → EW MX9_run 35 [(0, .ref v0), (1, .ref v1), (2, .int v2)] [] (aS x) d bc bs (liV K)) (h : wX9_run_189 v0 v1 v2 s0 s1 x K L35) : EW MX9_run 189 [(0, .ref v0), (1, .ref v1), (2, .int v2)] [.int s1, .ref s0] (aS x) d bc bs (liV K) := by
  unfold wX9_run_189 at h
  refine AW_invV (M' := MX9_beginActions) [.int s1] (rest := []) mlRX9_69 okX9_beginActions (pc2 := 192) rfl dX9_run_189 rfl rfl (Nat.le_of_ble_eq_true rfl) (Nat.le_of_ble_eq_true rfl) (d' := 0) (by omega) (isT.o hs0) ⟨by decide, rfl⟩ (EW_mono (fun _ _ hr => ?_) (sX9_beginActions s0 s1 hs0 x _ _ 0 0 (Nat.le_refl _) h))
  obtain ⟨x87, rfl, rfl, h⟩ := hr
  refine EW_goto (tgt := 249) dX9_run_192 (by decide) ?_
  refine EW_iinc (v2 + 1) (pc2 := 252) rfl dX9_run_249 2 rfl rfl (by decide) [1, 2, 0] [(0, .ref v0), (1, .ref v1), (2, .int (v2 + 1))] rfl ?_
  refine EW_goto (tgt := 35) dX9_run_252 (by decide) ?_
  exact hL35 (v2 + 1) x87 h
set_option maxHeartbeats 4000000 in
set_option maxRecDepth 100000 in
theorem sX9_run_35 (v0 : Nat) (v1 : Nat) (v2 : Int32) (hv0 : isT v0) (hv1 : isLA v1) (x : ab_X) (K : ab_X → Prop)  (d bc bs : Nat) (hdp : 2 ≤ d)  (h : Lp2 (lX9_run_35 v0 v1 K ) v2 x) : EW MX9_run 35 [(0, .ref v0), (1, .ref v1), (2, .int v2)] [] (aS x) d bc bs (liV K) := by
  refine Lp2.use (P := fun v2 x => EW MX9_run 35 [(0, .ref v0), (1, .ref v1), (2, .int v2)] [] (aS x) d bc bs (liV K)) (fun L35 v2 x hL35 h => ?_) v2 x h
  unfold lX9_run_35 at h
  refine EW_iload_n (pc2 := 36) rfl dX9_run_35 2 rfl ?_
  refine EW_aload_n (pc2 := 37) rfl dX9_run_36 0 rfl ?_
  refine AW_geti ⟨gfRX9_24, rfl⟩ (pc2 := 40) rfl dX9_run_37 (isT.o hv0) ?_
  refine EW_icmp_ge (tgt := 255) (pc2 := 43) rfl dX9_run_40 (by decide) (fun q => ?_) (fun q => ?_)
  · replace h := h.1 q
    exact EW_vret rfl dX9_run_255 ⟨_, rfl, rfl, h⟩
  · replace h := h.2 q
    refine EW_aload_n (pc2 := 44) rfl dX9_run_43 0 rfl ?_
    refine AW_getr (r := (v0 + 1)) ⟨gfRX9_9, rfl⟩ (pc2 := 47) rfl dX9_run_44 (isT.o hv0) (isT.r0 hv0) ?_
    refine EW_iload_n (pc2 := 48) rfl dX9_run_47 2 rfl ?_
    obtain ⟨b2, h⟩ := h
    refine AW_iald (pc2 := 49) rfl dX9_run_48 (isT.a0 hv0) b2 ?_
    refine EW_ldc cnRX9_56 (pc2 := 51) rfl dX9_run_49 ?_
    refine EW_iand (pc2 := 52) rfl dX9_run_51 ?_
    refine EW_istore_n (pc2 := 53) rfl dX9_run_52 (by decide) [1, 2, 3, 0] [(0, .ref v0), (1, .ref v1), (2, .int v2), (3, .int ((x.1 (v0 + 1) (Int32.toNatClampNeg v2)) &&& 65535))] rfl ?_
    refine EW_aload_n (pc2 := 54) rfl dX9_run_53 0 rfl ?_
    refine AW_getr (r := (v0 + 1)) ⟨gfRX9_9, rfl⟩ (pc2 := 57) rfl dX9_run_54 (isT.o hv0) (isT.r0 hv0) ?_
    refine EW_iload_n (pc2 := 58) rfl dX9_run_57 2 rfl ?_
    obtain ⟨b3, h⟩ := h
    refine AW_iald (pc2 := 59) rfl dX9_run_58 (isT.a0 hv0) b3 ?_
    refine EW_bipush (pc2 := 61) (v := 16) rfl dX9_run_59 (by decide) ?_
    refine EW_ishr (pc2 := 62) rfl dX9_run_61 ?_
    by_cases qo : Int32.toInt ((x.1 (v0 + 1) (Int32.toNatClampNeg v2)) >>> (16 &&& 31)) < 0 ∨ 13 < Int32.toInt ((x.1 (v0 + 1) (Int32.toNatClampNeg v2)) >>> (16 &&& 31))
    · replace h := h.1 qo
      refine EW_tabOut (tgt := 218) dX9_run_62 qo (by decide) ?_
      refine EW_aload_n (pc2 := 219) rfl dX9_run_218 0 rfl ?_
      refine AW_invV (M' := MX9_pop) [] (rest := []) mlRX9_65 okX9_pop (pc2 := 222) rfl dX9_run_219 rfl rfl (Nat.le_of_ble_eq_true rfl) (Nat.le_of_ble_eq_true rfl) (d' := 0) (by omega) (isT.o hv0) ⟨by decide, rfl⟩ (EW_mono (fun _ _ hr => ?_) (sX9_pop v0 hv0 x _ _ 0 0 (Nat.le_refl _) h))
      obtain ⟨r4, x5, rfl, rfl, h⟩ := hr
      refine EW_istore (pc2 := 224) rfl dX9_run_222 (by decide) [1, 2, 3, 4, 0] [(0, .ref v0), (1, .ref v1), (2, .int v2), (3, .int ((x.1 (v0 + 1) (Int32.toNatClampNeg v2)) &&& 65535)), (4, .int r4)] rfl ?_
      refine EW_aload_n (pc2 := 225) rfl dX9_run_224 0 rfl ?_
      refine EW_aload_n (pc2 := 226) rfl dX9_run_225 0 rfl ?_
      refine AW_getr (r := (v0 + 1)) ⟨gfRX9_9, rfl⟩ (pc2 := 229) rfl dX9_run_226 (isT.o hv0) (isT.r0 hv0) ?_
      refine EW_iload_n (pc2 := 230) rfl dX9_run_229 2 rfl ?_
      obtain ⟨b6, h⟩ := h
      refine AW_iald (pc2 := 231) rfl dX9_run_230 (isT.a0 hv0) b6 ?_
      refine EW_bipush (pc2 := 233) (v := 16) rfl dX9_run_231 (by decide) ?_
      refine EW_ishr (pc2 := 234) rfl dX9_run_233 ?_
      refine EW_aload_n (pc2 := 235) rfl dX9_run_234 0 rfl ?_
      refine AW_invV (M' := MX9_pop) [] (rest := [.int ((x5.1 (v0 + 1) (Int32.toNatClampNeg v2)) >>> (16 &&& 31)), .ref v0]) mlRX9_65 okX9_pop (pc2 := 238) rfl dX9_run_235 rfl rfl (Nat.le_of_ble_eq_true rfl) (Nat.le_of_ble_eq_true rfl) (d' := 0) (by omega) (isT.o hv0) ⟨by decide, rfl⟩ (EW_mono (fun _ _ hr => ?_) (sX9_pop v0 hv0 x5 _ _ 0 0 (Nat.le_refl _) h))
      obtain ⟨r7, x8, rfl, rfl, h⟩ := hr
      refine EW_iload (pc2 := 240) rfl dX9_run_238 4 rfl ?_
      refine AW_invS (M' := MX9_joined) [.int ((x5.1 (v0 + 1) (Int32.toNatClampNeg v2)) >>> (16 &&& 31)), .int r7, .int r4] (rest := [.ref v0]) mlRX9_80 okX9_joined (pc2 := 243) rfl dX9_run_240 rfl rfl (Nat.le_of_ble_eq_true rfl) (Nat.le_of_ble_eq_true rfl) (d' := 0) (by omega) (EW_mono (fun _ _ hr => ?_) (sX9_joined ((x5.1 (v0 + 1) (Int32.toNatClampNeg v2)) >>> (16 &&& 31)) r7 r4  x8 _ _ 0 0 (Nat.le_refl _) h))
      obtain ⟨r9, rfl, rfl, h⟩ := hr
      refine AW_invS (M' := MX9_bounded) [.long r9] (rest := [.ref v0]) mlRX9_84 okX9_bounded (pc2 := 246) rfl dX9_run_243 rfl rfl (Nat.le_of_ble_eq_true rfl) (Nat.le_of_ble_eq_true rfl) (d' := 1) (by omega) (EW_mono (fun _ _ hr => ?_) (sX9_bounded r9  x8 _ _ 0 0 (Nat.le_refl _) h))
      obtain ⟨r10, rfl, rfl, h⟩ := hr
      refine AW_invV (M' := MX9_push) [.int r10] (rest := []) mlRX9_57 okX9_push (pc2 := 249) rfl dX9_run_246 rfl rfl (Nat.le_of_ble_eq_true rfl) (Nat.le_of_ble_eq_true rfl) (d' := 0) (by omega) (isT.o hv0) ⟨by decide, rfl⟩ (EW_mono (fun _ _ hr => ?_) (sX9_push v0 r10 hv0 x8 _ _ 0 0 (Nat.le_refl _) h))
      obtain ⟨x11, rfl, rfl, h⟩ := hr
      refine EW_iinc (v2 + 1) (pc2 := 252) rfl dX9_run_249 2 rfl rfl (by decide) [1, 2, 0, 3, 4] [(0, .ref v0), (1, .ref v1), (2, .int (v2 + 1)), (3, .int ((x.1 (v0 + 1) (Int32.toNatClampNeg v2)) &&& 65535)), (4, .int r4)] rfl ?_
      refine EW_goto (tgt := 35) dX9_run_252 (by decide) ?_
      refine EW_ls [0, 1, 2] rfl ?_
      exact hL35 (v2 + 1) x11 h
    · obtain ⟨kk, hkk, qk⟩ := sw_in 0 13 (by decide) qo
      match kk, hkk, qk with
      | 0, _, qk =>
        replace h := h.2.1 qk
        refine EW_tabIn (off := 70) (tgt := 132) dX9_run_62 (by rw [qk]; decide) (by rw [qk]; decide) (by rw [qk]; decide) (by decide) ?_
        refine EW_aload_n (pc2 := 133) rfl dX9_run_132 0 rfl ?_
        refine EW_iload_n (pc2 := 134) rfl dX9_run_133 3 rfl ?_
        refine AW_invV (M' := MX9_push) [.int ((x.1 (v0 + 1) (Int32.toNatClampNeg v2)) &&& 65535)] (rest := []) mlRX9_57 okX9_push (pc2 := 137) rfl dX9_run_134 rfl rfl (Nat.le_of_ble_eq_true rfl) (Nat.le_of_ble_eq_true rfl) (d' := 0) (by omega) (isT.o hv0) ⟨by decide, rfl⟩ (EW_mono (fun _ _ hr => ?_) (sX9_push v0 ((x.1 (v0 + 1) (Int32.toNatClampNeg v2)) &&& 65535) hv0 x _ _ 0 0 (Nat.le_refl _) h))
        obtain ⟨x12, rfl, rfl, h⟩ := hr
        refine EW_goto (tgt := 249) dX9_run_137 (by decide) ?_
        refine EW_iinc (v2 + 1) (pc2 := 252) rfl dX9_run_249 2 rfl rfl (by decide) [1, 2, 0, 3] [(0, .ref v0), (1, .ref v1), (2, .int (v2 + 1)), (3, .int ((x.1 (v0 + 1) (Int32.toNatClampNeg v2)) &&& 65535))] rfl ?_
        refine EW_goto (tgt := 35) dX9_run_252 (by decide) ?_
        refine EW_ls [0, 1, 2] rfl ?_
        exact hL35 (v2 + 1) x12 h
      | 1, _, qk =>
        replace h := h.2.2.1 qk
        refine EW_tabIn (off := 78) (tgt := 140) dX9_run_62 (by rw [qk]; decide) (by rw [qk]; decide) (by rw [qk]; decide) (by decide) ?_
        refine EW_aload_n (pc2 := 141) rfl dX9_run_140 0 rfl ?_
        refine EW_iload_n (pc2 := 142) rfl dX9_run_141 3 rfl ?_
        refine EW_aload_n (pc2 := 143) rfl dX9_run_142 1 rfl ?_
        refine AW_alen (t := 0) (by decide) (pc2 := 144) rfl dX9_run_143 (isLA.a hv1) (v := 11) rfl ?_
        refine AW_invSN (M' := MX11_below) [.int ((x.1 (v0 + 1) (Int32.toNatClampNeg v2)) &&& 65535), .int 11] (rest := [.ref v0]) mlRX9_61 okX11_below (pc2 := 147) rfl dX9_run_144 rfl rfl (Nat.le_of_ble_eq_true rfl) (Nat.le_of_ble_eq_true rfl) (d' := 0) (by omega) (EW_mono (fun _ _ hr => ?_) (sX11_below ((x.1 (v0 + 1) (Int32.toNatClampNeg v2)) &&& 65535) 11  x _ _ 0 0 (Nat.le_refl _) h))
        obtain ⟨r13, rfl, rfl, h⟩ := hr
        refine EW_if_eq (tgt := 156) (pc2 := 150) rfl dX9_run_147 (by decide) (fun q => ?_) (fun q => ?_)
        · replace h := h.1 q
          refine EW_iconst (pc2 := 157) (v := 0) rfl dX9_run_156 (by decide) ?_
          refine EW_ls [0, 1, 2] rfl ?_
          exact sX9_run_157 v0 v1 v2 v0 0 hv0 hv1 hv0 x K L35 d bc bs hdp hL35 h
        · replace h := h.2 q
          refine EW_aload_n (pc2 := 151) rfl dX9_run_150 1 rfl ?_
          refine EW_iload_n (pc2 := 152) rfl dX9_run_151 3 rfl ?_
          obtain ⟨b14, h⟩ := h
          refine AW_iald (pc2 := 153) rfl dX9_run_152 (isLA.a hv1) b14 ?_
          refine EW_goto (tgt := 157) dX9_run_153 (by decide) ?_
          refine EW_ls [0, 1, 2] rfl ?_
          exact sX9_run_157 v0 v1 v2 v0 (x.1 v1 (Int32.toNatClampNeg ((x.1 (v0 + 1) (Int32.toNatClampNeg v2)) &&& 65535))) hv0 hv1 hv0 x K L35 d bc bs hdp hL35 h
      | 2, _, qk =>
        replace h := h.2.2.2.1 qk
        refine EW_tabIn (off := 156) (tgt := 218) dX9_run_62 (by rw [qk]; decide) (by rw [qk]; decide) (by rw [qk]; decide) (by decide) ?_
        refine EW_aload_n (pc2 := 219) rfl dX9_run_218 0 rfl ?_
        refine AW_invV (M' := MX9_pop) [] (rest := []) mlRX9_65 okX9_pop (pc2 := 222) rfl dX9_run_219 rfl rfl (Nat.le_of_ble_eq_true rfl) (Nat.le_of_ble_eq_true rfl) (d' := 0) (by omega) (isT.o hv0) ⟨by decide, rfl⟩ (EW_mono (fun _ _ hr => ?_) (sX9_pop v0 hv0 x _ _ 0 0 (Nat.le_refl _) h))
        obtain ⟨r15, x16, rfl, rfl, h⟩ := hr
        refine EW_istore (pc2 := 224) rfl dX9_run_222 (by decide) [1, 2, 3, 4, 0] [(0, .ref v0), (1, .ref v1), (2, .int v2), (3, .int ((x.1 (v0 + 1) (Int32.toNatClampNeg v2)) &&& 65535)), (4, .int r15)] rfl ?_
        refine EW_aload_n (pc2 := 225) rfl dX9_run_224 0 rfl ?_
        refine EW_aload_n (pc2 := 226) rfl dX9_run_225 0 rfl ?_
        refine AW_getr (r := (v0 + 1)) ⟨gfRX9_9, rfl⟩ (pc2 := 229) rfl dX9_run_226 (isT.o hv0) (isT.r0 hv0) ?_
        refine EW_iload_n (pc2 := 230) rfl dX9_run_229 2 rfl ?_
        obtain ⟨b17, h⟩ := h
        refine AW_iald (pc2 := 231) rfl dX9_run_230 (isT.a0 hv0) b17 ?_
        refine EW_bipush (pc2 := 233) (v := 16) rfl dX9_run_231 (by decide) ?_
        refine EW_ishr (pc2 := 234) rfl dX9_run_233 ?_
        refine EW_aload_n (pc2 := 235) rfl dX9_run_234 0 rfl ?_
        refine AW_invV (M' := MX9_pop) [] (rest := [.int ((x16.1 (v0 + 1) (Int32.toNatClampNeg v2)) >>> (16 &&& 31)), .ref v0]) mlRX9_65 okX9_pop (pc2 := 238) rfl dX9_run_235 rfl rfl (Nat.le_of_ble_eq_true rfl) (Nat.le_of_ble_eq_true rfl) (d' := 0) (by omega) (isT.o hv0) ⟨by decide, rfl⟩ (EW_mono (fun _ _ hr => ?_) (sX9_pop v0 hv0 x16 _ _ 0 0 (Nat.le_refl _) h))
        obtain ⟨r18, x19, rfl, rfl, h⟩ := hr
        refine EW_iload (pc2 := 240) rfl dX9_run_238 4 rfl ?_
        refine AW_invS (M' := MX9_joined) [.int ((x16.1 (v0 + 1) (Int32.toNatClampNeg v2)) >>> (16 &&& 31)), .int r18, .int r15] (rest := [.ref v0]) mlRX9_80 okX9_joined (pc2 := 243) rfl dX9_run_240 rfl rfl (Nat.le_of_ble_eq_true rfl) (Nat.le_of_ble_eq_true rfl) (d' := 0) (by omega) (EW_mono (fun _ _ hr => ?_) (sX9_joined ((x16.1 (v0 + 1) (Int32.toNatClampNeg v2)) >>> (16 &&& 31)) r18 r15  x19 _ _ 0 0 (Nat.le_refl _) h))
        obtain ⟨r20, rfl, rfl, h⟩ := hr
        refine AW_invS (M' := MX9_bounded) [.long r20] (rest := [.ref v0]) mlRX9_84 okX9_bounded (pc2 := 246) rfl dX9_run_243 rfl rfl (Nat.le_of_ble_eq_true rfl) (Nat.le_of_ble_eq_true rfl) (d' := 1) (by omega) (EW_mono (fun _ _ hr => ?_) (sX9_bounded r20  x19 _ _ 0 0 (Nat.le_refl _) h))
        obtain ⟨r21, rfl, rfl, h⟩ := hr
        refine AW_invV (M' := MX9_push) [.int r21] (rest := []) mlRX9_57 okX9_push (pc2 := 249) rfl dX9_run_246 rfl rfl (Nat.le_of_ble_eq_true rfl) (Nat.le_of_ble_eq_true rfl) (d' := 0) (by omega) (isT.o hv0) ⟨by decide, rfl⟩ (EW_mono (fun _ _ hr => ?_) (sX9_push v0 r21 hv0 x19 _ _ 0 0 (Nat.le_refl _) h))
        obtain ⟨x22, rfl, rfl, h⟩ := hr
        refine EW_iinc (v2 + 1) (pc2 := 252) rfl dX9_run_249 2 rfl rfl (by decide) [1, 2, 0, 3, 4] [(0, .ref v0), (1, .ref v1), (2, .int (v2 + 1)), (3, .int ((x.1 (v0 + 1) (Int32.toNatClampNeg v2)) &&& 65535)), (4, .int r15)] rfl ?_
        refine EW_goto (tgt := 35) dX9_run_252 (by decide) ?_
        refine EW_ls [0, 1, 2] rfl ?_
        exact hL35 (v2 + 1) x22 h
      | 3, _, qk =>
        replace h := h.2.2.2.2.1 qk
        refine EW_tabIn (off := 156) (tgt := 218) dX9_run_62 (by rw [qk]; decide) (by rw [qk]; decide) (by rw [qk]; decide) (by decide) ?_
        refine EW_aload_n (pc2 := 219) rfl dX9_run_218 0 rfl ?_
        refine AW_invV (M' := MX9_pop) [] (rest := []) mlRX9_65 okX9_pop (pc2 := 222) rfl dX9_run_219 rfl rfl (Nat.le_of_ble_eq_true rfl) (Nat.le_of_ble_eq_true rfl) (d' := 0) (by omega) (isT.o hv0) ⟨by decide, rfl⟩ (EW_mono (fun _ _ hr => ?_) (sX9_pop v0 hv0 x _ _ 0 0 (Nat.le_refl _) h))
        obtain ⟨r23, x24, rfl, rfl, h⟩ := hr
        refine EW_istore (pc2 := 224) rfl dX9_run_222 (by decide) [1, 2, 3, 4, 0] [(0, .ref v0), (1, .ref v1), (2, .int v2), (3, .int ((x.1 (v0 + 1) (Int32.toNatClampNeg v2)) &&& 65535)), (4, .int r23)] rfl ?_
        refine EW_aload_n (pc2 := 225) rfl dX9_run_224 0 rfl ?_
        refine EW_aload_n (pc2 := 226) rfl dX9_run_225 0 rfl ?_
        refine AW_getr (r := (v0 + 1)) ⟨gfRX9_9, rfl⟩ (pc2 := 229) rfl dX9_run_226 (isT.o hv0) (isT.r0 hv0) ?_
        refine EW_iload_n (pc2 := 230) rfl dX9_run_229 2 rfl ?_
        obtain ⟨b25, h⟩ := h
        refine AW_iald (pc2 := 231) rfl dX9_run_230 (isT.a0 hv0) b25 ?_
        refine EW_bipush (pc2 := 233) (v := 16) rfl dX9_run_231 (by decide) ?_
        refine EW_ishr (pc2 := 234) rfl dX9_run_233 ?_
        refine EW_aload_n (pc2 := 235) rfl dX9_run_234 0 rfl ?_
        refine AW_invV (M' := MX9_pop) [] (rest := [.int ((x24.1 (v0 + 1) (Int32.toNatClampNeg v2)) >>> (16 &&& 31)), .ref v0]) mlRX9_65 okX9_pop (pc2 := 238) rfl dX9_run_235 rfl rfl (Nat.le_of_ble_eq_true rfl) (Nat.le_of_ble_eq_true rfl) (d' := 0) (by omega) (isT.o hv0) ⟨by decide, rfl⟩ (EW_mono (fun _ _ hr => ?_) (sX9_pop v0 hv0 x24 _ _ 0 0 (Nat.le_refl _) h))
        obtain ⟨r26, x27, rfl, rfl, h⟩ := hr
        refine EW_iload (pc2 := 240) rfl dX9_run_238 4 rfl ?_
        refine AW_invS (M' := MX9_joined) [.int ((x24.1 (v0 + 1) (Int32.toNatClampNeg v2)) >>> (16 &&& 31)), .int r26, .int r23] (rest := [.ref v0]) mlRX9_80 okX9_joined (pc2 := 243) rfl dX9_run_240 rfl rfl (Nat.le_of_ble_eq_true rfl) (Nat.le_of_ble_eq_true rfl) (d' := 0) (by omega) (EW_mono (fun _ _ hr => ?_) (sX9_joined ((x24.1 (v0 + 1) (Int32.toNatClampNeg v2)) >>> (16 &&& 31)) r26 r23  x27 _ _ 0 0 (Nat.le_refl _) h))
        obtain ⟨r28, rfl, rfl, h⟩ := hr
        refine AW_invS (M' := MX9_bounded) [.long r28] (rest := [.ref v0]) mlRX9_84 okX9_bounded (pc2 := 246) rfl dX9_run_243 rfl rfl (Nat.le_of_ble_eq_true rfl) (Nat.le_of_ble_eq_true rfl) (d' := 1) (by omega) (EW_mono (fun _ _ hr => ?_) (sX9_bounded r28  x27 _ _ 0 0 (Nat.le_refl _) h))
        obtain ⟨r29, rfl, rfl, h⟩ := hr
        refine AW_invV (M' := MX9_push) [.int r29] (rest := []) mlRX9_57 okX9_push (pc2 := 249) rfl dX9_run_246 rfl rfl (Nat.le_of_ble_eq_true rfl) (Nat.le_of_ble_eq_true rfl) (d' := 0) (by omega) (isT.o hv0) ⟨by decide, rfl⟩ (EW_mono (fun _ _ hr => ?_) (sX9_push v0 r29 hv0 x27 _ _ 0 0 (Nat.le_refl _) h))
        obtain ⟨x30, rfl, rfl, h⟩ := hr
        refine EW_iinc (v2 + 1) (pc2 := 252) rfl dX9_run_249 2 rfl rfl (by decide) [1, 2, 0, 3, 4] [(0, .ref v0), (1, .ref v1), (2, .int (v2 + 1)), (3, .int ((x.1 (v0 + 1) (Int32.toNatClampNeg v2)) &&& 65535)), (4, .int r23)] rfl ?_
        refine EW_goto (tgt := 35) dX9_run_252 (by decide) ?_
        refine EW_ls [0, 1, 2] rfl ?_
        exact hL35 (v2 + 1) x30 h
      | 4, _, qk =>
        replace h := h.2.2.2.2.2.1 qk
        refine EW_tabIn (off := 156) (tgt := 218) dX9_run_62 (by rw [qk]; decide) (by rw [qk]; decide) (by rw [qk]; decide) (by decide) ?_
        refine EW_aload_n (pc2 := 219) rfl dX9_run_218 0 rfl ?_
        refine AW_invV (M' := MX9_pop) [] (rest := []) mlRX9_65 okX9_pop (pc2 := 222) rfl dX9_run_219 rfl rfl (Nat.le_of_ble_eq_true rfl) (Nat.le_of_ble_eq_true rfl) (d' := 0) (by omega) (isT.o hv0) ⟨by decide, rfl⟩ (EW_mono (fun _ _ hr => ?_) (sX9_pop v0 hv0 x _ _ 0 0 (Nat.le_refl _) h))
        obtain ⟨r31, x32, rfl, rfl, h⟩ := hr
        refine EW_istore (pc2 := 224) rfl dX9_run_222 (by decide) [1, 2, 3, 4, 0] [(0, .ref v0), (1, .ref v1), (2, .int v2), (3, .int ((x.1 (v0 + 1) (Int32.toNatClampNeg v2)) &&& 65535)), (4, .int r31)] rfl ?_
        refine EW_aload_n (pc2 := 225) rfl dX9_run_224 0 rfl ?_
        refine EW_aload_n (pc2 := 226) rfl dX9_run_225 0 rfl ?_
        refine AW_getr (r := (v0 + 1)) ⟨gfRX9_9, rfl⟩ (pc2 := 229) rfl dX9_run_226 (isT.o hv0) (isT.r0 hv0) ?_
        refine EW_iload_n (pc2 := 230) rfl dX9_run_229 2 rfl ?_
        obtain ⟨b33, h⟩ := h
        refine AW_iald (pc2 := 231) rfl dX9_run_230 (isT.a0 hv0) b33 ?_
        refine EW_bipush (pc2 := 233) (v := 16) rfl dX9_run_231 (by decide) ?_
        refine EW_ishr (pc2 := 234) rfl dX9_run_233 ?_
        refine EW_aload_n (pc2 := 235) rfl dX9_run_234 0 rfl ?_
        refine AW_invV (M' := MX9_pop) [] (rest := [.int ((x32.1 (v0 + 1) (Int32.toNatClampNeg v2)) >>> (16 &&& 31)), .ref v0]) mlRX9_65 okX9_pop (pc2 := 238) rfl dX9_run_235 rfl rfl (Nat.le_of_ble_eq_true rfl) (Nat.le_of_ble_eq_true rfl) (d' := 0) (by omega) (isT.o hv0) ⟨by decide, rfl⟩ (EW_mono (fun _ _ hr => ?_) (sX9_pop v0 hv0 x32 _ _ 0 0 (Nat.le_refl _) h))
        obtain ⟨r34, x35, rfl, rfl, h⟩ := hr
        refine EW_iload (pc2 := 240) rfl dX9_run_238 4 rfl ?_
        refine AW_invS (M' := MX9_joined) [.int ((x32.1 (v0 + 1) (Int32.toNatClampNeg v2)) >>> (16 &&& 31)), .int r34, .int r31] (rest := [.ref v0]) mlRX9_80 okX9_joined (pc2 := 243) rfl dX9_run_240 rfl rfl (Nat.le_of_ble_eq_true rfl) (Nat.le_of_ble_eq_true rfl) (d' := 0) (by omega) (EW_mono (fun _ _ hr => ?_) (sX9_joined ((x32.1 (v0 + 1) (Int32.toNatClampNeg v2)) >>> (16 &&& 31)) r34 r31  x35 _ _ 0 0 (Nat.le_refl _) h))
        obtain ⟨r36, rfl, rfl, h⟩ := hr
        refine AW_invS (M' := MX9_bounded) [.long r36] (rest := [.ref v0]) mlRX9_84 okX9_bounded (pc2 := 246) rfl dX9_run_243 rfl rfl (Nat.le_of_ble_eq_true rfl) (Nat.le_of_ble_eq_true rfl) (d' := 1) (by omega) (EW_mono (fun _ _ hr => ?_) (sX9_bounded r36  x35 _ _ 0 0 (Nat.le_refl _) h))
        obtain ⟨r37, rfl, rfl, h⟩ := hr
        refine AW_invV (M' := MX9_push) [.int r37] (rest := []) mlRX9_57 okX9_push (pc2 := 249) rfl dX9_run_246 rfl rfl (Nat.le_of_ble_eq_true rfl) (Nat.le_of_ble_eq_true rfl) (d' := 0) (by omega) (isT.o hv0) ⟨by decide, rfl⟩ (EW_mono (fun _ _ hr => ?_) (sX9_push v0 r37 hv0 x35 _ _ 0 0 (Nat.le_refl _) h))
        obtain ⟨x38, rfl, rfl, h⟩ := hr
        refine EW_iinc (v2 + 1) (pc2 := 252) rfl dX9_run_249 2 rfl rfl (by decide) [1, 2, 0, 3, 4] [(0, .ref v0), (1, .ref v1), (2, .int (v2 + 1)), (3, .int ((x.1 (v0 + 1) (Int32.toNatClampNeg v2)) &&& 65535)), (4, .int r31)] rfl ?_
        refine EW_goto (tgt := 35) dX9_run_252 (by decide) ?_
        refine EW_ls [0, 1, 2] rfl ?_
        exact hL35 (v2 + 1) x38 h
      | 5, _, qk =>
        replace h := h.2.2.2.2.2.2.1 qk
        refine EW_tabIn (off := 156) (tgt := 218) dX9_run_62 (by rw [qk]; decide) (by rw [qk]; decide) (by rw [qk]; decide) (by decide) ?_
        refine EW_aload_n (pc2 := 219) rfl dX9_run_218 0 rfl ?_
        refine AW_invV (M' := MX9_pop) [] (rest := []) mlRX9_65 okX9_pop (pc2 := 222) rfl dX9_run_219 rfl rfl (Nat.le_of_ble_eq_true rfl) (Nat.le_of_ble_eq_true rfl) (d' := 0) (by omega) (isT.o hv0) ⟨by decide, rfl⟩ (EW_mono (fun _ _ hr => ?_) (sX9_pop v0 hv0 x _ _ 0 0 (Nat.le_refl _) h))
        obtain ⟨r39, x40, rfl, rfl, h⟩ := hr
        refine EW_istore (pc2 := 224) rfl dX9_run_222 (by decide) [1, 2, 3, 4, 0] [(0, .ref v0), (1, .ref v1), (2, .int v2), (3, .int ((x.1 (v0 + 1) (Int32.toNatClampNeg v2)) &&& 65535)), (4, .int r39)] rfl ?_
        refine EW_aload_n (pc2 := 225) rfl dX9_run_224 0 rfl ?_
        refine EW_aload_n (pc2 := 226) rfl dX9_run_225 0 rfl ?_
        refine AW_getr (r := (v0 + 1)) ⟨gfRX9_9, rfl⟩ (pc2 := 229) rfl dX9_run_226 (isT.o hv0) (isT.r0 hv0) ?_
        refine EW_iload_n (pc2 := 230) rfl dX9_run_229 2 rfl ?_
        obtain ⟨b41, h⟩ := h
        refine AW_iald (pc2 := 231) rfl dX9_run_230 (isT.a0 hv0) b41 ?_
        refine EW_bipush (pc2 := 233) (v := 16) rfl dX9_run_231 (by decide) ?_
        refine EW_ishr (pc2 := 234) rfl dX9_run_233 ?_
        refine EW_aload_n (pc2 := 235) rfl dX9_run_234 0 rfl ?_
        refine AW_invV (M' := MX9_pop) [] (rest := [.int ((x40.1 (v0 + 1) (Int32.toNatClampNeg v2)) >>> (16 &&& 31)), .ref v0]) mlRX9_65 okX9_pop (pc2 := 238) rfl dX9_run_235 rfl rfl (Nat.le_of_ble_eq_true rfl) (Nat.le_of_ble_eq_true rfl) (d' := 0) (by omega) (isT.o hv0) ⟨by decide, rfl⟩ (EW_mono (fun _ _ hr => ?_) (sX9_pop v0 hv0 x40 _ _ 0 0 (Nat.le_refl _) h))
        obtain ⟨r42, x43, rfl, rfl, h⟩ := hr
        refine EW_iload (pc2 := 240) rfl dX9_run_238 4 rfl ?_
        refine AW_invS (M' := MX9_joined) [.int ((x40.1 (v0 + 1) (Int32.toNatClampNeg v2)) >>> (16 &&& 31)), .int r42, .int r39] (rest := [.ref v0]) mlRX9_80 okX9_joined (pc2 := 243) rfl dX9_run_240 rfl rfl (Nat.le_of_ble_eq_true rfl) (Nat.le_of_ble_eq_true rfl) (d' := 0) (by omega) (EW_mono (fun _ _ hr => ?_) (sX9_joined ((x40.1 (v0 + 1) (Int32.toNatClampNeg v2)) >>> (16 &&& 31)) r42 r39  x43 _ _ 0 0 (Nat.le_refl _) h))
        obtain ⟨r44, rfl, rfl, h⟩ := hr
        refine AW_invS (M' := MX9_bounded) [.long r44] (rest := [.ref v0]) mlRX9_84 okX9_bounded (pc2 := 246) rfl dX9_run_243 rfl rfl (Nat.le_of_ble_eq_true rfl) (Nat.le_of_ble_eq_true rfl) (d' := 1) (by omega) (EW_mono (fun _ _ hr => ?_) (sX9_bounded r44  x43 _ _ 0 0 (Nat.le_refl _) h))
        obtain ⟨r45, rfl, rfl, h⟩ := hr
        refine AW_invV (M' := MX9_push) [.int r45] (rest := []) mlRX9_57 okX9_push (pc2 := 249) rfl dX9_run_246 rfl rfl (Nat.le_of_ble_eq_true rfl) (Nat.le_of_ble_eq_true rfl) (d' := 0) (by omega) (isT.o hv0) ⟨by decide, rfl⟩ (EW_mono (fun _ _ hr => ?_) (sX9_push v0 r45 hv0 x43 _ _ 0 0 (Nat.le_refl _) h))
        obtain ⟨x46, rfl, rfl, h⟩ := hr
        refine EW_iinc (v2 + 1) (pc2 := 252) rfl dX9_run_249 2 rfl rfl (by decide) [1, 2, 0, 3, 4] [(0, .ref v0), (1, .ref v1), (2, .int (v2 + 1)), (3, .int ((x.1 (v0 + 1) (Int32.toNatClampNeg v2)) &&& 65535)), (4, .int r39)] rfl ?_
        refine EW_goto (tgt := 35) dX9_run_252 (by decide) ?_
        refine EW_ls [0, 1, 2] rfl ?_
        exact hL35 (v2 + 1) x46 h
      | 6, _, qk =>
        replace h := h.2.2.2.2.2.2.2.1 qk
        refine EW_tabIn (off := 156) (tgt := 218) dX9_run_62 (by rw [qk]; decide) (by rw [qk]; decide) (by rw [qk]; decide) (by decide) ?_
        refine EW_aload_n (pc2 := 219) rfl dX9_run_218 0 rfl ?_
        refine AW_invV (M' := MX9_pop) [] (rest := []) mlRX9_65 okX9_pop (pc2 := 222) rfl dX9_run_219 rfl rfl (Nat.le_of_ble_eq_true rfl) (Nat.le_of_ble_eq_true rfl) (d' := 0) (by omega) (isT.o hv0) ⟨by decide, rfl⟩ (EW_mono (fun _ _ hr => ?_) (sX9_pop v0 hv0 x _ _ 0 0 (Nat.le_refl _) h))
        obtain ⟨r47, x48, rfl, rfl, h⟩ := hr
        refine EW_istore (pc2 := 224) rfl dX9_run_222 (by decide) [1, 2, 3, 4, 0] [(0, .ref v0), (1, .ref v1), (2, .int v2), (3, .int ((x.1 (v0 + 1) (Int32.toNatClampNeg v2)) &&& 65535)), (4, .int r47)] rfl ?_
        refine EW_aload_n (pc2 := 225) rfl dX9_run_224 0 rfl ?_
        refine EW_aload_n (pc2 := 226) rfl dX9_run_225 0 rfl ?_
        refine AW_getr (r := (v0 + 1)) ⟨gfRX9_9, rfl⟩ (pc2 := 229) rfl dX9_run_226 (isT.o hv0) (isT.r0 hv0) ?_
        refine EW_iload_n (pc2 := 230) rfl dX9_run_229 2 rfl ?_
        obtain ⟨b49, h⟩ := h
        refine AW_iald (pc2 := 231) rfl dX9_run_230 (isT.a0 hv0) b49 ?_
        refine EW_bipush (pc2 := 233) (v := 16) rfl dX9_run_231 (by decide) ?_
        refine EW_ishr (pc2 := 234) rfl dX9_run_233 ?_
        refine EW_aload_n (pc2 := 235) rfl dX9_run_234 0 rfl ?_
        refine AW_invV (M' := MX9_pop) [] (rest := [.int ((x48.1 (v0 + 1) (Int32.toNatClampNeg v2)) >>> (16 &&& 31)), .ref v0]) mlRX9_65 okX9_pop (pc2 := 238) rfl dX9_run_235 rfl rfl (Nat.le_of_ble_eq_true rfl) (Nat.le_of_ble_eq_true rfl) (d' := 0) (by omega) (isT.o hv0) ⟨by decide, rfl⟩ (EW_mono (fun _ _ hr => ?_) (sX9_pop v0 hv0 x48 _ _ 0 0 (Nat.le_refl _) h))
        obtain ⟨r50, x51, rfl, rfl, h⟩ := hr
        refine EW_iload (pc2 := 240) rfl dX9_run_238 4 rfl ?_
        refine AW_invS (M' := MX9_joined) [.int ((x48.1 (v0 + 1) (Int32.toNatClampNeg v2)) >>> (16 &&& 31)), .int r50, .int r47] (rest := [.ref v0]) mlRX9_80 okX9_joined (pc2 := 243) rfl dX9_run_240 rfl rfl (Nat.le_of_ble_eq_true rfl) (Nat.le_of_ble_eq_true rfl) (d' := 0) (by omega) (EW_mono (fun _ _ hr => ?_) (sX9_joined ((x48.1 (v0 + 1) (Int32.toNatClampNeg v2)) >>> (16 &&& 31)) r50 r47  x51 _ _ 0 0 (Nat.le_refl _) h))
        obtain ⟨r52, rfl, rfl, h⟩ := hr
        refine AW_invS (M' := MX9_bounded) [.long r52] (rest := [.ref v0]) mlRX9_84 okX9_bounded (pc2 := 246) rfl dX9_run_243 rfl rfl (Nat.le_of_ble_eq_true rfl) (Nat.le_of_ble_eq_true rfl) (d' := 1) (by omega) (EW_mono (fun _ _ hr => ?_) (sX9_bounded r52  x51 _ _ 0 0 (Nat.le_refl _) h))
        obtain ⟨r53, rfl, rfl, h⟩ := hr
        refine AW_invV (M' := MX9_push) [.int r53] (rest := []) mlRX9_57 okX9_push (pc2 := 249) rfl dX9_run_246 rfl rfl (Nat.le_of_ble_eq_true rfl) (Nat.le_of_ble_eq_true rfl) (d' := 0) (by omega) (isT.o hv0) ⟨by decide, rfl⟩ (EW_mono (fun _ _ hr => ?_) (sX9_push v0 r53 hv0 x51 _ _ 0 0 (Nat.le_refl _) h))
        obtain ⟨x54, rfl, rfl, h⟩ := hr
        refine EW_iinc (v2 + 1) (pc2 := 252) rfl dX9_run_249 2 rfl rfl (by decide) [1, 2, 0, 3, 4] [(0, .ref v0), (1, .ref v1), (2, .int (v2 + 1)), (3, .int ((x.1 (v0 + 1) (Int32.toNatClampNeg v2)) &&& 65535)), (4, .int r47)] rfl ?_
        refine EW_goto (tgt := 35) dX9_run_252 (by decide) ?_
        refine EW_ls [0, 1, 2] rfl ?_
        exact hL35 (v2 + 1) x54 h
      | 7, _, qk =>
        replace h := h.2.2.2.2.2.2.2.2.1 qk
        refine EW_tabIn (off := 156) (tgt := 218) dX9_run_62 (by rw [qk]; decide) (by rw [qk]; decide) (by rw [qk]; decide) (by decide) ?_
        refine EW_aload_n (pc2 := 219) rfl dX9_run_218 0 rfl ?_
        refine AW_invV (M' := MX9_pop) [] (rest := []) mlRX9_65 okX9_pop (pc2 := 222) rfl dX9_run_219 rfl rfl (Nat.le_of_ble_eq_true rfl) (Nat.le_of_ble_eq_true rfl) (d' := 0) (by omega) (isT.o hv0) ⟨by decide, rfl⟩ (EW_mono (fun _ _ hr => ?_) (sX9_pop v0 hv0 x _ _ 0 0 (Nat.le_refl _) h))
        obtain ⟨r55, x56, rfl, rfl, h⟩ := hr
        refine EW_istore (pc2 := 224) rfl dX9_run_222 (by decide) [1, 2, 3, 4, 0] [(0, .ref v0), (1, .ref v1), (2, .int v2), (3, .int ((x.1 (v0 + 1) (Int32.toNatClampNeg v2)) &&& 65535)), (4, .int r55)] rfl ?_
        refine EW_aload_n (pc2 := 225) rfl dX9_run_224 0 rfl ?_
        refine EW_aload_n (pc2 := 226) rfl dX9_run_225 0 rfl ?_
        refine AW_getr (r := (v0 + 1)) ⟨gfRX9_9, rfl⟩ (pc2 := 229) rfl dX9_run_226 (isT.o hv0) (isT.r0 hv0) ?_
        refine EW_iload_n (pc2 := 230) rfl dX9_run_229 2 rfl ?_
        obtain ⟨b57, h⟩ := h
        refine AW_iald (pc2 := 231) rfl dX9_run_230 (isT.a0 hv0) b57 ?_
        refine EW_bipush (pc2 := 233) (v := 16) rfl dX9_run_231 (by decide) ?_
        refine EW_ishr (pc2 := 234) rfl dX9_run_233 ?_
        refine EW_aload_n (pc2 := 235) rfl dX9_run_234 0 rfl ?_
        refine AW_invV (M' := MX9_pop) [] (rest := [.int ((x56.1 (v0 + 1) (Int32.toNatClampNeg v2)) >>> (16 &&& 31)), .ref v0]) mlRX9_65 okX9_pop (pc2 := 238) rfl dX9_run_235 rfl rfl (Nat.le_of_ble_eq_true rfl) (Nat.le_of_ble_eq_true rfl) (d' := 0) (by omega) (isT.o hv0) ⟨by decide, rfl⟩ (EW_mono (fun _ _ hr => ?_) (sX9_pop v0 hv0 x56 _ _ 0 0 (Nat.le_refl _) h))
        obtain ⟨r58, x59, rfl, rfl, h⟩ := hr
        refine EW_iload (pc2 := 240) rfl dX9_run_238 4 rfl ?_
        refine AW_invS (M' := MX9_joined) [.int ((x56.1 (v0 + 1) (Int32.toNatClampNeg v2)) >>> (16 &&& 31)), .int r58, .int r55] (rest := [.ref v0]) mlRX9_80 okX9_joined (pc2 := 243) rfl dX9_run_240 rfl rfl (Nat.le_of_ble_eq_true rfl) (Nat.le_of_ble_eq_true rfl) (d' := 0) (by omega) (EW_mono (fun _ _ hr => ?_) (sX9_joined ((x56.1 (v0 + 1) (Int32.toNatClampNeg v2)) >>> (16 &&& 31)) r58 r55  x59 _ _ 0 0 (Nat.le_refl _) h))
        obtain ⟨r60, rfl, rfl, h⟩ := hr
        refine AW_invS (M' := MX9_bounded) [.long r60] (rest := [.ref v0]) mlRX9_84 okX9_bounded (pc2 := 246) rfl dX9_run_243 rfl rfl (Nat.le_of_ble_eq_true rfl) (Nat.le_of_ble_eq_true rfl) (d' := 1) (by omega) (EW_mono (fun _ _ hr => ?_) (sX9_bounded r60  x59 _ _ 0 0 (Nat.le_refl _) h))
        obtain ⟨r61, rfl, rfl, h⟩ := hr
        refine AW_invV (M' := MX9_push) [.int r61] (rest := []) mlRX9_57 okX9_push (pc2 := 249) rfl dX9_run_246 rfl rfl (Nat.le_of_ble_eq_true rfl) (Nat.le_of_ble_eq_true rfl) (d' := 0) (by omega) (isT.o hv0) ⟨by decide, rfl⟩ (EW_mono (fun _ _ hr => ?_) (sX9_push v0 r61 hv0 x59 _ _ 0 0 (Nat.le_refl _) h))
        obtain ⟨x62, rfl, rfl, h⟩ := hr
        refine EW_iinc (v2 + 1) (pc2 := 252) rfl dX9_run_249 2 rfl rfl (by decide) [1, 2, 0, 3, 4] [(0, .ref v0), (1, .ref v1), (2, .int (v2 + 1)), (3, .int ((x.1 (v0 + 1) (Int32.toNatClampNeg v2)) &&& 65535)), (4, .int r55)] rfl ?_
        refine EW_goto (tgt := 35) dX9_run_252 (by decide) ?_
        refine EW_ls [0, 1, 2] rfl ?_
        exact hL35 (v2 + 1) x62 h
      | 8, _, qk =>
        replace h := h.2.2.2.2.2.2.2.2.2.1 qk
        refine EW_tabIn (off := 101) (tgt := 163) dX9_run_62 (by rw [qk]; decide) (by rw [qk]; decide) (by rw [qk]; decide) (by decide) ?_
        refine EW_aload_n (pc2 := 164) rfl dX9_run_163 0 rfl ?_
        refine EW_iconst (pc2 := 165) (v := 1) rfl dX9_run_164 (by decide) ?_
        refine EW_aload_n (pc2 := 166) rfl dX9_run_165 0 rfl ?_
        refine AW_invV (M' := MX9_pop) [] (rest := [.int 1, .ref v0]) mlRX9_65 okX9_pop (pc2 := 169) rfl dX9_run_166 rfl rfl (Nat.le_of_ble_eq_true rfl) (Nat.le_of_ble_eq_true rfl) (d' := 0) (by omega) (isT.o hv0) ⟨by decide, rfl⟩ (EW_mono (fun _ _ hr => ?_) (sX9_pop v0 hv0 x _ _ 0 0 (Nat.le_refl _) h))
        obtain ⟨r63, x64, rfl, rfl, h⟩ := hr
        refine EW_isub (pc2 := 170) rfl dX9_run_169 ?_
        refine AW_invV (M' := MX9_push) [.int (1 - r63)] (rest := []) mlRX9_57 okX9_push (pc2 := 173) rfl dX9_run_170 rfl rfl (Nat.le_of_ble_eq_true rfl) (Nat.le_of_ble_eq_true rfl) (d' := 0) (by omega) (isT.o hv0) ⟨by decide, rfl⟩ (EW_mono (fun _ _ hr => ?_) (sX9_push v0 (1 - r63) hv0 x64 _ _ 0 0 (Nat.le_refl _) h))
        obtain ⟨x65, rfl, rfl, h⟩ := hr
        refine EW_goto (tgt := 249) dX9_run_173 (by decide) ?_
        refine EW_iinc (v2 + 1) (pc2 := 252) rfl dX9_run_249 2 rfl rfl (by decide) [1, 2, 0, 3] [(0, .ref v0), (1, .ref v1), (2, .int (v2 + 1)), (3, .int ((x.1 (v0 + 1) (Int32.toNatClampNeg v2)) &&& 65535))] rfl ?_
        refine EW_goto (tgt := 35) dX9_run_252 (by decide) ?_
        refine EW_ls [0, 1, 2] rfl ?_
        exact hL35 (v2 + 1) x65 h
      | 9, _, qk =>
        replace h := h.2.2.2.2.2.2.2.2.2.2.1 qk
        refine EW_tabIn (off := 156) (tgt := 218) dX9_run_62 (by rw [qk]; decide) (by rw [qk]; decide) (by rw [qk]; decide) (by decide) ?_
        refine EW_aload_n (pc2 := 219) rfl dX9_run_218 0 rfl ?_
        refine AW_invV (M' := MX9_pop) [] (rest := []) mlRX9_65 okX9_pop (pc2 := 222) rfl dX9_run_219 rfl rfl (Nat.le_of_ble_eq_true rfl) (Nat.le_of_ble_eq_true rfl) (d' := 0) (by omega) (isT.o hv0) ⟨by decide, rfl⟩ (EW_mono (fun _ _ hr => ?_) (sX9_pop v0 hv0 x _ _ 0 0 (Nat.le_refl _) h))
        obtain ⟨r66, x67, rfl, rfl, h⟩ := hr
        refine EW_istore (pc2 := 224) rfl dX9_run_222 (by decide) [1, 2, 3, 4, 0] [(0, .ref v0), (1, .ref v1), (2, .int v2), (3, .int ((x.1 (v0 + 1) (Int32.toNatClampNeg v2)) &&& 65535)), (4, .int r66)] rfl ?_
        refine EW_aload_n (pc2 := 225) rfl dX9_run_224 0 rfl ?_
        refine EW_aload_n (pc2 := 226) rfl dX9_run_225 0 rfl ?_
        refine AW_getr (r := (v0 + 1)) ⟨gfRX9_9, rfl⟩ (pc2 := 229) rfl dX9_run_226 (isT.o hv0) (isT.r0 hv0) ?_
        refine EW_iload_n (pc2 := 230) rfl dX9_run_229 2 rfl ?_
        obtain ⟨b68, h⟩ := h
        refine AW_iald (pc2 := 231) rfl dX9_run_230 (isT.a0 hv0) b68 ?_
        refine EW_bipush (pc2 := 233) (v := 16) rfl dX9_run_231 (by decide) ?_
        refine EW_ishr (pc2 := 234) rfl dX9_run_233 ?_
        refine EW_aload_n (pc2 := 235) rfl dX9_run_234 0 rfl ?_
        refine AW_invV (M' := MX9_pop) [] (rest := [.int ((x67.1 (v0 + 1) (Int32.toNatClampNeg v2)) >>> (16 &&& 31)), .ref v0]) mlRX9_65 okX9_pop (pc2 := 238) rfl dX9_run_235 rfl rfl (Nat.le_of_ble_eq_true rfl) (Nat.le_of_ble_eq_true rfl) (d' := 0) (by omega) (isT.o hv0) ⟨by decide, rfl⟩ (EW_mono (fun _ _ hr => ?_) (sX9_pop v0 hv0 x67 _ _ 0 0 (Nat.le_refl _) h))
        obtain ⟨r69, x70, rfl, rfl, h⟩ := hr
        refine EW_iload (pc2 := 240) rfl dX9_run_238 4 rfl ?_
        refine AW_invS (M' := MX9_joined) [.int ((x67.1 (v0 + 1) (Int32.toNatClampNeg v2)) >>> (16 &&& 31)), .int r69, .int r66] (rest := [.ref v0]) mlRX9_80 okX9_joined (pc2 := 243) rfl dX9_run_240 rfl rfl (Nat.le_of_ble_eq_true rfl) (Nat.le_of_ble_eq_true rfl) (d' := 0) (by omega) (EW_mono (fun _ _ hr => ?_) (sX9_joined ((x67.1 (v0 + 1) (Int32.toNatClampNeg v2)) >>> (16 &&& 31)) r69 r66  x70 _ _ 0 0 (Nat.le_refl _) h))
        obtain ⟨r71, rfl, rfl, h⟩ := hr
        refine AW_invS (M' := MX9_bounded) [.long r71] (rest := [.ref v0]) mlRX9_84 okX9_bounded (pc2 := 246) rfl dX9_run_243 rfl rfl (Nat.le_of_ble_eq_true rfl) (Nat.le_of_ble_eq_true rfl) (d' := 1) (by omega) (EW_mono (fun _ _ hr => ?_) (sX9_bounded r71  x70 _ _ 0 0 (Nat.le_refl _) h))
        obtain ⟨r72, rfl, rfl, h⟩ := hr
        refine AW_invV (M' := MX9_push) [.int r72] (rest := []) mlRX9_57 okX9_push (pc2 := 249) rfl dX9_run_246 rfl rfl (Nat.le_of_ble_eq_true rfl) (Nat.le_of_ble_eq_true rfl) (d' := 0) (by omega) (isT.o hv0) ⟨by decide, rfl⟩ (EW_mono (fun _ _ hr => ?_) (sX9_push v0 r72 hv0 x70 _ _ 0 0 (Nat.le_refl _) h))
        obtain ⟨x73, rfl, rfl, h⟩ := hr
        refine EW_iinc (v2 + 1) (pc2 := 252) rfl dX9_run_249 2 rfl rfl (by decide) [1, 2, 0, 3, 4] [(0, .ref v0), (1, .ref v1), (2, .int (v2 + 1)), (3, .int ((x.1 (v0 + 1) (Int32.toNatClampNeg v2)) &&& 65535)), (4, .int r66)] rfl ?_
        refine EW_goto (tgt := 35) dX9_run_252 (by decide) ?_
        refine EW_ls [0, 1, 2] rfl ?_
        exact hL35 (v2 + 1) x73 h
      | 10, _, qk =>
        replace h := h.2.2.2.2.2.2.2.2.2.2.2.1 qk
        refine EW_tabIn (off := 156) (tgt := 218) dX9_run_62 (by rw [qk]; decide) (by rw [qk]; decide) (by rw [qk]; decide) (by decide) ?_
        refine EW_aload_n (pc2 := 219) rfl dX9_run_218 0 rfl ?_
        refine AW_invV (M' := MX9_pop) [] (rest := []) mlRX9_65 okX9_pop (pc2 := 222) rfl dX9_run_219 rfl rfl (Nat.le_of_ble_eq_true rfl) (Nat.le_of_ble_eq_true rfl) (d' := 0) (by omega) (isT.o hv0) ⟨by decide, rfl⟩ (EW_mono (fun _ _ hr => ?_) (sX9_pop v0 hv0 x _ _ 0 0 (Nat.le_refl _) h))
        obtain ⟨r74, x75, rfl, rfl, h⟩ := hr
        refine EW_istore (pc2 := 224) rfl dX9_run_222 (by decide) [1, 2, 3, 4, 0] [(0, .ref v0), (1, .ref v1), (2, .int v2), (3, .int ((x.1 (v0 + 1) (Int32.toNatClampNeg v2)) &&& 65535)), (4, .int r74)] rfl ?_
        refine EW_aload_n (pc2 := 225) rfl dX9_run_224 0 rfl ?_
        refine EW_aload_n (pc2 := 226) rfl dX9_run_225 0 rfl ?_
        refine AW_getr (r := (v0 + 1)) ⟨gfRX9_9, rfl⟩ (pc2 := 229) rfl dX9_run_226 (isT.o hv0) (isT.r0 hv0) ?_
        refine EW_iload_n (pc2 := 230) rfl dX9_run_229 2 rfl ?_
        obtain ⟨b76, h⟩ := h
        refine AW_iald (pc2 := 231) rfl dX9_run_230 (isT.a0 hv0) b76 ?_
        refine EW_bipush (pc2 := 233) (v := 16) rfl dX9_run_231 (by decide) ?_
        refine EW_ishr (pc2 := 234) rfl dX9_run_233 ?_
        refine EW_aload_n (pc2 := 235) rfl dX9_run_234 0 rfl ?_
        refine AW_invV (M' := MX9_pop) [] (rest := [.int ((x75.1 (v0 + 1) (Int32.toNatClampNeg v2)) >>> (16 &&& 31)), .ref v0]) mlRX9_65 okX9_pop (pc2 := 238) rfl dX9_run_235 rfl rfl (Nat.le_of_ble_eq_true rfl) (Nat.le_of_ble_eq_true rfl) (d' := 0) (by omega) (isT.o hv0) ⟨by decide, rfl⟩ (EW_mono (fun _ _ hr => ?_) (sX9_pop v0 hv0 x75 _ _ 0 0 (Nat.le_refl _) h))
        obtain ⟨r77, x78, rfl, rfl, h⟩ := hr
        refine EW_iload (pc2 := 240) rfl dX9_run_238 4 rfl ?_
        refine AW_invS (M' := MX9_joined) [.int ((x75.1 (v0 + 1) (Int32.toNatClampNeg v2)) >>> (16 &&& 31)), .int r77, .int r74] (rest := [.ref v0]) mlRX9_80 okX9_joined (pc2 := 243) rfl dX9_run_240 rfl rfl (Nat.le_of_ble_eq_true rfl) (Nat.le_of_ble_eq_true rfl) (d' := 0) (by omega) (EW_mono (fun _ _ hr => ?_) (sX9_joined ((x75.1 (v0 + 1) (Int32.toNatClampNeg v2)) >>> (16 &&& 31)) r77 r74  x78 _ _ 0 0 (Nat.le_refl _) h))
        obtain ⟨r79, rfl, rfl, h⟩ := hr
        refine AW_invS (M' := MX9_bounded) [.long r79] (rest := [.ref v0]) mlRX9_84 okX9_bounded (pc2 := 246) rfl dX9_run_243 rfl rfl (Nat.le_of_ble_eq_true rfl) (Nat.le_of_ble_eq_true rfl) (d' := 1) (by omega) (EW_mono (fun _ _ hr => ?_) (sX9_bounded r79  x78 _ _ 0 0 (Nat.le_refl _) h))
        obtain ⟨r80, rfl, rfl, h⟩ := hr
        refine AW_invV (M' := MX9_push) [.int r80] (rest := []) mlRX9_57 okX9_push (pc2 := 249) rfl dX9_run_246 rfl rfl (Nat.le_of_ble_eq_true rfl) (Nat.le_of_ble_eq_true rfl) (d' := 0) (by omega) (isT.o hv0) ⟨by decide, rfl⟩ (EW_mono (fun _ _ hr => ?_) (sX9_push v0 r80 hv0 x78 _ _ 0 0 (Nat.le_refl _) h))
        obtain ⟨x81, rfl, rfl, h⟩ := hr
        refine EW_iinc (v2 + 1) (pc2 := 252) rfl dX9_run_249 2 rfl rfl (by decide) [1, 2, 0, 3, 4] [(0, .ref v0), (1, .ref v1), (2, .int (v2 + 1)), (3, .int ((x.1 (v0 + 1) (Int32.toNatClampNeg v2)) &&& 65535)), (4, .int r74)] rfl ?_
        refine EW_goto (tgt := 35) dX9_run_252 (by decide) ?_
        refine EW_ls [0, 1, 2] rfl ?_
        exact hL35 (v2 + 1) x81 h
      | 11, _, qk =>
        replace h := h.2.2.2.2.2.2.2.2.2.2.2.2.1 qk
        refine EW_tabIn (off := 114) (tgt := 176) dX9_run_62 (by rw [qk]; decide) (by rw [qk]; decide) (by rw [qk]; decide) (by decide) ?_
        refine EW_aload_n (pc2 := 177) rfl dX9_run_176 0 rfl ?_
        refine EW_aload_n (pc2 := 178) rfl dX9_run_177 0 rfl ?_
        refine AW_invV (M' := MX9_pop) [] (rest := [.ref v0]) mlRX9_65 okX9_pop (pc2 := 181) rfl dX9_run_178 rfl rfl (Nat.le_of_ble_eq_true rfl) (Nat.le_of_ble_eq_true rfl) (d' := 0) (by omega) (isT.o hv0) ⟨by decide, rfl⟩ (EW_mono (fun _ _ hr => ?_) (sX9_pop v0 hv0 x _ _ 0 0 (Nat.le_refl _) h))
        obtain ⟨r82, x83, rfl, rfl, h⟩ := hr
        refine EW_if_eq (tgt := 188) (pc2 := 184) rfl dX9_run_181 (by decide) (fun q => ?_) (fun q => ?_)
        · replace h := h.1 q
          refine EW_iconst (pc2 := 189) (v := 0) rfl dX9_run_188 (by decide) ?_
          refine EW_ls [0, 1, 2] rfl ?_
          exact sX9_run_189 v0 v1 v2 v0 0 hv0 hv1 hv0 x83 K L35 d bc bs hdp hL35 h
        · replace h := h.2 q
          refine EW_iconst (pc2 := 185) (v := 1) rfl dX9_run_184 (by decide) ?_
          refine EW_goto (tgt := 189) dX9_run_185 (by decide) ?_
          refine EW_ls [0, 1, 2] rfl ?_
          exact sX9_run_189 v0 v1 v2 v0 1 hv0 hv1 hv0 x83 K L35 d bc bs hdp hL35 h
      | 12, _, qk =>
        replace h := h.2.2.2.2.2.2.2.2.2.2.2.2.2.1 qk
        refine EW_tabIn (off := 133) (tgt := 195) dX9_run_62 (by rw [qk]; decide) (by rw [qk]; decide) (by rw [qk]; decide) (by decide) ?_
        refine EW_aload_n (pc2 := 196) rfl dX9_run_195 0 rfl ?_
        refine EW_iload_n (pc2 := 197) rfl dX9_run_196 3 rfl ?_
        refine EW_bipush (pc2 := 199) (v := 10) rfl dX9_run_197 (by decide) ?_
        refine EW_idiv (pc2 := 200) rfl dX9_run_199 (by decide) ?_
        refine EW_iload_n (pc2 := 201) rfl dX9_run_200 3 rfl ?_
        refine EW_bipush (pc2 := 203) (v := 10) rfl dX9_run_201 (by decide) ?_
        refine EW_irem (pc2 := 204) rfl dX9_run_203 (by decide) ?_
        refine AW_invV (M' := MX9_ask) [.int (((x.1 (v0 + 1) (Int32.toNatClampNeg v2)) &&& 65535) / 10), .int (((x.1 (v0 + 1) (Int32.toNatClampNeg v2)) &&& 65535) - ((x.1 (v0 + 1) (Int32.toNatClampNeg v2)) &&& 65535) / 10 * 10)] (rest := []) mlRX9_73 okX9_ask (pc2 := 207) rfl dX9_run_204 rfl rfl (Nat.le_of_ble_eq_true rfl) (Nat.le_of_ble_eq_true rfl) (d' := 1) (by omega) (isT.o hv0) ⟨by decide, rfl⟩ (EW_mono (fun _ _ hr => ?_) (sX9_ask v0 (((x.1 (v0 + 1) (Int32.toNatClampNeg v2)) &&& 65535) / 10) (((x.1 (v0 + 1) (Int32.toNatClampNeg v2)) &&& 65535) - ((x.1 (v0 + 1) (Int32.toNatClampNeg v2)) &&& 65535) / 10 * 10) hv0 x _ _ 0 0 (Nat.le_refl _) h))
        obtain ⟨x84, rfl, rfl, h⟩ := hr
        refine EW_goto (tgt := 249) dX9_run_207 (by decide) ?_
        refine EW_iinc (v2 + 1) (pc2 := 252) rfl dX9_run_249 2 rfl rfl (by decide) [1, 2, 0, 3] [(0, .ref v0), (1, .ref v1), (2, .int (v2 + 1)), (3, .int ((x.1 (v0 + 1) (Int32.toNatClampNeg v2)) &&& 65535))] rfl ?_
        refine EW_goto (tgt := 35) dX9_run_252 (by decide) ?_
        refine EW_ls [0, 1, 2] rfl ?_
        exact hL35 (v2 + 1) x84 h
      | 13, _, qk =>
        replace h := h.2.2.2.2.2.2.2.2.2.2.2.2.2.2 qk
        refine EW_tabIn (off := 148) (tgt := 210) dX9_run_62 (by rw [qk]; decide) (by rw [qk]; decide) (by rw [qk]; decide) (by decide) ?_
        refine EW_aload_n (pc2 := 211) rfl dX9_run_210 0 rfl ?_
        refine EW_iload_n (pc2 := 212) rfl dX9_run_211 3 rfl ?_
        refine AW_invV (M' := MX9_find) [.int ((x.1 (v0 + 1) (Int32.toNatClampNeg v2)) &&& 65535)] (rest := []) mlRX9_77 okX9_find (pc2 := 215) rfl dX9_run_212 rfl rfl (Nat.le_of_ble_eq_true rfl) (Nat.le_of_ble_eq_true rfl) (d' := 0) (by omega) (isT.o hv0) ⟨by decide, rfl⟩ (EW_mono (fun _ _ hr => ?_) (sX9_find v0 ((x.1 (v0 + 1) (Int32.toNatClampNeg v2)) &&& 65535) hv0 x _ _ 0 0 (Nat.le_refl _) h))
        obtain ⟨x85, rfl, rfl, h⟩ := hr
        refine EW_goto (tgt := 249) dX9_run_215 (by decide) ?_
        refine EW_iinc (v2 + 1) (pc2 := 252) rfl dX9_run_249 2 rfl rfl (by decide) [1, 2, 0, 3] [(0, .ref v0), (1, .ref v1), (2, .int (v2 + 1)), (3, .int ((x.1 (v0 + 1) (Int32.toNatClampNeg v2)) &&& 65535))] rfl ?_
        refine EW_goto (tgt := 35) dX9_run_252 (by decide) ?_
        refine EW_ls [0, 1, 2] rfl ?_
        exact hL35 (v2 + 1) x85 h
      | n9 + 14, hkk, _ => exact absurd hkk (by omega)
set_option maxHeartbeats 4000000 in
set_option maxRecDepth 100000 in
theorem sX9_run (v0 : Nat) (v1 : Nat) (hv0 : isT v0) (hv1 : isLA v1) (x : ab_X) (K : ab_X → Prop) (d bc bs : Nat) (hdp : 2 ≤ d) (h : wX9_run v0 v1 x K) : EW MX9_run 0 [(0, .ref v0), (1, .ref v1)] [] (aS x) d bc bs (liV K) := by
  unfold wX9_run at h
  refine EW_aload_n (pc2 := 1) rfl dX9_run_0 0 rfl ?_
  refine EW_iconst (pc2 := 2) (v := 0) rfl dX9_run_1 (by decide) ?_
  refine AW_puti ⟨gfRX9_34, rfl, rfl⟩ (pc2 := 5) rfl dX9_run_2 (isT.o hv0) ?_
  refine EW_aload_n (pc2 := 6) rfl dX9_run_5 0 rfl ?_
  refine EW_iconst (pc2 := 7) (v := 0) rfl dX9_run_6 (by decide) ?_
  refine AW_puti ⟨gfRX9_37, rfl, rfl⟩ (pc2 := 10) rfl dX9_run_7 (isT.o hv0) ?_
  refine EW_aload_n (pc2 := 11) rfl dX9_run_10 0 rfl ?_
  refine EW_iconst (pc2 := 12) (v := 0) rfl dX9_run_11 (by decide) ?_
  refine AW_putz ⟨gfRX9_40, rfl, rfl⟩ isB0 (pc2 := 15) rfl dX9_run_12 (isT.o hv0) ?_
  refine EW_aload_n (pc2 := 16) rfl dX9_run_15 0 rfl ?_
  refine EW_iconst (pc2 := 17) (v := 0) rfl dX9_run_16 (by decide) ?_
  refine AW_puti ⟨gfRX9_44, rfl, rfl⟩ (pc2 := 20) rfl dX9_run_17 (isT.o hv0) ?_
  refine EW_aload_n (pc2 := 21) rfl dX9_run_20 0 rfl ?_
  refine EW_iconst (pc2 := 22) (v := 0) rfl dX9_run_21 (by decide) ?_
  refine AW_puti ⟨gfRX9_47, rfl, rfl⟩ (pc2 := 25) rfl dX9_run_22 (isT.o hv0) ?_
  refine EW_aload_n (pc2 := 26) rfl dX9_run_25 0 rfl ?_
  refine AW_getr (r := (v0 + 3)) ⟨gfRX9_18, rfl⟩ (pc2 := 29) rfl dX9_run_26 (isT.o hv0) (isT.r7 hv0) ?_
  refine EW_iconst (pc2 := 30) (v := 0) rfl dX9_run_29 (by decide) ?_
  refine AW_invS (M' := MJ7_fill_53178) [.ref (v0 + 3), .int 0] (rest := []) mlRX9_50 okJ7_fill_53178 (pc2 := 33) rfl dX9_run_30 rfl rfl (Nat.le_of_ble_eq_true rfl) (Nat.le_of_ble_eq_true rfl) (d' := 0) (by omega) (EW_mono (fun _ _ hr => ?_) (sJ7_fill_53178 (v0 + 3) 5 0 (isT.a7 hv0) (wr (wr (wr (wr (wr x v0 3 0) v0 4 0) v0 5 0) v0 6 0) v0 9 0) _ _ 0 0 (Nat.le_refl _) h))
  obtain ⟨x1, rfl, rfl, h⟩ := hr
  refine EW_iconst (pc2 := 34) (v := 0) rfl dX9_run_33 (by decide) ?_
  refine EW_istore_n (pc2 := 35) rfl dX9_run_34 (by decide) [1, 2, 0] [(0, .ref v0), (1, .ref v1), (2, .int 0)] rfl ?_
  exact sX9_run_35 v0 v1 0 hv0 hv1 x1 K d bc bs hdp h
theorem gfRX0_35 : ab_L RX0 35 0 9 := ⟨by decide, by decide, ab_in 560 (by decide +kernel) (by decide +kernel)⟩
theorem gfRX0_144 : ab_L RX0 144 0 12 := ⟨by decide, by decide, ab_in 563 (by decide +kernel) (by decide +kernel)⟩
theorem gfRX0_318 : ab_L RX0 318 2 14 := ⟨by decide, by decide, ab_in 447 (by decide +kernel) (by decide +kernel)⟩
theorem gfRX0_49 : ab_L RX0 49 0 1 := ⟨by decide, by decide, ab_in 544 (by decide +kernel) (by decide +kernel)⟩
theorem gfRX0_100 : ab_L RX0 100 10 3 := ⟨by decide, by decide, ab_in 318 (by decide +kernel) (by decide +kernel)⟩
theorem gfRX0_359 : ab_L RX0 359 3 0 := ⟨by decide, by decide, ab_in 177 (by decide +kernel) (by decide +kernel)⟩
theorem mlRX0_350 : Cond.methodLink RX0 350 yX4_place ∈ ab_G ∧ Cond.instanceMethod yX4_place ∈ ab_G ∧ Cond.selects RX4 yX4_place yX4_place ∈ ab_G := ⟨ab_in 1412 (by decide +kernel) (by decide +kernel), ab_in 872 (by decide +kernel) (by decide +kernel), ab_in 873 (by decide +kernel) (by decide +kernel)⟩
theorem gfRX0_369 : ab_L RX0 369 2 4 := ⟨by decide, by decide, ab_in 418 (by decide +kernel) (by decide +kernel)⟩
theorem mlRX0_266 : Cond.methodLink RX0 266 yX3_burningRooms ∈ ab_G ∧ Cond.instanceMethod yX3_burningRooms ∈ ab_G ∧ Cond.selects RX3 yX3_burningRooms yX3_burningRooms ∈ ab_G := ⟨ab_in 1377 (by decide +kernel) (by decide +kernel), ab_in 884 (by decide +kernel) (by decide +kernel), ab_in 885 (by decide +kernel) (by decide +kernel)⟩
theorem gfRX0_30 : ab_L RX0 30 0 8 := ⟨by decide, by decide, ab_in 558 (by decide +kernel) (by decide +kernel)⟩
theorem mlRX0_173 : Cond.methodLink RX0 173 yX9_run ∈ ab_G ∧ Cond.instanceMethod yX9_run ∈ ab_G ∧ Cond.selects RX9 yX9_run yX9_run ∈ ab_G := ⟨ab_in 1073 (by decide +kernel) (by decide +kernel), ab_in 1074 (by decide +kernel) (by decide +kernel), ab_in 1075 (by decide +kernel) (by decide +kernel)⟩
theorem mlRX0_372 : Cond.methodLink RX0 372 yX9_holds ∈ ab_G ∧ Cond.instanceMethod yX9_holds ∈ ab_G ∧ Cond.selects RX9 yX9_holds yX9_holds ∈ ab_G := ⟨ab_in 1424 (by decide +kernel) (by decide +kernel), ab_in 1425 (by decide +kernel) (by decide +kernel), ab_in 1426 (by decide +kernel) (by decide +kernel)⟩
theorem mlRX0_341 : Cond.methodLink RX0 341 yX4_floorOf ∈ ab_G ∧ Cond.instanceMethod yX4_floorOf ∈ ab_G ∧ Cond.selects RX4 yX4_floorOf yX4_floorOf ∈ ab_G := ⟨ab_in 1418 (by decide +kernel) (by decide +kernel), ab_in 900 (by decide +kernel) (by decide +kernel), ab_in 901 (by decide +kernel) (by decide +kernel)⟩
theorem mlRX0_362 : Cond.methodLink RX0 362 yX4_limit ∈ ab_G ∧ Cond.instanceMethod yX4_limit ∈ ab_G ∧ Cond.selects RX4 yX4_limit yX4_limit ∈ ab_G := ⟨ab_in 1419 (by decide +kernel) (by decide +kernel), ab_in 1420 (by decide +kernel) (by decide +kernel), ab_in 1421 (by decide +kernel) (by decide +kernel)⟩
theorem mlRX0_365 : Cond.methodLink RX0 365 yX3_load ∈ ab_G ∧ Cond.instanceMethod yX3_load ∈ ab_G ∧ Cond.selects RX3 yX3_load yX3_load ∈ ab_G := ⟨ab_in 1423 (by decide +kernel) (by decide +kernel), ab_in 922 (by decide +kernel) (by decide +kernel), ab_in 923 (by decide +kernel) (by decide +kernel)⟩
abbrev MX0_isLeaving : ab_M := (yX0_isLeaving, cX0_isLeaving, 6, (some .boolean))
theorem dX0_isLeaving_0 : decode cX0_isLeaving 0 = .ok (.aload_n 2, 1) := by decide +kernel
theorem dX0_isLeaving_1 : decode cX0_isLeaving 1 = .ok (.iload_n 3, 1) := by decide +kernel
theorem dX0_isLeaving_2 : decode cX0_isLeaving 2 = .ok (.invokevirtual 341, 3) := by decide +kernel
theorem dX0_isLeaving_5 : decode cX0_isLeaving 5 = .ok (.istore 4, 2) := by decide +kernel
theorem dX0_isLeaving_7 : decode cX0_isLeaving 7 = .ok (.aload_n 2, 1) := by decide +kernel
theorem dX0_isLeaving_8 : decode cX0_isLeaving 8 = .ok (.invokevirtual 362, 3) := by decide +kernel
theorem dX0_isLeaving_11 : decode cX0_isLeaving 11 = .ok (.istore 5, 2) := by decide +kernel
theorem dX0_isLeaving_13 : decode cX0_isLeaving 13 = .ok (.aload_n 0, 1) := by decide +kernel
theorem dX0_isLeaving_14 : decode cX0_isLeaving 14 = .ok (.getfield 35, 3) := by decide +kernel
theorem dX0_isLeaving_17 : decode cX0_isLeaving 17 = .ok (.iconst 0, 1) := by decide +kernel
theorem dX0_isLeaving_18 : decode cX0_isLeaving 18 = .ok (.iload 4, 2) := by decide +kernel
theorem dX0_isLeaving_20 : decode cX0_isLeaving 20 = .ok (.iastore, 1) := by decide +kernel
theorem dX0_isLeaving_21 : decode cX0_isLeaving 21 = .ok (.aload_n 0, 1) := by decide +kernel
theorem dX0_isLeaving_22 : decode cX0_isLeaving 22 = .ok (.getfield 35, 3) := by decide +kernel
theorem dX0_isLeaving_25 : decode cX0_isLeaving 25 = .ok (.iconst 1, 1) := by decide +kernel
theorem dX0_isLeaving_26 : decode cX0_isLeaving 26 = .ok (.iload 5, 2) := by decide +kernel
theorem dX0_isLeaving_28 : decode cX0_isLeaving 28 = .ok (.iconst 1, 1) := by decide +kernel
theorem dX0_isLeaving_29 : decode cX0_isLeaving 29 = .ok (.if_icmp .ge 7, 3) := by decide +kernel
theorem dX0_isLeaving_32 : decode cX0_isLeaving 32 = .ok (.iconst 0, 1) := by decide +kernel
theorem dX0_isLeaving_33 : decode cX0_isLeaving 33 = .ok (.goto 22, 3) := by decide +kernel
theorem dX0_isLeaving_36 : decode cX0_isLeaving 36 = .ok (.aload_n 0, 1) := by decide +kernel
theorem dX0_isLeaving_37 : decode cX0_isLeaving 37 = .ok (.getfield 49, 3) := by decide +kernel
theorem dX0_isLeaving_40 : decode cX0_isLeaving 40 = .ok (.getfield 100, 3) := by decide +kernel
theorem dX0_isLeaving_43 : decode cX0_isLeaving 43 = .ok (.aload_n 2, 1) := by decide +kernel
theorem dX0_isLeaving_44 : decode cX0_isLeaving 44 = .ok (.iload 4, 2) := by decide +kernel
theorem dX0_isLeaving_46 : decode cX0_isLeaving 46 = .ok (.invokevirtual 365, 3) := by decide +kernel
theorem dX0_isLeaving_49 : decode cX0_isLeaving 49 = .ok (.bipush 100, 2) := by decide +kernel
theorem dX0_isLeaving_51 : decode cX0_isLeaving 51 = .ok (.imul, 1) := by decide +kernel
theorem dX0_isLeaving_52 : decode cX0_isLeaving 52 = .ok (.iload 5, 2) := by decide +kernel
theorem dX0_isLeaving_54 : decode cX0_isLeaving 54 = .ok (.idiv, 1) := by decide +kernel
theorem dX0_isLeaving_55 : decode cX0_isLeaving 55 = .ok (.iastore, 1) := by decide +kernel
theorem dX0_isLeaving_56 : decode cX0_isLeaving 56 = .ok (.aload_n 0, 1) := by decide +kernel
theorem dX0_isLeaving_57 : decode cX0_isLeaving 57 = .ok (.getfield 35, 3) := by decide +kernel
theorem dX0_isLeaving_60 : decode cX0_isLeaving 60 = .ok (.iconst 2, 1) := by decide +kernel
theorem dX0_isLeaving_61 : decode cX0_isLeaving 61 = .ok (.aload_n 0, 1) := by decide +kernel
theorem dX0_isLeaving_62 : decode cX0_isLeaving 62 = .ok (.getfield 144, 3) := by decide +kernel
theorem dX0_isLeaving_65 : decode cX0_isLeaving 65 = .ok (.aload_n 1, 1) := by decide +kernel
theorem dX0_isLeaving_66 : decode cX0_isLeaving 66 = .ok (.getfield 318, 3) := by decide +kernel
theorem dX0_isLeaving_69 : decode cX0_isLeaving 69 = .ok (.isub, 1) := by decide +kernel
theorem dX0_isLeaving_70 : decode cX0_isLeaving 70 = .ok (.iastore, 1) := by decide +kernel
theorem dX0_isLeaving_71 : decode cX0_isLeaving 71 = .ok (.aload_n 0, 1) := by decide +kernel
theorem dX0_isLeaving_72 : decode cX0_isLeaving 72 = .ok (.getfield 35, 3) := by decide +kernel
theorem dX0_isLeaving_75 : decode cX0_isLeaving 75 = .ok (.iconst 3, 1) := by decide +kernel
theorem dX0_isLeaving_76 : decode cX0_isLeaving 76 = .ok (.aload_n 0, 1) := by decide +kernel
theorem dX0_isLeaving_77 : decode cX0_isLeaving 77 = .ok (.getfield 49, 3) := by decide +kernel
theorem dX0_isLeaving_80 : decode cX0_isLeaving 80 = .ok (.getfield 100, 3) := by decide +kernel
theorem dX0_isLeaving_83 : decode cX0_isLeaving 83 = .ok (.getfield 359, 3) := by decide +kernel
theorem dX0_isLeaving_86 : decode cX0_isLeaving 86 = .ok (.aload_n 2, 1) := by decide +kernel
theorem dX0_isLeaving_87 : decode cX0_isLeaving 87 = .ok (.iload_n 3, 1) := by decide +kernel
theorem dX0_isLeaving_88 : decode cX0_isLeaving 88 = .ok (.invokevirtual 350, 3) := by decide +kernel
theorem dX0_isLeaving_91 : decode cX0_isLeaving 91 = .ok (.iaload, 1) := by decide +kernel
theorem dX0_isLeaving_92 : decode cX0_isLeaving 92 = .ok (.iastore, 1) := by decide +kernel
theorem dX0_isLeaving_93 : decode cX0_isLeaving 93 = .ok (.aload_n 0, 1) := by decide +kernel
theorem dX0_isLeaving_94 : decode cX0_isLeaving 94 = .ok (.getfield 35, 3) := by decide +kernel
theorem dX0_isLeaving_97 : decode cX0_isLeaving 97 = .ok (.iconst 4, 1) := by decide +kernel
theorem dX0_isLeaving_98 : decode cX0_isLeaving 98 = .ok (.aload_n 1, 1) := by decide +kernel
theorem dX0_isLeaving_99 : decode cX0_isLeaving 99 = .ok (.getfield 369, 3) := by decide +kernel
theorem dX0_isLeaving_102 : decode cX0_isLeaving 102 = .ok (.iastore, 1) := by decide +kernel
theorem dX0_isLeaving_103 : decode cX0_isLeaving 103 = .ok (.aload_n 0, 1) := by decide +kernel
theorem dX0_isLeaving_104 : decode cX0_isLeaving 104 = .ok (.getfield 35, 3) := by decide +kernel
theorem dX0_isLeaving_107 : decode cX0_isLeaving 107 = .ok (.iconst 5, 1) := by decide +kernel
theorem dX0_isLeaving_108 : decode cX0_isLeaving 108 = .ok (.aload_n 0, 1) := by decide +kernel
theorem dX0_isLeaving_109 : decode cX0_isLeaving 109 = .ok (.getfield 49, 3) := by decide +kernel
theorem dX0_isLeaving_112 : decode cX0_isLeaving 112 = .ok (.getfield 100, 3) := by decide +kernel
theorem dX0_isLeaving_115 : decode cX0_isLeaving 115 = .ok (.aload_n 2, 1) := by decide +kernel
theorem dX0_isLeaving_116 : decode cX0_isLeaving 116 = .ok (.invokevirtual 266, 3) := by decide +kernel
theorem dX0_isLeaving_119 : decode cX0_isLeaving 119 = .ok (.iastore, 1) := by decide +kernel
theorem dX0_isLeaving_120 : decode cX0_isLeaving 120 = .ok (.aload_n 0, 1) := by decide +kernel
theorem dX0_isLeaving_121 : decode cX0_isLeaving 121 = .ok (.getfield 30, 3) := by decide +kernel
theorem dX0_isLeaving_124 : decode cX0_isLeaving 124 = .ok (.aload_n 0, 1) := by decide +kernel
theorem dX0_isLeaving_125 : decode cX0_isLeaving 125 = .ok (.getfield 35, 3) := by decide +kernel
theorem dX0_isLeaving_128 : decode cX0_isLeaving 128 = .ok (.invokevirtual 173, 3) := by decide +kernel
theorem dX0_isLeaving_131 : decode cX0_isLeaving 131 = .ok (.aload_n 0, 1) := by decide +kernel
theorem dX0_isLeaving_132 : decode cX0_isLeaving 132 = .ok (.getfield 30, 3) := by decide +kernel
theorem dX0_isLeaving_135 : decode cX0_isLeaving 135 = .ok (.invokevirtual 372, 3) := by decide +kernel
theorem dX0_isLeaving_138 : decode cX0_isLeaving 138 = .ok (.ireturn, 1) := by decide +kernel
theorem okX0_isLeaving : ab_okM MX0_isLeaving 3 := ⟨by decide, ⟨by decide, by decide⟩, ab_in 1417 (by decide +kernel) (by decide +kernel), ab_in 92 (by decide +kernel) (by decide +kernel), by decide +kernel, by decide⟩
set_option maxHeartbeats 4000000 in
set_option maxRecDepth 100000 in
theorem sX0_isLeaving_55 (v1 : Nat) (v2 : Nat) (v3 : Int32) (s1 : Int32) (s2 : Int32) (hv1 : isW v1) (hv2 : isH v2) (x : ab_X) (K : Int32 → ab_X → Prop)  (d bc bs : Nat) (hdp : 3 ≤ d)  (h : wX0_isLeaving_55 v1 v2 v3 s1 s2 x K ) : EW MX0_isLeaving 55 [(0, .ref 66), (1, .ref v1), (2, .ref v2), (3, .int v3)] [.int s2, .int s1, .ref 79] (aS x) d bc bs (liI K) := by
  unfold wX0_isLeaving_55 at h
  obtain ⟨b5, h⟩ := h
  refine AW_iast (pc2 := 56) rfl dX0_isLeaving_55 q79 b5 ?_
  refine EW_aload_n (pc2 := 57) rfl dX0_isLeaving_56 0 rfl ?_
  refine AW_getr (r := 79) ⟨gfRX0_35, rfl⟩ (pc2 := 60) rfl dX0_isLeaving_57 q66 rfl ?_
  refine EW_iconst (pc2 := 61) (v := 2) rfl dX0_isLeaving_60 (by decide) ?_
  refine EW_aload_n (pc2 := 62) rfl dX0_isLeaving_61 0 rfl ?_
  refine AW_geti ⟨gfRX0_144, rfl⟩ (pc2 := 65) rfl dX0_isLeaving_62 q66 ?_
  refine EW_aload_n (pc2 := 66) rfl dX0_isLeaving_65 1 rfl ?_
  refine AW_geti ⟨gfRX0_318, rfl⟩ (pc2 := 69) rfl dX0_isLeaving_66 (isW.o hv1) ?_
  refine EW_isub (pc2 := 70) rfl dX0_isLeaving_69 ?_
  obtain ⟨b6, h⟩ := h
  refine AW_iast (pc2 := 71) rfl dX0_isLeaving_70 q79 b6 ?_
  refine EW_aload_n (pc2 := 72) rfl dX0_isLeaving_71 0 rfl ?_
  refine AW_getr (r := 79) ⟨gfRX0_35, rfl⟩ (pc2 := 75) rfl dX0_isLeaving_72 q66 rfl ?_
  refine EW_iconst (pc2 := 76) (v := 3) rfl dX0_isLeaving_75 (by decide) ?_
  refine EW_aload_n (pc2 := 77) rfl dX0_isLeaving_76 0 rfl ?_
  refine AW_getr (r := 9) ⟨gfRX0_49, rfl⟩ (pc2 := 80) rfl dX0_isLeaving_77 q66 rfl ?_
  refine AW_getr (r := 11) ⟨gfRX0_100, rfl⟩ (pc2 := 83) rfl dX0_isLeaving_80 q9 rfl ?_
  refine AW_getr (r := 12) ⟨gfRX0_359, rfl⟩ (pc2 := 86) rfl dX0_isLeaving_83 q11 rfl ?_
  refine EW_aload_n (pc2 := 87) rfl dX0_isLeaving_86 2 rfl ?_
  refine EW_iload_n (pc2 := 88) rfl dX0_isLeaving_87 3 rfl ?_
  refine AW_invV (M' := MX4_place) [.int v3] (rest := [.ref 12, .int 3, .ref 79]) mlRX0_350 okX4_place (pc2 := 91) rfl dX0_isLeaving_88 rfl rfl (Nat.le_of_ble_eq_true rfl) (Nat.le_of_ble_eq_true rfl) (d' := 0) (by omega) (isH.o hv2) ⟨by decide, rfl⟩ (EW_mono (fun _ _ hr => ?_) (sX4_place v2 v3 hv2 (wr (wr x 79 (Int32.toNatClampNeg s1) s2) 79 (Int32.toNatClampNeg 2) (((wr x 79 (Int32.toNatClampNeg s1) s2).1 66 12) - ((wr x 79 (Int32.toNatClampNeg s1) s2).1 v1 14))) _ _ 0 0 (Nat.le_refl _) h))
  obtain ⟨r7, rfl, rfl, h⟩ := hr
  obtain ⟨b8, h⟩ := h
  refine AW_iald (pc2 := 92) rfl dX0_isLeaving_91 q12 b8 ?_
  obtain ⟨b9, h⟩ := h
  refine AW_iast (pc2 := 93) rfl dX0_isLeaving_92 q79 b9 ?_
  refine EW_aload_n (pc2 := 94) rfl dX0_isLeaving_93 0 rfl ?_
  refine AW_getr (r := 79) ⟨gfRX0_35, rfl⟩ (pc2 := 97) rfl dX0_isLeaving_94 q66 rfl ?_
  refine EW_iconst (pc2 := 98) (v := 4) rfl dX0_isLeaving_97 (by decide) ?_
  refine EW_aload_n (pc2 := 99) rfl dX0_isLeaving_98 1 rfl ?_
  refine AW_geti ⟨gfRX0_369, rfl⟩ (pc2 := 102) rfl dX0_isLeaving_99 (isW.o hv1) ?_
  obtain ⟨b10, h⟩ := h
  refine AW_iast (pc2 := 103) rfl dX0_isLeaving_102 q79 b10 ?_
  refine EW_aload_n (pc2 := 104) rfl dX0_isLeaving_103 0 rfl ?_
  refine AW_getr (r := 79) ⟨gfRX0_35, rfl⟩ (pc2 := 107) rfl dX0_isLeaving_104 q66 rfl ?_
  refine EW_iconst (pc2 := 108) (v := 5) rfl dX0_isLeaving_107 (by decide) ?_
  refine EW_aload_n (pc2 := 109) rfl dX0_isLeaving_108 0 rfl ?_
  refine AW_getr (r := 9) ⟨gfRX0_49, rfl⟩ (pc2 := 112) rfl dX0_isLeaving_109 q66 rfl ?_
  refine AW_getr (r := 11) ⟨gfRX0_100, rfl⟩ (pc2 := 115) rfl dX0_isLeaving_112 q9 rfl ?_
  refine EW_aload_n (pc2 := 116) rfl dX0_isLeaving_115 2 rfl ?_
  refine AW_invV (M' := MX3_burningRooms) [.ref v2] (rest := [.int 5, .ref 79]) mlRX0_266 okX3_burningRooms (pc2 := 119) rfl dX0_isLeaving_116 rfl rfl (Nat.le_of_ble_eq_true rfl) (Nat.le_of_ble_eq_true rfl) (d' := 1) (by omega) q11 ⟨by decide, rfl⟩ (EW_mono (fun _ _ hr => ?_) (sX3_burningRooms 11 v2 (Or.inl rfl : isF 11) hv2 (wr (wr (wr (wr x 79 (Int32.toNatClampNeg s1) s2) 79 (Int32.toNatClampNeg 2) (((wr x 79 (Int32.toNatClampNeg s1) s2).1 66 12) - ((wr x 79 (Int32.toNatClampNeg s1) s2).1 v1 14))) 79 (Int32.toNatClampNeg 3) ((wr (wr x 79 (Int32.toNatClampNeg s1) s2) 79 (Int32.toNatClampNeg 2) (((wr x 79 (Int32.toNatClampNeg s1) s2).1 66 12) - ((wr x 79 (Int32.toNatClampNeg s1) s2).1 v1 14))).1 12 (Int32.toNatClampNeg r7))) 79 (Int32.toNatClampNeg 4) ((wr (wr (wr x 79 (Int32.toNatClampNeg s1) s2) 79 (Int32.toNatClampNeg 2) (((wr x 79 (Int32.toNatClampNeg s1) s2).1 66 12) - ((wr x 79 (Int32.toNatClampNeg s1) s2).1 v1 14))) 79 (Int32.toNatClampNeg 3) ((wr (wr x 79 (Int32.toNatClampNeg s1) s2) 79 (Int32.toNatClampNeg 2) (((wr x 79 (Int32.toNatClampNeg s1) s2).1 66 12) - ((wr x 79 (Int32.toNatClampNeg s1) s2).1 v1 14))).1 12 (Int32.toNatClampNeg r7))).1 v1 4)) _ _ 0 0 (Nat.le_refl _) h))
  obtain ⟨r11, rfl, rfl, h⟩ := hr
  obtain ⟨b12, h⟩ := h
  refine AW_iast (pc2 := 120) rfl dX0_isLeaving_119 q79 b12 ?_
  refine EW_aload_n (pc2 := 121) rfl dX0_isLeaving_120 0 rfl ?_
  refine AW_getr (r := 74) ⟨gfRX0_30, rfl⟩ (pc2 := 124) rfl dX0_isLeaving_121 q66 rfl ?_
  refine EW_aload_n (pc2 := 125) rfl dX0_isLeaving_124 0 rfl ?_
  refine AW_getr (r := 79) ⟨gfRX0_35, rfl⟩ (pc2 := 128) rfl dX0_isLeaving_125 q66 rfl ?_
  refine AW_invV (M' := MX9_run) [.ref 79] (rest := []) mlRX0_173 okX9_run (pc2 := 131) rfl dX0_isLeaving_128 rfl rfl (Nat.le_of_ble_eq_true rfl) (Nat.le_of_ble_eq_true rfl) (d' := 2) (by omega) q74 ⟨by decide, rfl⟩ (EW_mono (fun _ _ hr => ?_) (sX9_run 74 79 (Or.inr (Or.inl rfl) : isT 74) (Or.inl rfl : isLA 79) (wr (wr (wr (wr (wr x 79 (Int32.toNatClampNeg s1) s2) 79 (Int32.toNatClampNeg 2) (((wr x 79 (Int32.toNatClampNeg s1) s2).1 66 12) - ((wr x 79 (Int32.toNatClampNeg s1) s2).1 v1 14))) 79 (Int32.toNatClampNeg 3) ((wr (wr x 79 (Int32.toNatClampNeg s1) s2) 79 (Int32.toNatClampNeg 2) (((wr x 79 (Int32.toNatClampNeg s1) s2).1 66 12) - ((wr x 79 (Int32.toNatClampNeg s1) s2).1 v1 14))).1 12 (Int32.toNatClampNeg r7))) 79 (Int32.toNatClampNeg 4) ((wr (wr (wr x 79 (Int32.toNatClampNeg s1) s2) 79 (Int32.toNatClampNeg 2) (((wr x 79 (Int32.toNatClampNeg s1) s2).1 66 12) - ((wr x 79 (Int32.toNatClampNeg s1) s2).1 v1 14))) 79 (Int32.toNatClampNeg 3) ((wr (wr x 79 (Int32.toNatClampNeg s1) s2) 79 (Int32.toNatClampNeg 2) (((wr x 79 (Int32.toNatClampNeg s1) s2).1 66 12) - ((wr x 79 (Int32.toNatClampNeg s1) s2).1 v1 14))).1 12 (Int32.toNatClampNeg r7))).1 v1 4)) 79 (Int32.toNatClampNeg 5) r11) _ _ 0 0 (Nat.le_refl _) h))
  obtain ⟨x13, rfl, rfl, h⟩ := hr
  refine EW_aload_n (pc2 := 132) rfl dX0_isLeaving_131 0 rfl ?_
  refine AW_getr (r := 74) ⟨gfRX0_30, rfl⟩ (pc2 := 135) rfl dX0_isLeaving_132 q66 rfl ?_
  refine AW_invV (M' := MX9_holds) [] (rest := []) mlRX0_372 okX9_holds (pc2 := 138) rfl dX0_isLeaving_135 rfl rfl (Nat.le_of_ble_eq_true rfl) (Nat.le_of_ble_eq_true rfl) (d' := 0) (by omega) q74 ⟨by decide, rfl⟩ (EW_mono (fun _ _ hr => ?_) (sX9_holds 74 (Or.inr (Or.inl rfl) : isT 74) x13 _ _ 0 0 (Nat.le_refl _) h))
  obtain ⟨r14, rfl, rfl, h⟩ := hr
  obtain ⟨z15, h⟩ := h
  exact AW_zret rfl z15 dX0_isLeaving_138 ⟨_, _, rfl, rfl, h⟩
set_option maxHeartbeats 4000000 in
set_option maxRecDepth 100000 in
theorem sX0_isLeaving (v1 : Nat) (v2 : Nat) (v3 : Int32) (hv1 : isW v1) (hv2 : isH v2) (x : ab_X) (K : Int32 → ab_X → Prop) (d bc bs : Nat) (hdp : 3 ≤ d) (h : wX0_isLeaving v1 v2 v3 x K) : EW MX0_isLeaving 0 [(0, .ref 66), (1, .ref v1), (2, .ref v2), (3, .int v3)] [] (aS x) d bc bs (liI K) := by
  unfold wX0_isLeaving at h
  refine EW_aload_n (pc2 := 1) rfl dX0_isLeaving_0 2 rfl ?_
  refine EW_iload_n (pc2 := 2) rfl dX0_isLeaving_1 3 rfl ?_
  refine AW_invV (M' := MX4_floorOf) [.int v3] (rest := []) mlRX0_341 okX4_floorOf (pc2 := 5) rfl dX0_isLeaving_2 rfl rfl (Nat.le_of_ble_eq_true rfl) (Nat.le_of_ble_eq_true rfl) (d' := 0) (by omega) (isH.o hv2) ⟨by decide, rfl⟩ (EW_mono (fun _ _ hr => ?_) (sX4_floorOf v2 v3 hv2 x _ _ 0 0 (Nat.le_refl _) h))
  obtain ⟨r1, rfl, rfl, h⟩ := hr
  refine EW_istore (pc2 := 7) rfl dX0_isLeaving_5 (by decide) [1, 2, 3, 4, 0] [(0, .ref 66), (1, .ref v1), (2, .ref v2), (3, .int v3), (4, .int r1)] rfl ?_
  refine EW_aload_n (pc2 := 8) rfl dX0_isLeaving_7 2 rfl ?_
  refine AW_invV (M' := MX4_limit) [] (rest := []) mlRX0_362 okX4_limit (pc2 := 11) rfl dX0_isLeaving_8 rfl rfl (Nat.le_of_ble_eq_true rfl) (Nat.le_of_ble_eq_true rfl) (d' := 0) (by omega) (isH.o hv2) ⟨by decide, rfl⟩ (EW_mono (fun _ _ hr => ?_) (sX4_limit v2 hv2 x _ _ 0 0 (Nat.le_refl _) h))
  obtain ⟨r2, rfl, rfl, h⟩ := hr
  refine EW_istore (pc2 := 13) rfl dX0_isLeaving_11 (by decide) [1, 2, 3, 4, 5, 0] [(0, .ref 66), (1, .ref v1), (2, .ref v2), (3, .int v3), (4, .int r1), (5, .int r2)] rfl ?_
  refine EW_aload_n (pc2 := 14) rfl dX0_isLeaving_13 0 rfl ?_
  refine AW_getr (r := 79) ⟨gfRX0_35, rfl⟩ (pc2 := 17) rfl dX0_isLeaving_14 q66 rfl ?_
  refine EW_iconst (pc2 := 18) (v := 0) rfl dX0_isLeaving_17 (by decide) ?_
  refine EW_iload (pc2 := 20) rfl dX0_isLeaving_18 4 rfl ?_
  obtain ⟨b3, h⟩ := h
  refine AW_iast (pc2 := 21) rfl dX0_isLeaving_20 q79 b3 ?_
  refine EW_aload_n (pc2 := 22) rfl dX0_isLeaving_21 0 rfl ?_
  refine AW_getr (r := 79) ⟨gfRX0_35, rfl⟩ (pc2 := 25) rfl dX0_isLeaving_22 q66 rfl ?_
  refine EW_iconst (pc2 := 26) (v := 1) rfl dX0_isLeaving_25 (by decide) ?_
  refine EW_iload (pc2 := 28) rfl dX0_isLeaving_26 5 rfl ?_
  refine EW_iconst (pc2 := 29) (v := 1) rfl dX0_isLeaving_28 (by decide) ?_
  refine EW_icmp_ge (tgt := 36) (pc2 := 32) rfl dX0_isLeaving_29 (by decide) (fun q => ?_) (fun q => ?_)
  · replace h := h.1 q
    refine EW_aload_n (pc2 := 37) rfl dX0_isLeaving_36 0 rfl ?_
    refine AW_getr (r := 9) ⟨gfRX0_49, rfl⟩ (pc2 := 40) rfl dX0_isLeaving_37 q66 rfl ?_
    refine AW_getr (r := 11) ⟨gfRX0_100, rfl⟩ (pc2 := 43) rfl dX0_isLeaving_40 q9 rfl ?_
    refine EW_aload_n (pc2 := 44) rfl dX0_isLeaving_43 2 rfl ?_
    refine EW_iload (pc2 := 46) rfl dX0_isLeaving_44 4 rfl ?_
    refine AW_invV (M' := MX3_load) [.ref v2, .int r1] (rest := [.int 1, .ref 79]) mlRX0_365 okX3_load (pc2 := 49) rfl dX0_isLeaving_46 rfl rfl (Nat.le_of_ble_eq_true rfl) (Nat.le_of_ble_eq_true rfl) (d' := 1) (by omega) q11 ⟨by decide, rfl⟩ (EW_mono (fun _ _ hr => ?_) (sX3_load 11 v2 r1 (Or.inl rfl : isF 11) hv2 (wr x 79 (Int32.toNatClampNeg 0) r1) _ _ 0 0 (Nat.le_refl _) h))
    obtain ⟨r4, rfl, rfl, h⟩ := hr
    refine EW_bipush (pc2 := 51) (v := 100) rfl dX0_isLeaving_49 (by decide) ?_
    refine EW_imul (pc2 := 52) rfl dX0_isLeaving_51 ?_
    refine EW_iload (pc2 := 54) rfl dX0_isLeaving_52 5 rfl ?_
    obtain ⟨hz, h⟩ := h
    refine EW_idiv (pc2 := 55) rfl dX0_isLeaving_54 hz ?_
    refine EW_ls [0, 1, 2, 3] rfl ?_
    exact sX0_isLeaving_55 v1 v2 v3 1 ((r4 * 100) / r2) hv1 hv2 (wr x 79 (Int32.toNatClampNeg 0) r1) K d bc bs hdp h
  · replace h := h.2 q
    refine EW_iconst (pc2 := 33) (v := 0) rfl dX0_isLeaving_32 (by decide) ?_
    refine EW_goto (tgt := 55) dX0_isLeaving_33 (by decide) ?_
    refine EW_ls [0, 1, 2, 3] rfl ?_
    exact sX0_isLeaving_55 v1 v2 v3 1 0 hv1 hv2 (wr x 79 (Int32.toNatClampNeg 0) r1) K d bc bs hdp h
theorem gfRX0_75 : ab_L RX0 75 2 8 := ⟨by decide, by decide, ab_in 428 (by decide +kernel) (by decide +kernel)⟩
theorem gfRX0_78 : ab_L RX0 78 2 12 := ⟨by decide, by decide, ab_in 441 (by decide +kernel) (by decide +kernel)⟩
abbrev MX0_isLed : ab_M := (yX0_isLed, cX0_isLed, 3, (some .boolean))
theorem dX0_isLed_0 : decode cX0_isLed 0 = .ok (.iconst 0, 1) := by decide +kernel
theorem dX0_isLed_1 : decode cX0_isLed 1 = .ok (.istore_n 2, 1) := by decide +kernel
theorem dX0_isLed_2 : decode cX0_isLed 2 = .ok (.iload_n 2, 1) := by decide +kernel
theorem dX0_isLed_3 : decode cX0_isLed 3 = .ok (.aload_n 0, 1) := by decide +kernel
theorem dX0_isLed_4 : decode cX0_isLed 4 = .ok (.getfield 55, 3) := by decide +kernel
theorem dX0_isLed_7 : decode cX0_isLed 7 = .ok (.if_icmp .ge 50, 3) := by decide +kernel
theorem dX0_isLed_10 : decode cX0_isLed 10 = .ok (.aload_n 0, 1) := by decide +kernel
theorem dX0_isLed_11 : decode cX0_isLed 11 = .ok (.getfield 11, 3) := by decide +kernel
theorem dX0_isLed_14 : decode cX0_isLed 14 = .ok (.iload_n 2, 1) := by decide +kernel
theorem dX0_isLed_15 : decode cX0_isLed 15 = .ok (.aaload, 1) := by decide +kernel
theorem dX0_isLed_16 : decode cX0_isLed 16 = .ok (.getfield 63, 3) := by decide +kernel
theorem dX0_isLed_19 : decode cX0_isLed 19 = .ok (.iconst 3, 1) := by decide +kernel
theorem dX0_isLed_20 : decode cX0_isLed 20 = .ok (.if_icmp .ne 31, 3) := by decide +kernel
theorem dX0_isLed_23 : decode cX0_isLed 23 = .ok (.aload_n 0, 1) := by decide +kernel
theorem dX0_isLed_24 : decode cX0_isLed 24 = .ok (.getfield 11, 3) := by decide +kernel
theorem dX0_isLed_27 : decode cX0_isLed 27 = .ok (.iload_n 2, 1) := by decide +kernel
theorem dX0_isLed_28 : decode cX0_isLed 28 = .ok (.aaload, 1) := by decide +kernel
theorem dX0_isLed_29 : decode cX0_isLed 29 = .ok (.getfield 75, 3) := by decide +kernel
theorem dX0_isLed_32 : decode cX0_isLed 32 = .ok (.iconst 2, 1) := by decide +kernel
theorem dX0_isLed_33 : decode cX0_isLed 33 = .ok (.if_icmp .ne 18, 3) := by decide +kernel
theorem dX0_isLed_36 : decode cX0_isLed 36 = .ok (.aload_n 0, 1) := by decide +kernel
theorem dX0_isLed_37 : decode cX0_isLed 37 = .ok (.getfield 11, 3) := by decide +kernel
theorem dX0_isLed_40 : decode cX0_isLed 40 = .ok (.iload_n 2, 1) := by decide +kernel
theorem dX0_isLed_41 : decode cX0_isLed 41 = .ok (.aaload, 1) := by decide +kernel
theorem dX0_isLed_42 : decode cX0_isLed 42 = .ok (.getfield 78, 3) := by decide +kernel
theorem dX0_isLed_45 : decode cX0_isLed 45 = .ok (.iload_n 1, 1) := by decide +kernel
theorem dX0_isLed_46 : decode cX0_isLed 46 = .ok (.if_icmp .ne 5, 3) := by decide +kernel
theorem dX0_isLed_49 : decode cX0_isLed 49 = .ok (.iconst 1, 1) := by decide +kernel
theorem dX0_isLed_50 : decode cX0_isLed 50 = .ok (.ireturn, 1) := by decide +kernel
theorem dX0_isLed_51 : decode cX0_isLed 51 = .ok (.iinc 2 1, 3) := by decide +kernel
theorem dX0_isLed_54 : decode cX0_isLed 54 = .ok (.goto (-52), 3) := by decide +kernel
theorem dX0_isLed_57 : decode cX0_isLed 57 = .ok (.iconst 0, 1) := by decide +kernel
theorem dX0_isLed_58 : decode cX0_isLed 58 = .ok (.ireturn, 1) := by decide +kernel
theorem okX0_isLed : ab_okM MX0_isLed 1 := ⟨by decide, ⟨by decide, by decide⟩, ab_in 1407 (by decide +kernel) (by decide +kernel), ab_in 92 (by decide +kernel) (by decide +kernel), by decide +kernel, by decide⟩
set_option maxHeartbeats 4000000 in
set_option maxRecDepth 100000 in
theorem sX0_isLed_2 (v1 : Int32) (v2 : Int32)  (x : ab_X) (K : Int32 → Prop)  (d bc bs : Nat) (hdp : 0 ≤ d)  (h : Lp1 (lX0_isLed_2 v1 x K ) v2) : EW MX0_isLed 2 [(0, .ref 66), (1, .int v1), (2, .int v2)] [] (aS x) d bc bs (liP x K) := by
  refine Lp1.use (P := fun v2 => EW MX0_isLed 2 [(0, .ref 66), (1, .int v1), (2, .int v2)] [] (aS x) d bc bs (liP x K)) (fun L2 v2 hL2 h => ?_) v2 h
  unfold lX0_isLed_2 at h
  refine EW_iload_n (pc2 := 3) rfl dX0_isLed_2 2 rfl ?_
  refine EW_aload_n (pc2 := 4) rfl dX0_isLed_3 0 rfl ?_
  refine AW_geti ⟨gfRX0_55, rfl⟩ (pc2 := 7) rfl dX0_isLed_4 q66 ?_
  refine EW_icmp_ge (tgt := 57) (pc2 := 10) rfl dX0_isLed_7 (by decide) (fun q => ?_) (fun q => ?_)
  · replace h := h.1 q
    refine EW_iconst (pc2 := 58) (v := 0) rfl dX0_isLed_57 (by decide) ?_
    exact AW_zret rfl isB0 dX0_isLed_58 ⟨_, rfl, rfl, h⟩
  · replace h := h.2 q
    refine EW_aload_n (pc2 := 11) rfl dX0_isLed_10 0 rfl ?_
    refine AW_getr (r := 67) ⟨gfRX0_11, rfl⟩ (pc2 := 14) rfl dX0_isLed_11 q66 rfl ?_
    refine EW_iload_n (pc2 := 15) rfl dX0_isLed_14 2 rfl ?_
    obtain ⟨b1, h⟩ := h
    refine AW_aald6 (pc2 := 16) rfl dX0_isLed_15 b1 ?_
    refine AW_geti ⟨gfRX0_63, rfl⟩ (pc2 := 19) rfl dX0_isLed_16 (isW.o (isW_of b1)) ?_
    refine EW_iconst (pc2 := 20) (v := 3) rfl dX0_isLed_19 (by decide) ?_
    refine EW_icmp_ne (tgt := 51) (pc2 := 23) rfl dX0_isLed_20 (by decide) (fun q => ?_) (fun q => ?_)
    · replace h := h.1 q
      refine EW_iinc (v2 + 1) (pc2 := 54) rfl dX0_isLed_51 2 rfl rfl (by decide) [1, 2, 0] [(0, .ref 66), (1, .int v1), (2, .int (v2 + 1))] rfl ?_
      refine EW_goto (tgt := 2) dX0_isLed_54 (by decide) ?_
      exact hL2 (v2 + 1) h
    · replace h := h.2 q
      refine EW_aload_n (pc2 := 24) rfl dX0_isLed_23 0 rfl ?_
      refine AW_getr (r := 67) ⟨gfRX0_11, rfl⟩ (pc2 := 27) rfl dX0_isLed_24 q66 rfl ?_
      refine EW_iload_n (pc2 := 28) rfl dX0_isLed_27 2 rfl ?_
      obtain ⟨b2, h⟩ := h
      refine AW_aald6 (pc2 := 29) rfl dX0_isLed_28 b2 ?_
      refine AW_geti ⟨gfRX0_75, rfl⟩ (pc2 := 32) rfl dX0_isLed_29 (isW.o (isW_of b2)) ?_
      refine EW_iconst (pc2 := 33) (v := 2) rfl dX0_isLed_32 (by decide) ?_
      refine EW_icmp_ne (tgt := 51) (pc2 := 36) rfl dX0_isLed_33 (by decide) (fun q => ?_) (fun q => ?_)
      · replace h := h.1 q
        refine EW_iinc (v2 + 1) (pc2 := 54) rfl dX0_isLed_51 2 rfl rfl (by decide) [1, 2, 0] [(0, .ref 66), (1, .int v1), (2, .int (v2 + 1))] rfl ?_
        refine EW_goto (tgt := 2) dX0_isLed_54 (by decide) ?_
        exact hL2 (v2 + 1) h
      · replace h := h.2 q
        refine EW_aload_n (pc2 := 37) rfl dX0_isLed_36 0 rfl ?_
        refine AW_getr (r := 67) ⟨gfRX0_11, rfl⟩ (pc2 := 40) rfl dX0_isLed_37 q66 rfl ?_
        refine EW_iload_n (pc2 := 41) rfl dX0_isLed_40 2 rfl ?_
        obtain ⟨b3, h⟩ := h
        refine AW_aald6 (pc2 := 42) rfl dX0_isLed_41 b3 ?_
        refine AW_geti ⟨gfRX0_78, rfl⟩ (pc2 := 45) rfl dX0_isLed_42 (isW.o (isW_of b3)) ?_
        refine EW_iload_n (pc2 := 46) rfl dX0_isLed_45 1 rfl ?_
        refine EW_icmp_ne (tgt := 51) (pc2 := 49) rfl dX0_isLed_46 (by decide) (fun q => ?_) (fun q => ?_)
        · replace h := h.1 q
          refine EW_iinc (v2 + 1) (pc2 := 54) rfl dX0_isLed_51 2 rfl rfl (by decide) [1, 2, 0] [(0, .ref 66), (1, .int v1), (2, .int (v2 + 1))] rfl ?_
          refine EW_goto (tgt := 2) dX0_isLed_54 (by decide) ?_
          exact hL2 (v2 + 1) h
        · replace h := h.2 q
          refine EW_iconst (pc2 := 50) (v := 1) rfl dX0_isLed_49 (by decide) ?_
          exact AW_zret rfl isB1 dX0_isLed_50 ⟨_, rfl, rfl, h⟩
set_option maxHeartbeats 4000000 in
set_option maxRecDepth 100000 in
theorem sX0_isLed (v1 : Int32)  (x : ab_X) (K : Int32 → Prop) (d bc bs : Nat) (hdp : 0 ≤ d) (h : wX0_isLed v1 x K) : EW MX0_isLed 0 [(0, .ref 66), (1, .int v1)] [] (aS x) d bc bs (liP x K) := by
  unfold wX0_isLed at h
  refine EW_iconst (pc2 := 1) (v := 0) rfl dX0_isLed_0 (by decide) ?_
  refine EW_istore_n (pc2 := 2) rfl dX0_isLed_1 (by decide) [1, 2, 0] [(0, .ref 66), (1, .int v1), (2, .int 0)] rfl ?_
  exact sX0_isLed_2 v1 0 x K d bc bs hdp h
theorem gfRX0_353 : ab_L RX0 353 4 4 := ⟨by decide, by decide, ab_in 235 (by decide +kernel) (by decide +kernel)⟩
theorem mlRX0_356 : Cond.methodLink RX0 356 yX3_burns ∈ ab_G ∧ Cond.instanceMethod yX3_burns ∈ ab_G ∧ Cond.selects RX3 yX3_burns yX3_burns ∈ ab_G := ⟨ab_in 1413 (by decide +kernel) (by decide +kernel), ab_in 888 (by decide +kernel) (by decide +kernel), ab_in 889 (by decide +kernel) (by decide +kernel)⟩
theorem gfRX0_347 : ab_L RX0 347 3 2 := ⟨by decide, by decide, ab_in 182 (by decide +kernel) (by decide +kernel)⟩
abbrev MX0_roomFor : ab_M := (yX0_roomFor, cX0_roomFor, 9, (some .int))
theorem dX0_roomFor_0 : decode cX0_roomFor 0 = .ok (.iconst (-1), 1) := by decide +kernel
theorem dX0_roomFor_1 : decode cX0_roomFor 1 = .ok (.istore 4, 2) := by decide +kernel
theorem dX0_roomFor_3 : decode cX0_roomFor 3 = .ok (.iconst 0, 1) := by decide +kernel
theorem dX0_roomFor_4 : decode cX0_roomFor 4 = .ok (.istore 5, 2) := by decide +kernel
theorem dX0_roomFor_6 : decode cX0_roomFor 6 = .ok (.iconst 0, 1) := by decide +kernel
theorem dX0_roomFor_7 : decode cX0_roomFor 7 = .ok (.istore 6, 2) := by decide +kernel
theorem dX0_roomFor_9 : decode cX0_roomFor 9 = .ok (.iload 6, 2) := by decide +kernel
theorem dX0_roomFor_11 : decode cX0_roomFor 11 = .ok (.iload_n 2, 1) := by decide +kernel
theorem dX0_roomFor_12 : decode cX0_roomFor 12 = .ok (.iconst 1, 1) := by decide +kernel
theorem dX0_roomFor_13 : decode cX0_roomFor 13 = .ok (.iadd, 1) := by decide +kernel
theorem dX0_roomFor_14 : decode cX0_roomFor 14 = .ok (.aload_n 1, 1) := by decide +kernel
theorem dX0_roomFor_15 : decode cX0_roomFor 15 = .ok (.getfield 353, 3) := by decide +kernel
theorem dX0_roomFor_18 : decode cX0_roomFor 18 = .ok (.imul, 1) := by decide +kernel
theorem dX0_roomFor_19 : decode cX0_roomFor 19 = .ok (.if_icmp .ge 88, 3) := by decide +kernel
theorem dX0_roomFor_22 : decode cX0_roomFor 22 = .ok (.aload_n 1, 1) := by decide +kernel
theorem dX0_roomFor_23 : decode cX0_roomFor 23 = .ok (.iload 6, 2) := by decide +kernel
theorem dX0_roomFor_25 : decode cX0_roomFor 25 = .ok (.invokevirtual 350, 3) := by decide +kernel
theorem dX0_roomFor_28 : decode cX0_roomFor 28 = .ok (.istore 7, 2) := by decide +kernel
theorem dX0_roomFor_30 : decode cX0_roomFor 30 = .ok (.aload_n 0, 1) := by decide +kernel
theorem dX0_roomFor_31 : decode cX0_roomFor 31 = .ok (.getfield 49, 3) := by decide +kernel
theorem dX0_roomFor_34 : decode cX0_roomFor 34 = .ok (.getfield 100, 3) := by decide +kernel
theorem dX0_roomFor_37 : decode cX0_roomFor 37 = .ok (.iload 7, 2) := by decide +kernel
theorem dX0_roomFor_39 : decode cX0_roomFor 39 = .ok (.invokevirtual 356, 3) := by decide +kernel
theorem dX0_roomFor_42 : decode cX0_roomFor 42 = .ok (.ifCond .eq 59, 3) := by decide +kernel
theorem dX0_roomFor_45 : decode cX0_roomFor 45 = .ok (.aload_n 0, 1) := by decide +kernel
theorem dX0_roomFor_46 : decode cX0_roomFor 46 = .ok (.getfield 49, 3) := by decide +kernel
theorem dX0_roomFor_49 : decode cX0_roomFor 49 = .ok (.getfield 100, 3) := by decide +kernel
theorem dX0_roomFor_52 : decode cX0_roomFor 52 = .ok (.getfield 359, 3) := by decide +kernel
theorem dX0_roomFor_55 : decode cX0_roomFor 55 = .ok (.iload 7, 2) := by decide +kernel
theorem dX0_roomFor_57 : decode cX0_roomFor 57 = .ok (.iaload, 1) := by decide +kernel
theorem dX0_roomFor_58 : decode cX0_roomFor 58 = .ok (.aload_n 0, 1) := by decide +kernel
theorem dX0_roomFor_59 : decode cX0_roomFor 59 = .ok (.getfield 49, 3) := by decide +kernel
theorem dX0_roomFor_62 : decode cX0_roomFor 62 = .ok (.getfield 100, 3) := by decide +kernel
theorem dX0_roomFor_65 : decode cX0_roomFor 65 = .ok (.getfield 347, 3) := by decide +kernel
theorem dX0_roomFor_68 : decode cX0_roomFor 68 = .ok (.iload 7, 2) := by decide +kernel
theorem dX0_roomFor_70 : decode cX0_roomFor 70 = .ok (.iaload, 1) := by decide +kernel
theorem dX0_roomFor_71 : decode cX0_roomFor 71 = .ok (.iconst 4, 1) := by decide +kernel
theorem dX0_roomFor_72 : decode cX0_roomFor 72 = .ok (.idiv, 1) := by decide +kernel
theorem dX0_roomFor_73 : decode cX0_roomFor 73 = .ok (.isub, 1) := by decide +kernel
theorem dX0_roomFor_74 : decode cX0_roomFor 74 = .ok (.istore 8, 2) := by decide +kernel
theorem dX0_roomFor_76 : decode cX0_roomFor 76 = .ok (.iload 4, 2) := by decide +kernel
theorem dX0_roomFor_78 : decode cX0_roomFor 78 = .ok (.iconst (-1), 1) := by decide +kernel
theorem dX0_roomFor_79 : decode cX0_roomFor 79 = .ok (.if_icmp .eq 14, 3) := by decide +kernel
theorem dX0_roomFor_82 : decode cX0_roomFor 82 = .ok (.iload_n 3, 1) := by decide +kernel
theorem dX0_roomFor_83 : decode cX0_roomFor 83 = .ok (.ifCond .eq 18, 3) := by decide +kernel
theorem dX0_roomFor_86 : decode cX0_roomFor 86 = .ok (.iload 8, 2) := by decide +kernel
theorem dX0_roomFor_88 : decode cX0_roomFor 88 = .ok (.iload 5, 2) := by decide +kernel
theorem dX0_roomFor_90 : decode cX0_roomFor 90 = .ok (.if_icmp .le 11, 3) := by decide +kernel
theorem dX0_roomFor_93 : decode cX0_roomFor 93 = .ok (.iload 6, 2) := by decide +kernel
theorem dX0_roomFor_95 : decode cX0_roomFor 95 = .ok (.istore 4, 2) := by decide +kernel
theorem dX0_roomFor_97 : decode cX0_roomFor 97 = .ok (.iload 8, 2) := by decide +kernel
theorem dX0_roomFor_99 : decode cX0_roomFor 99 = .ok (.istore 5, 2) := by decide +kernel
theorem dX0_roomFor_101 : decode cX0_roomFor 101 = .ok (.iinc 6 1, 3) := by decide +kernel
theorem dX0_roomFor_104 : decode cX0_roomFor 104 = .ok (.goto (-95), 3) := by decide +kernel
theorem dX0_roomFor_107 : decode cX0_roomFor 107 = .ok (.iload 4, 2) := by decide +kernel
theorem dX0_roomFor_109 : decode cX0_roomFor 109 = .ok (.ireturn, 1) := by decide +kernel
theorem okX0_roomFor : ab_okM MX0_roomFor 3 := ⟨by decide, ⟨by decide, by decide⟩, ab_in 1411 (by decide +kernel) (by decide +kernel), ab_in 92 (by decide +kernel) (by decide +kernel), by decide +kernel, by decide⟩
set_option maxHeartbeats 4000000 in
set_option maxRecDepth 100000 in
theorem sX0_roomFor_93 (v1 : Nat) (v2 : Int32) (v3 : Int32) (v6 : Int32) (v8 : Int32) (hv1 : isH v1) (x : ab_X) (K : Int32 → Prop) (L9 : Int32 → Int32 → Int32 → Prop) (d bc bs : Nat) (hdp : 1 ≤ d) (hL9 : ∀ (v4 : Int32) (v5 : Int32) (v6 : Int32), L9 v4 v5 v6 → EW MX0_roomFor 9 [(0, .ref 66), (1, .ref v1), (2, .int v2), (3, .int v3), (4, .int v4), (5, .int v5), (6, .int v6)] [] (aS x) d bc bs (liP x K)) (h : wX0_roomFor_93 v1 v2 v3 v6 v8 x K L9) : EW MX0_roomFor 93 [(0, .ref 66), (1, .ref v1), (2, .int v2), (3, .int v3), (6, .int v6), (8, .int v8)] [] (aS x) d bc bs (liP x K) := by
  unfold wX0_roomFor_93 at h
  refine EW_iload (pc2 := 95) rfl dX0_roomFor_93 4 rfl ?_
  refine EW_istore (pc2 := 97) rfl dX0_roomFor_95 (by decide) [1, 2, 3, 4, 0, 5, 6] [(0, .ref 66), (1, .ref v1), (2, .int v2), (3, .int v3), (4, .int v6), (6, .int v6), (8, .int v8)] rfl ?_
  refine EW_iload (pc2 := 99) rfl dX0_roomFor_97 6 rfl ?_
  refine EW_istore (pc2 := 101) rfl dX0_roomFor_99 (by decide) [1, 2, 3, 4, 5, 0, 6, 7] [(0, .ref 66), (1, .ref v1), (2, .int v2), (3, .int v3), (4, .int v6), (5, .int v8), (6, .int v6), (8, .int v8)] rfl ?_
  refine EW_iinc (v6 + 1) (pc2 := 104) rfl dX0_roomFor_101 6 rfl rfl (by decide) [1, 2, 3, 4, 5, 6, 0, 7] [(0, .ref 66), (1, .ref v1), (2, .int v2), (3, .int v3), (4, .int v6), (5, .int v8), (6, .int (v6 + 1)), (8, .int v8)] rfl ?_
  refine EW_goto (tgt := 9) dX0_roomFor_104 (by decide) ?_
  refine EW_ls [0, 1, 2, 3, 4, 5, 6] rfl ?_
  exact hL9 v6 v8 (v6 + 1) h
set_option maxHeartbeats 4000000 in
set_option maxRecDepth 100000 in
theorem sX0_roomFor_9 (v1 : Nat) (v2 : Int32) (v3 : Int32) (v4 : Int32) (v5 : Int32) (v6 : Int32) (hv1 : isH v1) (x : ab_X) (K : Int32 → Prop)  (d bc bs : Nat) (hdp : 1 ≤ d)  (h : Lp3 (lX0_roomFor_9 v1 v2 v3 x K ) v4 v5 v6) : EW MX0_roomFor 9 [(0, .ref 66), (1, .ref v1), (2, .int v2), (3, .int v3), (4, .int v4), (5, .int v5), (6, .int v6)] [] (aS x) d bc bs (liP x K) := by
  refine Lp3.use (P := fun v4 v5 v6 => EW MX0_roomFor 9 [(0, .ref 66), (1, .ref v1), (2, .int v2), (3, .int v3), (4, .int v4), (5, .int v5), (6, .int v6)] [] (aS x) d bc bs (liP x K)) (fun L9 v4 v5 v6 hL9 h => ?_) v4 v5 v6 h
  unfold lX0_roomFor_9 at h
  refine EW_iload (pc2 := 11) rfl dX0_roomFor_9 6 rfl ?_
  refine EW_iload_n (pc2 := 12) rfl dX0_roomFor_11 2 rfl ?_
  refine EW_iconst (pc2 := 13) (v := 1) rfl dX0_roomFor_12 (by decide) ?_
  refine EW_iadd (pc2 := 14) rfl dX0_roomFor_13 ?_
  refine EW_aload_n (pc2 := 15) rfl dX0_roomFor_14 1 rfl ?_
  refine AW_geti ⟨gfRX0_353, rfl⟩ (pc2 := 18) rfl dX0_roomFor_15 (isH.o hv1) ?_
  refine EW_imul (pc2 := 19) rfl dX0_roomFor_18 ?_
  refine EW_icmp_ge (tgt := 107) (pc2 := 22) rfl dX0_roomFor_19 (by decide) (fun q => ?_) (fun q => ?_)
  · replace h := h.1 q
    refine EW_iload (pc2 := 109) rfl dX0_roomFor_107 4 rfl ?_
    exact AW_iret rfl dX0_roomFor_109 ⟨_, rfl, rfl, h⟩
  · replace h := h.2 q
    refine EW_aload_n (pc2 := 23) rfl dX0_roomFor_22 1 rfl ?_
    refine EW_iload (pc2 := 25) rfl dX0_roomFor_23 6 rfl ?_
    refine AW_invV (M' := MX4_place) [.int v6] (rest := []) mlRX0_350 okX4_place (pc2 := 28) rfl dX0_roomFor_25 rfl rfl (Nat.le_of_ble_eq_true rfl) (Nat.le_of_ble_eq_true rfl) (d' := 0) (by omega) (isH.o hv1) ⟨by decide, rfl⟩ (EW_mono (fun _ _ hr => ?_) (sX4_place v1 v6 hv1 x _ _ 0 0 (Nat.le_refl _) h))
    obtain ⟨r1, rfl, rfl, h⟩ := hr
    refine EW_istore (pc2 := 30) rfl dX0_roomFor_28 (by decide) [1, 2, 3, 4, 5, 6, 7, 0] [(0, .ref 66), (1, .ref v1), (2, .int v2), (3, .int v3), (4, .int v4), (5, .int v5), (6, .int v6), (7, .int r1)] rfl ?_
    refine EW_aload_n (pc2 := 31) rfl dX0_roomFor_30 0 rfl ?_
    refine AW_getr (r := 9) ⟨gfRX0_49, rfl⟩ (pc2 := 34) rfl dX0_roomFor_31 q66 rfl ?_
    refine AW_getr (r := 11) ⟨gfRX0_100, rfl⟩ (pc2 := 37) rfl dX0_roomFor_34 q9 rfl ?_
    refine EW_iload (pc2 := 39) rfl dX0_roomFor_37 7 rfl ?_
    refine AW_invV (M' := MX3_burns) [.int r1] (rest := []) mlRX0_356 okX3_burns (pc2 := 42) rfl dX0_roomFor_39 rfl rfl (Nat.le_of_ble_eq_true rfl) (Nat.le_of_ble_eq_true rfl) (d' := 0) (by omega) q11 ⟨by decide, rfl⟩ (EW_mono (fun _ _ hr => ?_) (sX3_burns 11 r1 (Or.inl rfl : isF 11) x _ _ 0 0 (Nat.le_refl _) h))
    obtain ⟨r2, rfl, rfl, h⟩ := hr
    refine EW_if_eq (tgt := 101) (pc2 := 45) rfl dX0_roomFor_42 (by decide) (fun q => ?_) (fun q => ?_)
    · replace h := h.1 q
      refine EW_iinc (v6 + 1) (pc2 := 104) rfl dX0_roomFor_101 6 rfl rfl (by decide) [1, 2, 3, 4, 5, 6, 0, 7] [(0, .ref 66), (1, .ref v1), (2, .int v2), (3, .int v3), (4, .int v4), (5, .int v5), (6, .int (v6 + 1)), (7, .int r1)] rfl ?_
      refine EW_goto (tgt := 9) dX0_roomFor_104 (by decide) ?_
      refine EW_ls [0, 1, 2, 3, 4, 5, 6] rfl ?_
      exact hL9 v4 v5 (v6 + 1) h
    · replace h := h.2 q
      refine EW_aload_n (pc2 := 46) rfl dX0_roomFor_45 0 rfl ?_
      refine AW_getr (r := 9) ⟨gfRX0_49, rfl⟩ (pc2 := 49) rfl dX0_roomFor_46 q66 rfl ?_
      refine AW_getr (r := 11) ⟨gfRX0_100, rfl⟩ (pc2 := 52) rfl dX0_roomFor_49 q9 rfl ?_
      refine AW_getr (r := 12) ⟨gfRX0_359, rfl⟩ (pc2 := 55) rfl dX0_roomFor_52 q11 rfl ?_
      refine EW_iload (pc2 := 57) rfl dX0_roomFor_55 7 rfl ?_
      obtain ⟨b3, h⟩ := h
      refine AW_iald (pc2 := 58) rfl dX0_roomFor_57 q12 b3 ?_
      refine EW_aload_n (pc2 := 59) rfl dX0_roomFor_58 0 rfl ?_
      refine AW_getr (r := 9) ⟨gfRX0_49, rfl⟩ (pc2 := 62) rfl dX0_roomFor_59 q66 rfl ?_
      refine AW_getr (r := 11) ⟨gfRX0_100, rfl⟩ (pc2 := 65) rfl dX0_roomFor_62 q9 rfl ?_
      refine AW_getr (r := 14) ⟨gfRX0_347, rfl⟩ (pc2 := 68) rfl dX0_roomFor_65 q11 rfl ?_
      refine EW_iload (pc2 := 70) rfl dX0_roomFor_68 7 rfl ?_
      obtain ⟨b4, h⟩ := h
      refine AW_iald (pc2 := 71) rfl dX0_roomFor_70 q14 b4 ?_
      refine EW_iconst (pc2 := 72) (v := 4) rfl dX0_roomFor_71 (by decide) ?_
      refine EW_idiv (pc2 := 73) rfl dX0_roomFor_72 (by decide) ?_
      refine EW_isub (pc2 := 74) rfl dX0_roomFor_73 ?_
      refine EW_istore (pc2 := 76) rfl dX0_roomFor_74 (by decide) [1, 2, 3, 4, 5, 6, 7, 8, 0] [(0, .ref 66), (1, .ref v1), (2, .int v2), (3, .int v3), (4, .int v4), (5, .int v5), (6, .int v6), (7, .int r1), (8, .int ((x.1 12 (Int32.toNatClampNeg r1)) - ((x.1 14 (Int32.toNatClampNeg r1)) / 4)))] rfl ?_
      refine EW_iload (pc2 := 78) rfl dX0_roomFor_76 4 rfl ?_
      refine EW_iconst (pc2 := 79) (v := (-1)) rfl dX0_roomFor_78 (by decide) ?_
      refine EW_icmp_eq (tgt := 93) (pc2 := 82) rfl dX0_roomFor_79 (by decide) (fun q => ?_) (fun q => ?_)
      · replace h := h.1 q
        refine EW_ls [0, 1, 2, 3, 6, 8] rfl ?_
        exact sX0_roomFor_93 v1 v2 v3 v6 ((x.1 12 (Int32.toNatClampNeg r1)) - ((x.1 14 (Int32.toNatClampNeg r1)) / 4)) hv1 x K L9 d bc bs hdp hL9 h
      · replace h := h.2 q
        refine EW_iload_n (pc2 := 83) rfl dX0_roomFor_82 3 rfl ?_
        refine EW_if_eq (tgt := 101) (pc2 := 86) rfl dX0_roomFor_83 (by decide) (fun q => ?_) (fun q => ?_)
        · replace h := h.1 q
          refine EW_iinc (v6 + 1) (pc2 := 104) rfl dX0_roomFor_101 6 rfl rfl (by decide) [1, 2, 3, 4, 5, 6, 0, 7, 8] [(0, .ref 66), (1, .ref v1), (2, .int v2), (3, .int v3), (4, .int v4), (5, .int v5), (6, .int (v6 + 1)), (7, .int r1), (8, .int ((x.1 12 (Int32.toNatClampNeg r1)) - ((x.1 14 (Int32.toNatClampNeg r1)) / 4)))] rfl ?_
          refine EW_goto (tgt := 9) dX0_roomFor_104 (by decide) ?_
          refine EW_ls [0, 1, 2, 3, 4, 5, 6] rfl ?_
          exact hL9 v4 v5 (v6 + 1) h
        · replace h := h.2 q
          refine EW_iload (pc2 := 88) rfl dX0_roomFor_86 8 rfl ?_
          refine EW_iload (pc2 := 90) rfl dX0_roomFor_88 5 rfl ?_
          refine EW_icmp_le (tgt := 101) (pc2 := 93) rfl dX0_roomFor_90 (by decide) (fun q => ?_) (fun q => ?_)
          · replace h := h.1 q
            refine EW_iinc (v6 + 1) (pc2 := 104) rfl dX0_roomFor_101 6 rfl rfl (by decide) [1, 2, 3, 4, 5, 6, 0, 7, 8] [(0, .ref 66), (1, .ref v1), (2, .int v2), (3, .int v3), (4, .int v4), (5, .int v5), (6, .int (v6 + 1)), (7, .int r1), (8, .int ((x.1 12 (Int32.toNatClampNeg r1)) - ((x.1 14 (Int32.toNatClampNeg r1)) / 4)))] rfl ?_
            refine EW_goto (tgt := 9) dX0_roomFor_104 (by decide) ?_
            refine EW_ls [0, 1, 2, 3, 4, 5, 6] rfl ?_
            exact hL9 v4 v5 (v6 + 1) h
          · replace h := h.2 q
            refine EW_ls [0, 1, 2, 3, 6, 8] rfl ?_
            exact sX0_roomFor_93 v1 v2 v3 v6 ((x.1 12 (Int32.toNatClampNeg r1)) - ((x.1 14 (Int32.toNatClampNeg r1)) / 4)) hv1 x K L9 d bc bs hdp hL9 h
set_option maxHeartbeats 4000000 in
set_option maxRecDepth 100000 in
theorem sX0_roomFor (v1 : Nat) (v2 : Int32) (v3 : Int32) (hv1 : isH v1) (x : ab_X) (K : Int32 → Prop) (d bc bs : Nat) (hdp : 1 ≤ d) (h : wX0_roomFor v1 v2 v3 x K) : EW MX0_roomFor 0 [(0, .ref 66), (1, .ref v1), (2, .int v2), (3, .int v3)] [] (aS x) d bc bs (liP x K) := by
  unfold wX0_roomFor at h
  refine EW_iconst (pc2 := 1) (v := (-1)) rfl dX0_roomFor_0 (by decide) ?_
  refine EW_istore (pc2 := 3) rfl dX0_roomFor_1 (by decide) [1, 2, 3, 4, 0] [(0, .ref 66), (1, .ref v1), (2, .int v2), (3, .int v3), (4, .int (-1))] rfl ?_
  refine EW_iconst (pc2 := 4) (v := 0) rfl dX0_roomFor_3 (by decide) ?_
  refine EW_istore (pc2 := 6) rfl dX0_roomFor_4 (by decide) [1, 2, 3, 4, 5, 0] [(0, .ref 66), (1, .ref v1), (2, .int v2), (3, .int v3), (4, .int (-1)), (5, .int 0)] rfl ?_
  refine EW_iconst (pc2 := 7) (v := 0) rfl dX0_roomFor_6 (by decide) ?_
  refine EW_istore (pc2 := 9) rfl dX0_roomFor_7 (by decide) [1, 2, 3, 4, 5, 6, 0] [(0, .ref 66), (1, .ref v1), (2, .int v2), (3, .int v3), (4, .int (-1)), (5, .int 0), (6, .int 0)] rfl ?_
  exact sX0_roomFor_9 v1 v2 v3 (-1) 0 0 hv1 x K d bc bs hdp h
abbrev MX11_isCorner : ab_M := (yX11_isCorner, cX11_isCorner, 1, (some .boolean))
theorem dX11_isCorner_0 : decode cX11_isCorner 0 = .ok (.iload_n 0, 1) := by decide +kernel
theorem dX11_isCorner_1 : decode cX11_isCorner 1 = .ok (.ifCond .lt 13, 3) := by decide +kernel
theorem dX11_isCorner_4 : decode cX11_isCorner 4 = .ok (.iload_n 0, 1) := by decide +kernel
theorem dX11_isCorner_5 : decode cX11_isCorner 5 = .ok (.bipush 20, 2) := by decide +kernel
theorem dX11_isCorner_7 : decode cX11_isCorner 7 = .ok (.if_icmp .ge 7, 3) := by decide +kernel
theorem dX11_isCorner_10 : decode cX11_isCorner 10 = .ok (.iconst 1, 1) := by decide +kernel
theorem dX11_isCorner_11 : decode cX11_isCorner 11 = .ok (.goto 4, 3) := by decide +kernel
theorem dX11_isCorner_14 : decode cX11_isCorner 14 = .ok (.iconst 0, 1) := by decide +kernel
theorem dX11_isCorner_15 : decode cX11_isCorner 15 = .ok (.ireturn, 1) := by decide +kernel
theorem okX11_isCorner : ab_okM MX11_isCorner 1 := ⟨by decide, ⟨by decide, by decide⟩, ab_in 769 (by decide +kernel) (by decide +kernel), ab_in 86 (by decide +kernel) (by decide +kernel), by decide +kernel, by decide⟩
set_option maxHeartbeats 4000000 in
set_option maxRecDepth 100000 in
theorem sX11_isCorner (v0 : Int32)  (x : ab_X) (K : Int32 → Prop) (d bc bs : Nat) (hdp : 0 ≤ d) (h : wX11_isCorner v0 x K) : EW MX11_isCorner 0 [(0, .int v0)] [] (aS x) d bc bs (liP x K) := by
  unfold wX11_isCorner at h
  refine EW_iload_n (pc2 := 1) rfl dX11_isCorner_0 0 rfl ?_
  refine EW_if_lt (tgt := 14) (pc2 := 4) rfl dX11_isCorner_1 (by decide) (fun q => ?_) (fun q => ?_)
  · replace h := h.1 q
    refine EW_iconst (pc2 := 15) (v := 0) rfl dX11_isCorner_14 (by decide) ?_
    exact AW_zret rfl isB0 dX11_isCorner_15 ⟨_, rfl, rfl, h⟩
  · replace h := h.2 q
    refine EW_iload_n (pc2 := 5) rfl dX11_isCorner_4 0 rfl ?_
    refine EW_bipush (pc2 := 7) (v := 20) rfl dX11_isCorner_5 (by decide) ?_
    refine EW_icmp_ge (tgt := 14) (pc2 := 10) rfl dX11_isCorner_7 (by decide) (fun q => ?_) (fun q => ?_)
    · replace h := h.1 q
      refine EW_iconst (pc2 := 15) (v := 0) rfl dX11_isCorner_14 (by decide) ?_
      exact AW_zret rfl isB0 dX11_isCorner_15 ⟨_, rfl, rfl, h⟩
    · replace h := h.2 q
      refine EW_iconst (pc2 := 11) (v := 1) rfl dX11_isCorner_10 (by decide) ?_
      refine EW_goto (tgt := 15) dX11_isCorner_11 (by decide) ?_
      exact AW_zret rfl isB1 dX11_isCorner_15 ⟨_, rfl, rfl, h⟩
theorem mlRX6_58 : Cond.methodLinkNest RX6 58 yX11_isCorner "CityBrigade" ∈ tables_1.filter ab_isN ∧ Cond.static yX11_isCorner ∈ ab_G := ⟨List.mem_filter.mpr ⟨List.mem_of_getElem? (i := 700) (by decide +kernel), rfl⟩, ab_in 768 (by decide +kernel) (by decide +kernel)⟩
theorem cnRX6_40 : Cond.constant RX6 40 1000000 ∈ ab_G := ab_in 130 (by decide +kernel) (by decide +kernel)
theorem gfRX6_28 : ab_L RX6 28 6 5 := ⟨by decide, by decide, ab_in 138 (by decide +kernel) (by decide +kernel)⟩
abbrev MX6_walk : ab_M := (yX6_walk, cX6_walk, 3, (some .int))
theorem dX6_walk_0 : decode cX6_walk 0 = .ok (.iload_n 1, 1) := by decide +kernel
theorem dX6_walk_1 : decode cX6_walk 1 = .ok (.invokestatic 58, 3) := by decide +kernel
theorem dX6_walk_4 : decode cX6_walk 4 = .ok (.ifCond .eq 24, 3) := by decide +kernel
theorem dX6_walk_7 : decode cX6_walk 7 = .ok (.iload_n 2, 1) := by decide +kernel
theorem dX6_walk_8 : decode cX6_walk 8 = .ok (.invokestatic 58, 3) := by decide +kernel
theorem dX6_walk_11 : decode cX6_walk 11 = .ok (.ifCond .eq 17, 3) := by decide +kernel
theorem dX6_walk_14 : decode cX6_walk 14 = .ok (.aload_n 0, 1) := by decide +kernel
theorem dX6_walk_15 : decode cX6_walk 15 = .ok (.getfield 28, 3) := by decide +kernel
theorem dX6_walk_18 : decode cX6_walk 18 = .ok (.iload_n 1, 1) := by decide +kernel
theorem dX6_walk_19 : decode cX6_walk 19 = .ok (.bipush 20, 2) := by decide +kernel
theorem dX6_walk_21 : decode cX6_walk 21 = .ok (.imul, 1) := by decide +kernel
theorem dX6_walk_22 : decode cX6_walk 22 = .ok (.iload_n 2, 1) := by decide +kernel
theorem dX6_walk_23 : decode cX6_walk 23 = .ok (.iadd, 1) := by decide +kernel
theorem dX6_walk_24 : decode cX6_walk 24 = .ok (.iaload, 1) := by decide +kernel
theorem dX6_walk_25 : decode cX6_walk 25 = .ok (.goto 5, 3) := by decide +kernel
theorem dX6_walk_28 : decode cX6_walk 28 = .ok (.ldc 40, 2) := by decide +kernel
theorem dX6_walk_30 : decode cX6_walk 30 = .ok (.ireturn, 1) := by decide +kernel
theorem okX6_walk : ab_okM MX6_walk 2 := ⟨by decide, ⟨by decide, by decide⟩, ab_in 784 (by decide +kernel) (by decide +kernel), ab_in 87 (by decide +kernel) (by decide +kernel), by decide +kernel, by decide⟩
set_option maxHeartbeats 4000000 in
set_option maxRecDepth 100000 in
theorem sX6_walk (v1 : Int32) (v2 : Int32)  (x : ab_X) (K : Int32 → Prop) (d bc bs : Nat) (hdp : 1 ≤ d) (h : wX6_walk v1 v2 x K) : EW MX6_walk 0 [(0, .ref 1), (1, .int v1), (2, .int v2)] [] (aS x) d bc bs (liP x K) := by
  unfold wX6_walk at h
  refine EW_iload_n (pc2 := 1) rfl dX6_walk_0 1 rfl ?_
  refine AW_invSN (M' := MX11_isCorner) [.int v1] (rest := []) mlRX6_58 okX11_isCorner (pc2 := 4) rfl dX6_walk_1 rfl rfl (Nat.le_of_ble_eq_true rfl) (Nat.le_of_ble_eq_true rfl) (d' := 0) (by omega) (EW_mono (fun _ _ hr => ?_) (sX11_isCorner v1  x _ _ 0 0 (Nat.le_refl _) h))
  obtain ⟨r1, rfl, rfl, h⟩ := hr
  refine EW_if_eq (tgt := 28) (pc2 := 7) rfl dX6_walk_4 (by decide) (fun q => ?_) (fun q => ?_)
  · replace h := h.1 q
    refine EW_ldc cnRX6_40 (pc2 := 30) rfl dX6_walk_28 ?_
    exact AW_iret rfl dX6_walk_30 ⟨_, rfl, rfl, h⟩
  · replace h := h.2 q
    refine EW_iload_n (pc2 := 8) rfl dX6_walk_7 2 rfl ?_
    refine AW_invSN (M' := MX11_isCorner) [.int v2] (rest := []) mlRX6_58 okX11_isCorner (pc2 := 11) rfl dX6_walk_8 rfl rfl (Nat.le_of_ble_eq_true rfl) (Nat.le_of_ble_eq_true rfl) (d' := 0) (by omega) (EW_mono (fun _ _ hr => ?_) (sX11_isCorner v2  x _ _ 0 0 (Nat.le_refl _) h))
    obtain ⟨r2, rfl, rfl, h⟩ := hr
    refine EW_if_eq (tgt := 28) (pc2 := 14) rfl dX6_walk_11 (by decide) (fun q => ?_) (fun q => ?_)
    · replace h := h.1 q
      refine EW_ldc cnRX6_40 (pc2 := 30) rfl dX6_walk_28 ?_
      exact AW_iret rfl dX6_walk_30 ⟨_, rfl, rfl, h⟩
    · replace h := h.2 q
      refine EW_aload_n (pc2 := 15) rfl dX6_walk_14 0 rfl ?_
      refine AW_getr (r := 7) ⟨gfRX6_28, rfl⟩ (pc2 := 18) rfl dX6_walk_15 q1 rfl ?_
      refine EW_iload_n (pc2 := 19) rfl dX6_walk_18 1 rfl ?_
      refine EW_bipush (pc2 := 21) (v := 20) rfl dX6_walk_19 (by decide) ?_
      refine EW_imul (pc2 := 22) rfl dX6_walk_21 ?_
      refine EW_iload_n (pc2 := 23) rfl dX6_walk_22 2 rfl ?_
      refine EW_iadd (pc2 := 24) rfl dX6_walk_23 ?_
      obtain ⟨b3, h⟩ := h
      refine AW_iald (pc2 := 25) rfl dX6_walk_24 q7 b3 ?_
      refine EW_goto (tgt := 30) dX6_walk_25 (by decide) ?_
      exact AW_iret rfl dX6_walk_30 ⟨_, rfl, rfl, h⟩
theorem gfRX10_74 : ab_L RX10 74 10 9 := ⟨by decide, by decide, ab_in 328 (by decide +kernel) (by decide +kernel)⟩
theorem gfRX10_37 : ab_L RX10 37 10 0 := ⟨by decide, by decide, ab_in 307 (by decide +kernel) (by decide +kernel)⟩
theorem gfRX10_31 : ab_L RX10 31 10 7 := ⟨by decide, by decide, ab_in 325 (by decide +kernel) (by decide +kernel)⟩
theorem mlRX10_78 : Cond.methodLink RX10 78 yX6_walk ∈ ab_G ∧ Cond.instanceMethod yX6_walk ∈ ab_G ∧ Cond.selects RX6 yX6_walk yX6_walk ∈ ab_G := ⟨ab_in 1033 (by decide +kernel) (by decide +kernel), ab_in 782 (by decide +kernel) (by decide +kernel), ab_in 783 (by decide +kernel) (by decide +kernel)⟩
theorem cnRX10_77 : Cond.constant RX10 77 1000000 ∈ ab_G := ab_in 1032 (by decide +kernel) (by decide +kernel)
abbrev MX10_nearestHead : ab_M := (yX10_nearestHead, cX10_nearestHead, 6, (some .int))
theorem dX10_nearestHead_0 : decode cX10_nearestHead 0 = .ok (.iconst (-1), 1) := by decide +kernel
theorem dX10_nearestHead_1 : decode cX10_nearestHead 1 = .ok (.istore_n 2, 1) := by decide +kernel
theorem dX10_nearestHead_2 : decode cX10_nearestHead 2 = .ok (.ldc 77, 2) := by decide +kernel
theorem dX10_nearestHead_4 : decode cX10_nearestHead 4 = .ok (.istore_n 3, 1) := by decide +kernel
theorem dX10_nearestHead_5 : decode cX10_nearestHead 5 = .ok (.iconst 0, 1) := by decide +kernel
theorem dX10_nearestHead_6 : decode cX10_nearestHead 6 = .ok (.istore 4, 2) := by decide +kernel
theorem dX10_nearestHead_8 : decode cX10_nearestHead 8 = .ok (.iload 4, 2) := by decide +kernel
theorem dX10_nearestHead_10 : decode cX10_nearestHead 10 = .ok (.aload_n 0, 1) := by decide +kernel
theorem dX10_nearestHead_11 : decode cX10_nearestHead 11 = .ok (.getfield 74, 3) := by decide +kernel
theorem dX10_nearestHead_14 : decode cX10_nearestHead 14 = .ok (.if_icmp .ge 38, 3) := by decide +kernel
theorem dX10_nearestHead_17 : decode cX10_nearestHead 17 = .ok (.aload_n 0, 1) := by decide +kernel
theorem dX10_nearestHead_18 : decode cX10_nearestHead 18 = .ok (.getfield 37, 3) := by decide +kernel
theorem dX10_nearestHead_21 : decode cX10_nearestHead 21 = .ok (.aload_n 0, 1) := by decide +kernel
theorem dX10_nearestHead_22 : decode cX10_nearestHead 22 = .ok (.getfield 31, 3) := by decide +kernel
theorem dX10_nearestHead_25 : decode cX10_nearestHead 25 = .ok (.iload 4, 2) := by decide +kernel
theorem dX10_nearestHead_27 : decode cX10_nearestHead 27 = .ok (.iaload, 1) := by decide +kernel
theorem dX10_nearestHead_28 : decode cX10_nearestHead 28 = .ok (.iload_n 1, 1) := by decide +kernel
theorem dX10_nearestHead_29 : decode cX10_nearestHead 29 = .ok (.invokevirtual 78, 3) := by decide +kernel
theorem dX10_nearestHead_32 : decode cX10_nearestHead 32 = .ok (.istore 5, 2) := by decide +kernel
theorem dX10_nearestHead_34 : decode cX10_nearestHead 34 = .ok (.iload 5, 2) := by decide +kernel
theorem dX10_nearestHead_36 : decode cX10_nearestHead 36 = .ok (.iload_n 3, 1) := by decide +kernel
theorem dX10_nearestHead_37 : decode cX10_nearestHead 37 = .ok (.if_icmp .ge 9, 3) := by decide +kernel
theorem dX10_nearestHead_40 : decode cX10_nearestHead 40 = .ok (.iload 5, 2) := by decide +kernel
theorem dX10_nearestHead_42 : decode cX10_nearestHead 42 = .ok (.istore_n 3, 1) := by decide +kernel
theorem dX10_nearestHead_43 : decode cX10_nearestHead 43 = .ok (.iload 4, 2) := by decide +kernel
theorem dX10_nearestHead_45 : decode cX10_nearestHead 45 = .ok (.istore_n 2, 1) := by decide +kernel
theorem dX10_nearestHead_46 : decode cX10_nearestHead 46 = .ok (.iinc 4 1, 3) := by decide +kernel
theorem dX10_nearestHead_49 : decode cX10_nearestHead 49 = .ok (.goto (-41), 3) := by decide +kernel
theorem dX10_nearestHead_52 : decode cX10_nearestHead 52 = .ok (.iload_n 2, 1) := by decide +kernel
theorem dX10_nearestHead_53 : decode cX10_nearestHead 53 = .ok (.ireturn, 1) := by decide +kernel
theorem okX10_nearestHead : ab_okM MX10_nearestHead 1 := ⟨by decide, ⟨by decide, by decide⟩, ab_in 1031 (by decide +kernel) (by decide +kernel), ab_in 89 (by decide +kernel) (by decide +kernel), by decide +kernel, by decide⟩
set_option maxHeartbeats 4000000 in
set_option maxRecDepth 100000 in
theorem sX10_nearestHead_8 (v1 : Int32) (v2 : Int32) (v3 : Int32) (v4 : Int32)  (x : ab_X) (K : Int32 → Prop)  (d bc bs : Nat) (hdp : 2 ≤ d)  (h : Lp3 (lX10_nearestHead_8 v1 x K ) v2 v3 v4) : EW MX10_nearestHead 8 [(0, .ref 9), (1, .int v1), (2, .int v2), (3, .int v3), (4, .int v4)] [] (aS x) d bc bs (liP x K) := by
  refine Lp3.use (P := fun v2 v3 v4 => EW MX10_nearestHead 8 [(0, .ref 9), (1, .int v1), (2, .int v2), (3, .int v3), (4, .int v4)] [] (aS x) d bc bs (liP x K)) (fun L8 v2 v3 v4 hL8 h => ?_) v2 v3 v4 h
  unfold lX10_nearestHead_8 at h
  refine EW_iload (pc2 := 10) rfl dX10_nearestHead_8 4 rfl ?_
  refine EW_aload_n (pc2 := 11) rfl dX10_nearestHead_10 0 rfl ?_
  refine AW_geti ⟨gfRX10_74, rfl⟩ (pc2 := 14) rfl dX10_nearestHead_11 q9 ?_
  refine EW_icmp_ge (tgt := 52) (pc2 := 17) rfl dX10_nearestHead_14 (by decide) (fun q => ?_) (fun q => ?_)
  · replace h := h.1 q
    refine EW_iload_n (pc2 := 53) rfl dX10_nearestHead_52 2 rfl ?_
    exact AW_iret rfl dX10_nearestHead_53 ⟨_, rfl, rfl, h⟩
  · replace h := h.2 q
    refine EW_aload_n (pc2 := 18) rfl dX10_nearestHead_17 0 rfl ?_
    refine AW_getr (r := 1) ⟨gfRX10_37, rfl⟩ (pc2 := 21) rfl dX10_nearestHead_18 q9 rfl ?_
    refine EW_aload_n (pc2 := 22) rfl dX10_nearestHead_21 0 rfl ?_
    refine AW_getr (r := 28) ⟨gfRX10_31, rfl⟩ (pc2 := 25) rfl dX10_nearestHead_22 q9 rfl ?_
    refine EW_iload (pc2 := 27) rfl dX10_nearestHead_25 4 rfl ?_
    obtain ⟨b1, h⟩ := h
    refine AW_iald (pc2 := 28) rfl dX10_nearestHead_27 q28 b1 ?_
    refine EW_iload_n (pc2 := 29) rfl dX10_nearestHead_28 1 rfl ?_
    refine AW_invV (M' := MX6_walk) [.int (x.1 28 (Int32.toNatClampNeg v4)), .int v1] (rest := []) mlRX10_78 okX6_walk (pc2 := 32) rfl dX10_nearestHead_29 rfl rfl (Nat.le_of_ble_eq_true rfl) (Nat.le_of_ble_eq_true rfl) (d' := 1) (by omega) q1 ⟨by decide, rfl⟩ (EW_mono (fun _ _ hr => ?_) (sX6_walk (x.1 28 (Int32.toNatClampNeg v4)) v1  x _ _ 0 0 (Nat.le_refl _) h))
    obtain ⟨r2, rfl, rfl, h⟩ := hr
    refine EW_istore (pc2 := 34) rfl dX10_nearestHead_32 (by decide) [1, 2, 3, 4, 5, 0] [(0, .ref 9), (1, .int v1), (2, .int v2), (3, .int v3), (4, .int v4), (5, .int r2)] rfl ?_
    refine EW_iload (pc2 := 36) rfl dX10_nearestHead_34 5 rfl ?_
    refine EW_iload_n (pc2 := 37) rfl dX10_nearestHead_36 3 rfl ?_
    refine EW_icmp_ge (tgt := 46) (pc2 := 40) rfl dX10_nearestHead_37 (by decide) (fun q => ?_) (fun q => ?_)
    · replace h := h.1 q
      refine EW_iinc (v4 + 1) (pc2 := 49) rfl dX10_nearestHead_46 4 rfl rfl (by decide) [1, 2, 3, 4, 0, 5] [(0, .ref 9), (1, .int v1), (2, .int v2), (3, .int v3), (4, .int (v4 + 1)), (5, .int r2)] rfl ?_
      refine EW_goto (tgt := 8) dX10_nearestHead_49 (by decide) ?_
      refine EW_ls [0, 1, 2, 3, 4] rfl ?_
      exact hL8 v2 v3 (v4 + 1) h
    · replace h := h.2 q
      refine EW_iload (pc2 := 42) rfl dX10_nearestHead_40 5 rfl ?_
      refine EW_istore_n (pc2 := 43) rfl dX10_nearestHead_42 (by decide) [1, 2, 3, 0, 4, 5] [(0, .ref 9), (1, .int v1), (2, .int v2), (3, .int r2), (4, .int v4), (5, .int r2)] rfl ?_
      refine EW_iload (pc2 := 45) rfl dX10_nearestHead_43 4 rfl ?_
      refine EW_istore_n (pc2 := 46) rfl dX10_nearestHead_45 (by decide) [1, 2, 0, 3, 4, 5] [(0, .ref 9), (1, .int v1), (2, .int v4), (3, .int r2), (4, .int v4), (5, .int r2)] rfl ?_
      refine EW_iinc (v4 + 1) (pc2 := 49) rfl dX10_nearestHead_46 4 rfl rfl (by decide) [1, 2, 3, 4, 0, 5] [(0, .ref 9), (1, .int v1), (2, .int v4), (3, .int r2), (4, .int (v4 + 1)), (5, .int r2)] rfl ?_
      refine EW_goto (tgt := 8) dX10_nearestHead_49 (by decide) ?_
      refine EW_ls [0, 1, 2, 3, 4] rfl ?_
      exact hL8 v4 r2 (v4 + 1) h
set_option maxHeartbeats 4000000 in
set_option maxRecDepth 100000 in
theorem sX10_nearestHead (v1 : Int32)  (x : ab_X) (K : Int32 → Prop) (d bc bs : Nat) (hdp : 2 ≤ d) (h : wX10_nearestHead v1 x K) : EW MX10_nearestHead 0 [(0, .ref 9), (1, .int v1)] [] (aS x) d bc bs (liP x K) := by
  unfold wX10_nearestHead at h
  refine EW_iconst (pc2 := 1) (v := (-1)) rfl dX10_nearestHead_0 (by decide) ?_
  refine EW_istore_n (pc2 := 2) rfl dX10_nearestHead_1 (by decide) [1, 2, 0] [(0, .ref 9), (1, .int v1), (2, .int (-1))] rfl ?_
  refine EW_ldc cnRX10_77 (pc2 := 4) rfl dX10_nearestHead_2 ?_
  refine EW_istore_n (pc2 := 5) rfl dX10_nearestHead_4 (by decide) [1, 2, 3, 0] [(0, .ref 9), (1, .int v1), (2, .int (-1)), (3, .int 1000000)] rfl ?_
  refine EW_iconst (pc2 := 6) (v := 0) rfl dX10_nearestHead_5 (by decide) ?_
  refine EW_istore (pc2 := 8) rfl dX10_nearestHead_6 (by decide) [1, 2, 3, 4, 0] [(0, .ref 9), (1, .int v1), (2, .int (-1)), (3, .int 1000000), (4, .int 0)] rfl ?_
  exact sX10_nearestHead_8 v1 (-1) 1000000 0 x K d bc bs hdp h
