theorem mmRX3_103 : Cond.methodLink RX3 103 Lib.Math.min.name ∈ ab_G ∧ Cond.static Lib.Math.min.name ∈ ab_G ∧ Cond.initialized "java/lang/Math" ∈ ab_G ∧ Cond.code Lib.Math.min.name Lib.Math.min.code 2 (some .int) ∈ ab_G := ⟨ab_in 1453 (by decide +kernel) (by decide +kernel), ab_in 787 (by decide +kernel) (by decide +kernel), ab_in 100 (by decide +kernel) (by decide +kernel), ab_in 788 (by decide +kernel) (by decide +kernel)⟩
theorem mmRX3_74 : Cond.methodLink RX3 74 Lib.Math.max.name ∈ ab_G ∧ Cond.static Lib.Math.max.name ∈ ab_G ∧ Cond.initialized "java/lang/Math" ∈ ab_G ∧ Cond.code Lib.Math.max.name Lib.Math.max.code 2 (some .int) ∈ ab_G := ⟨ab_in 908 (by decide +kernel) (by decide +kernel), ab_in 909 (by decide +kernel) (by decide +kernel), ab_in 100 (by decide +kernel) (by decide +kernel), ab_in 910 (by decide +kernel) (by decide +kernel)⟩
theorem mlRX3_70 : Cond.methodLink RX3 70 yX3_hasFallen ∈ ab_G ∧ Cond.instanceMethod yX3_hasFallen ∈ ab_G ∧ Cond.selects RX3 yX3_hasFallen yX3_hasFallen ∈ ab_G := ⟨ab_in 938 (by decide +kernel) (by decide +kernel), ab_in 860 (by decide +kernel) (by decide +kernel), ab_in 861 (by decide +kernel) (by decide +kernel)⟩
abbrev MX3_drop : ab_M := (yX3_drop, cX3_drop, 7, none)
theorem dX3_drop_0 : decode cX3_drop 0 = .ok (.aload_n 0, 1) := by decide +kernel
theorem dX3_drop_1 : decode cX3_drop 1 = .ok (.aload_n 1, 1) := by decide +kernel
theorem dX3_drop_2 : decode cX3_drop 2 = .ok (.iload_n 2, 1) := by decide +kernel
theorem dX3_drop_3 : decode cX3_drop 3 = .ok (.iconst 1, 1) := by decide +kernel
theorem dX3_drop_4 : decode cX3_drop 4 = .ok (.isub, 1) := by decide +kernel
theorem dX3_drop_5 : decode cX3_drop 5 = .ok (.invokevirtual 70, 3) := by decide +kernel
theorem dX3_drop_8 : decode cX3_drop 8 = .ok (.istore_n 3, 1) := by decide +kernel
theorem dX3_drop_9 : decode cX3_drop 9 = .ok (.iconst 0, 1) := by decide +kernel
theorem dX3_drop_10 : decode cX3_drop 10 = .ok (.istore 4, 2) := by decide +kernel
theorem dX3_drop_12 : decode cX3_drop 12 = .ok (.iload 4, 2) := by decide +kernel
theorem dX3_drop_14 : decode cX3_drop 14 = .ok (.aload_n 1, 1) := by decide +kernel
theorem dX3_drop_15 : decode cX3_drop 15 = .ok (.getfield 60, 3) := by decide +kernel
theorem dX3_drop_18 : decode cX3_drop 18 = .ok (.if_icmp .ge 109, 3) := by decide +kernel
theorem dX3_drop_21 : decode cX3_drop 21 = .ok (.aload_n 1, 1) := by decide +kernel
theorem dX3_drop_22 : decode cX3_drop 22 = .ok (.iload_n 2, 1) := by decide +kernel
theorem dX3_drop_23 : decode cX3_drop 23 = .ok (.aload_n 1, 1) := by decide +kernel
theorem dX3_drop_24 : decode cX3_drop 24 = .ok (.getfield 60, 3) := by decide +kernel
theorem dX3_drop_27 : decode cX3_drop 27 = .ok (.imul, 1) := by decide +kernel
theorem dX3_drop_28 : decode cX3_drop 28 = .ok (.iload 4, 2) := by decide +kernel
theorem dX3_drop_30 : decode cX3_drop 30 = .ok (.iadd, 1) := by decide +kernel
theorem dX3_drop_31 : decode cX3_drop 31 = .ok (.invokevirtual 63, 3) := by decide +kernel
theorem dX3_drop_34 : decode cX3_drop 34 = .ok (.istore 5, 2) := by decide +kernel
theorem dX3_drop_36 : decode cX3_drop 36 = .ok (.iload 5, 2) := by decide +kernel
theorem dX3_drop_38 : decode cX3_drop 38 = .ok (.aload_n 1, 1) := by decide +kernel
theorem dX3_drop_39 : decode cX3_drop 39 = .ok (.getfield 60, 3) := by decide +kernel
theorem dX3_drop_42 : decode cX3_drop 42 = .ok (.isub, 1) := by decide +kernel
theorem dX3_drop_43 : decode cX3_drop 43 = .ok (.istore 6, 2) := by decide +kernel
theorem dX3_drop_45 : decode cX3_drop 45 = .ok (.aload_n 0, 1) := by decide +kernel
theorem dX3_drop_46 : decode cX3_drop 46 = .ok (.getfield 15, 3) := by decide +kernel
theorem dX3_drop_49 : decode cX3_drop 49 = .ok (.iload 6, 2) := by decide +kernel
theorem dX3_drop_51 : decode cX3_drop 51 = .ok (.sipush 2000, 3) := by decide +kernel
theorem dX3_drop_54 : decode cX3_drop 54 = .ok (.aload_n 0, 1) := by decide +kernel
theorem dX3_drop_55 : decode cX3_drop 55 = .ok (.getfield 15, 3) := by decide +kernel
theorem dX3_drop_58 : decode cX3_drop 58 = .ok (.iload 6, 2) := by decide +kernel
theorem dX3_drop_60 : decode cX3_drop 60 = .ok (.iaload, 1) := by decide +kernel
theorem dX3_drop_61 : decode cX3_drop 61 = .ok (.aload_n 0, 1) := by decide +kernel
theorem dX3_drop_62 : decode cX3_drop 62 = .ok (.getfield 15, 3) := by decide +kernel
theorem dX3_drop_65 : decode cX3_drop 65 = .ok (.iload 5, 2) := by decide +kernel
theorem dX3_drop_67 : decode cX3_drop 67 = .ok (.iaload, 1) := by decide +kernel
theorem dX3_drop_68 : decode cX3_drop 68 = .ok (.iadd, 1) := by decide +kernel
theorem dX3_drop_69 : decode cX3_drop 69 = .ok (.invokestatic 103, 3) := by decide +kernel
theorem dX3_drop_72 : decode cX3_drop 72 = .ok (.iastore, 1) := by decide +kernel
theorem dX3_drop_73 : decode cX3_drop 73 = .ok (.aload_n 0, 1) := by decide +kernel
theorem dX3_drop_74 : decode cX3_drop 74 = .ok (.getfield 9, 3) := by decide +kernel
theorem dX3_drop_77 : decode cX3_drop 77 = .ok (.iload 6, 2) := by decide +kernel
theorem dX3_drop_79 : decode cX3_drop 79 = .ok (.iload_n 3, 1) := by decide +kernel
theorem dX3_drop_80 : decode cX3_drop 80 = .ok (.ifCond .eq 7, 3) := by decide +kernel
theorem dX3_drop_83 : decode cX3_drop 83 = .ok (.iconst 0, 1) := by decide +kernel
theorem dX3_drop_84 : decode cX3_drop 84 = .ok (.goto 20, 3) := by decide +kernel
theorem dX3_drop_87 : decode cX3_drop 87 = .ok (.aload_n 0, 1) := by decide +kernel
theorem dX3_drop_88 : decode cX3_drop 88 = .ok (.getfield 9, 3) := by decide +kernel
theorem dX3_drop_91 : decode cX3_drop 91 = .ok (.iload 6, 2) := by decide +kernel
theorem dX3_drop_93 : decode cX3_drop 93 = .ok (.iaload, 1) := by decide +kernel
theorem dX3_drop_94 : decode cX3_drop 94 = .ok (.aload_n 0, 1) := by decide +kernel
theorem dX3_drop_95 : decode cX3_drop 95 = .ok (.getfield 9, 3) := by decide +kernel
theorem dX3_drop_98 : decode cX3_drop 98 = .ok (.iload 5, 2) := by decide +kernel
theorem dX3_drop_100 : decode cX3_drop 100 = .ok (.iaload, 1) := by decide +kernel
theorem dX3_drop_101 : decode cX3_drop 101 = .ok (.invokestatic 74, 3) := by decide +kernel
theorem dX3_drop_104 : decode cX3_drop 104 = .ok (.iastore, 1) := by decide +kernel
theorem dX3_drop_105 : decode cX3_drop 105 = .ok (.aload_n 0, 1) := by decide +kernel
theorem dX3_drop_106 : decode cX3_drop 106 = .ok (.getfield 15, 3) := by decide +kernel
theorem dX3_drop_109 : decode cX3_drop 109 = .ok (.iload 5, 2) := by decide +kernel
theorem dX3_drop_111 : decode cX3_drop 111 = .ok (.iconst 0, 1) := by decide +kernel
theorem dX3_drop_112 : decode cX3_drop 112 = .ok (.iastore, 1) := by decide +kernel
theorem dX3_drop_113 : decode cX3_drop 113 = .ok (.aload_n 0, 1) := by decide +kernel
theorem dX3_drop_114 : decode cX3_drop 114 = .ok (.getfield 9, 3) := by decide +kernel
theorem dX3_drop_117 : decode cX3_drop 117 = .ok (.iload 5, 2) := by decide +kernel
theorem dX3_drop_119 : decode cX3_drop 119 = .ok (.iconst 0, 1) := by decide +kernel
theorem dX3_drop_120 : decode cX3_drop 120 = .ok (.iastore, 1) := by decide +kernel
theorem dX3_drop_121 : decode cX3_drop 121 = .ok (.iinc 4 1, 3) := by decide +kernel
theorem dX3_drop_124 : decode cX3_drop 124 = .ok (.goto (-112), 3) := by decide +kernel
theorem dX3_drop_127 : decode cX3_drop 127 = .ok (.aload_n 0, 1) := by decide +kernel
theorem dX3_drop_128 : decode cX3_drop 128 = .ok (.getfield 24, 3) := by decide +kernel
theorem dX3_drop_131 : decode cX3_drop 131 = .ok (.aload_n 1, 1) := by decide +kernel
theorem dX3_drop_132 : decode cX3_drop 132 = .ok (.iload_n 2, 1) := by decide +kernel
theorem dX3_drop_133 : decode cX3_drop 133 = .ok (.invokevirtual 50, 3) := by decide +kernel
theorem dX3_drop_136 : decode cX3_drop 136 = .ok (.iconst 1, 1) := by decide +kernel
theorem dX3_drop_137 : decode cX3_drop 137 = .ok (.bastore, 1) := by decide +kernel
theorem dX3_drop_138 : decode cX3_drop 138 = .ok (.return_, 1) := by decide +kernel
theorem okX3_drop : ab_okM MX3_drop 2 := ⟨by decide, ⟨by decide, by decide⟩, ab_in 1472 (by decide +kernel) (by decide +kernel), ab_in 90 (by decide +kernel) (by decide +kernel), by decide +kernel, by decide⟩
set_option maxHeartbeats 4000000 in
set_option maxRecDepth 100000 in
def wX3_drop_104 (v0 : Nat) (v1 : Nat) (v2 : Int32) (v3 : Int32) (v4 : Int32) (v5 : Int32) (s0b : Nat) (s1 : Int32) (s2 : Int32) (x : ab_X) (K : ab_X → Prop) (L12 : Int32 → ab_X → Prop) : Prop := (vp_in s1 288 ∧ vp_in v5 288 ∧ vp_in v5 288 ∧ L12 (v4 + 1) (wr (wr (wr x (s0b + 1) (Int32.toNatClampNeg s1) s2) (v0 + 2) (Int32.toNatClampNeg v5) 0) (v0 + 1) (Int32.toNatClampNeg v5) 0))
set_option maxHeartbeats 4000000 in
set_option maxRecDepth 100000 in
theorem sX3_drop_104 (v0 : Nat) (v1 : Nat) (v2 : Int32) (v3 : Int32) (v4 : Int32) (v5 : Int32) (s0b : Nat) (s1 : Int32) (s2 : Int32) (hv0 : isF v0) (hv1 : isH v1) (hs0b : isF s0b) (x : ab_X) (K : ab_X → Prop) (L12 : Int32 → ab_X → Prop) (d bc bs : Nat) (hdp : 2 ≤ d) (hL12 : ∀ (v4 : Int32) (x : ab_X), L12 v4 x → EW MX3_drop 12 [(0, .ref v0), (1, .ref v1), (2, .int v2), (3, .int v3), (4, .int v4)] [] (aS x) d bc bs (liV K)) (h : wX3_drop_104 v0 v1 v2 v3 v4 v5 s0b s1 s2 x K L12) : EW MX3_drop 104 [(0, .ref v0), (1, .ref v1), (2, .int v2), (3, .int v3), (4, .int v4), (5, .int v5)] [.int s2, .int s1, .ref (s0b + 1)] (aS x) d bc bs (liV K) := by
  unfold wX3_drop_104 at h
  obtain ⟨b10, h⟩ := h
  refine AW_iast (pc2 := 105) rfl dX3_drop_104 (isF.a0 hs0b) b10 ?_
  refine EW_aload_n (pc2 := 106) rfl dX3_drop_105 0 rfl ?_
  refine AW_getr (r := (v0 + 2)) ⟨gfRX3_15, rfl⟩ (pc2 := 109) rfl dX3_drop_106 (isF.o hv0) (isF.r1 hv0) ?_
  refine EW_iload (pc2 := 111) rfl dX3_drop_109 5 rfl ?_
  refine EW_iconst (pc2 := 112) (v := 0) rfl dX3_drop_111 (by decide) ?_
  obtain ⟨b11, h⟩ := h
  refine AW_iast (pc2 := 113) rfl dX3_drop_112 (isF.a1 hv0) b11 ?_
  refine EW_aload_n (pc2 := 114) rfl dX3_drop_113 0 rfl ?_
  refine AW_getr (r := (v0 + 1)) ⟨gfRX3_9, rfl⟩ (pc2 := 117) rfl dX3_drop_114 (isF.o hv0) (isF.r0 hv0) ?_
  refine EW_iload (pc2 := 119) rfl dX3_drop_117 5 rfl ?_
  refine EW_iconst (pc2 := 120) (v := 0) rfl dX3_drop_119 (by decide) ?_
  obtain ⟨b12, h⟩ := h
  refine AW_iast (pc2 := 121) rfl dX3_drop_120 (isF.a0 hv0) b12 ?_
  refine EW_iinc (v4 + 1) (pc2 := 124) rfl dX3_drop_121 4 rfl rfl (by decide) [1, 2, 3, 4, 0, 5] [(0, .ref v0), (1, .ref v1), (2, .int v2), (3, .int v3), (4, .int (v4 + 1)), (5, .int v5)] rfl ?_
  refine EW_goto (tgt := 12) dX3_drop_124 (by decide) ?_
  refine EW_ls [0, 1, 2, 3, 4] rfl ?_
  exact hL12 (v4 + 1) (wr (wr (wr x (s0b + 1) (Int32.toNatClampNeg s1) s2) (v0 + 2) (Int32.toNatClampNeg v5) 0) (v0 + 1) (Int32.toNatClampNeg v5) 0) h
set_option maxHeartbeats 4000000 in
set_option maxRecDepth 100000 in
def lX3_drop_12 (v0 : Nat) (v1 : Nat) (v2 : Int32) (v3 : Int32) (K : ab_X → Prop)  (L12 : Int32 → ab_X → Prop) (v4 : Int32) (x : ab_X) : Prop := (((x.1 v1 4) ≤ v4 → wX4_storey v1 v2 x (fun r2 => (vp_in r2 72 ∧ K (wr x (v0 + 5) (Int32.toNatClampNeg r2) 1)))) ∧ (¬ (x.1 v1 4) ≤ v4 → wX4_place v1 ((v2 * (x.1 v1 4)) + v4) x (fun r4 => (vp_in (r4 - (x.1 v1 4)) 288 ∧ vp_in r4 288 ∧ vp_in (r4 - (x.1 v1 4)) 288 ∧ ((v3 = 0 → (vp_in (r4 - (x.1 v1 4)) 288 ∧ vp_in r4 288 ∧ wX3_drop_104 v0 v1 v2 v3 v4 r4 v0 (r4 - (x.1 v1 4)) (imax ((wr x (v0 + 2) (Int32.toNatClampNeg (r4 - (x.1 v1 4))) (imin 2000 ((x.1 (v0 + 2) (Int32.toNatClampNeg (r4 - (x.1 v1 4)))) + (x.1 (v0 + 2) (Int32.toNatClampNeg r4))))).1 (v0 + 1) (Int32.toNatClampNeg (r4 - (x.1 v1 4)))) ((wr x (v0 + 2) (Int32.toNatClampNeg (r4 - (x.1 v1 4))) (imin 2000 ((x.1 (v0 + 2) (Int32.toNatClampNeg (r4 - (x.1 v1 4)))) + (x.1 (v0 + 2) (Int32.toNatClampNeg r4))))).1 (v0 + 1) (Int32.toNatClampNeg r4))) (wr x (v0 + 2) (Int32.toNatClampNeg (r4 - (x.1 v1 4))) (imin 2000 ((x.1 (v0 + 2) (Int32.toNatClampNeg (r4 - (x.1 v1 4)))) + (x.1 (v0 + 2) (Int32.toNatClampNeg r4))))) K L12)) ∧ (¬ v3 = 0 → wX3_drop_104 v0 v1 v2 v3 v4 r4 v0 (r4 - (x.1 v1 4)) 0 (wr x (v0 + 2) (Int32.toNatClampNeg (r4 - (x.1 v1 4))) (imin 2000 ((x.1 (v0 + 2) (Int32.toNatClampNeg (r4 - (x.1 v1 4)))) + (x.1 (v0 + 2) (Int32.toNatClampNeg r4))))) K L12))))))
set_option maxHeartbeats 4000000 in
set_option maxRecDepth 100000 in
theorem sX3_drop_12 (v0 : Nat) (v1 : Nat) (v2 : Int32) (v3 : Int32) (v4 : Int32) (hv0 : isF v0) (hv1 : isH v1) (x : ab_X) (K : ab_X → Prop)  (d bc bs : Nat) (hdp : 2 ≤ d)  (h : Lp2 (lX3_drop_12 v0 v1 v2 v3 K ) v4 x) : EW MX3_drop 12 [(0, .ref v0), (1, .ref v1), (2, .int v2), (3, .int v3), (4, .int v4)] [] (aS x) d bc bs (liV K) := by
  refine Lp2.use (P := fun v4 x => EW MX3_drop 12 [(0, .ref v0), (1, .ref v1), (2, .int v2), (3, .int v3), (4, .int v4)] [] (aS x) d bc bs (liV K)) (fun L12 v4 x hL12 h => ?_) v4 x h
  unfold lX3_drop_12 at h
  refine EW_iload (pc2 := 14) rfl dX3_drop_12 4 rfl ?_
  refine EW_aload_n (pc2 := 15) rfl dX3_drop_14 1 rfl ?_
  refine AW_geti ⟨gfRX3_60, rfl⟩ (pc2 := 18) rfl dX3_drop_15 (isH.o hv1) ?_
  refine EW_icmp_ge (tgt := 127) (pc2 := 21) rfl dX3_drop_18 (by decide) (fun q => ?_) (fun q => ?_)
  · replace h := h.1 q
    refine EW_aload_n (pc2 := 128) rfl dX3_drop_127 0 rfl ?_
    refine AW_getr (r := (v0 + 5)) ⟨gfRX3_24, rfl⟩ (pc2 := 131) rfl dX3_drop_128 (isF.o hv0) (isF.r4 hv0) ?_
    refine EW_aload_n (pc2 := 132) rfl dX3_drop_131 1 rfl ?_
    refine EW_iload_n (pc2 := 133) rfl dX3_drop_132 2 rfl ?_
    refine AW_invV (M' := MX4_storey) [.int v2] (rest := [.ref (v0 + 5)]) mlRX3_50 okX4_storey (pc2 := 136) rfl dX3_drop_133 rfl rfl (Nat.le_of_ble_eq_true rfl) (Nat.le_of_ble_eq_true rfl) (d' := 0) (by omega) (isH.o hv1) ⟨by decide, rfl⟩ (EW_mono (fun _ _ hr => ?_) (sX4_storey v1 v2 hv1 x _ _ 0 0 (Nat.le_refl _) h))
    obtain ⟨r2, rfl, rfl, h⟩ := hr
    refine EW_iconst (pc2 := 137) (v := 1) rfl dX3_drop_136 (by decide) ?_
    obtain ⟨b3, h⟩ := h
    refine AW_zast (pc2 := 138) rfl dX3_drop_137 (isF.a4 hv0) b3 isB1 ?_
    exact EW_vret rfl dX3_drop_138 ⟨_, rfl, rfl, h⟩
  · replace h := h.2 q
    refine EW_aload_n (pc2 := 22) rfl dX3_drop_21 1 rfl ?_
    refine EW_iload_n (pc2 := 23) rfl dX3_drop_22 2 rfl ?_
    refine EW_aload_n (pc2 := 24) rfl dX3_drop_23 1 rfl ?_
    refine AW_geti ⟨gfRX3_60, rfl⟩ (pc2 := 27) rfl dX3_drop_24 (isH.o hv1) ?_
    refine EW_imul (pc2 := 28) rfl dX3_drop_27 ?_
    refine EW_iload (pc2 := 30) rfl dX3_drop_28 4 rfl ?_
    refine EW_iadd (pc2 := 31) rfl dX3_drop_30 ?_
    refine AW_invV (M' := MX4_place) [.int ((v2 * (x.1 v1 4)) + v4)] (rest := []) mlRX3_63 okX4_place (pc2 := 34) rfl dX3_drop_31 rfl rfl (Nat.le_of_ble_eq_true rfl) (Nat.le_of_ble_eq_true rfl) (d' := 0) (by omega) (isH.o hv1) ⟨by decide, rfl⟩ (EW_mono (fun _ _ hr => ?_) (sX4_place v1 ((v2 * (x.1 v1 4)) + v4) hv1 x _ _ 0 0 (Nat.le_refl _) h))
    obtain ⟨r4, rfl, rfl, h⟩ := hr
    refine EW_istore (pc2 := 36) rfl dX3_drop_34 (by decide) [1, 2, 3, 4, 5, 0] [(0, .ref v0), (1, .ref v1), (2, .int v2), (3, .int v3), (4, .int v4), (5, .int r4)] rfl ?_
    refine EW_iload (pc2 := 38) rfl dX3_drop_36 5 rfl ?_
    refine EW_aload_n (pc2 := 39) rfl dX3_drop_38 1 rfl ?_
    refine AW_geti ⟨gfRX3_60, rfl⟩ (pc2 := 42) rfl dX3_drop_39 (isH.o hv1) ?_
    refine EW_isub (pc2 := 43) rfl dX3_drop_42 ?_
    refine EW_istore (pc2 := 45) rfl dX3_drop_43 (by decide) [1, 2, 3, 4, 5, 6, 0] [(0, .ref v0), (1, .ref v1), (2, .int v2), (3, .int v3), (4, .int v4), (5, .int r4), (6, .int (r4 - (x.1 v1 4)))] rfl ?_
    refine EW_aload_n (pc2 := 46) rfl dX3_drop_45 0 rfl ?_
    refine AW_getr (r := (v0 + 2)) ⟨gfRX3_15, rfl⟩ (pc2 := 49) rfl dX3_drop_46 (isF.o hv0) (isF.r1 hv0) ?_
    refine EW_iload (pc2 := 51) rfl dX3_drop_49 6 rfl ?_
    refine EW_sipush (pc2 := 54) (v := 2000) rfl dX3_drop_51 (by decide) ?_
    refine EW_aload_n (pc2 := 55) rfl dX3_drop_54 0 rfl ?_
    refine AW_getr (r := (v0 + 2)) ⟨gfRX3_15, rfl⟩ (pc2 := 58) rfl dX3_drop_55 (isF.o hv0) (isF.r1 hv0) ?_
    refine EW_iload (pc2 := 60) rfl dX3_drop_58 6 rfl ?_
    obtain ⟨b5, h⟩ := h
    refine AW_iald (pc2 := 61) rfl dX3_drop_60 (isF.a1 hv0) b5 ?_
    refine EW_aload_n (pc2 := 62) rfl dX3_drop_61 0 rfl ?_
    refine AW_getr (r := (v0 + 2)) ⟨gfRX3_15, rfl⟩ (pc2 := 65) rfl dX3_drop_62 (isF.o hv0) (isF.r1 hv0) ?_
    refine EW_iload (pc2 := 67) rfl dX3_drop_65 5 rfl ?_
    obtain ⟨b6, h⟩ := h
    refine AW_iald (pc2 := 68) rfl dX3_drop_67 (isF.a1 hv0) b6 ?_
    refine EW_iadd (pc2 := 69) rfl dX3_drop_68 ?_
    refine AW_mmin mmRX3_103 (pc2 := 72) rfl dX3_drop_69 (Nat.le_of_ble_eq_true rfl) (by omega) ?_
    obtain ⟨b7, h⟩ := h
    refine AW_iast (pc2 := 73) rfl dX3_drop_72 (isF.a1 hv0) b7 ?_
    refine EW_aload_n (pc2 := 74) rfl dX3_drop_73 0 rfl ?_
    refine AW_getr (r := (v0 + 1)) ⟨gfRX3_9, rfl⟩ (pc2 := 77) rfl dX3_drop_74 (isF.o hv0) (isF.r0 hv0) ?_
    refine EW_iload (pc2 := 79) rfl dX3_drop_77 6 rfl ?_
    refine EW_iload_n (pc2 := 80) rfl dX3_drop_79 3 rfl ?_
    refine EW_if_eq (tgt := 87) (pc2 := 83) rfl dX3_drop_80 (by decide) (fun q => ?_) (fun q => ?_)
    · replace h := h.1 q
      refine EW_aload_n (pc2 := 88) rfl dX3_drop_87 0 rfl ?_
      refine AW_getr (r := (v0 + 1)) ⟨gfRX3_9, rfl⟩ (pc2 := 91) rfl dX3_drop_88 (isF.o hv0) (isF.r0 hv0) ?_
      refine EW_iload (pc2 := 93) rfl dX3_drop_91 6 rfl ?_
      obtain ⟨b8, h⟩ := h
      refine AW_iald (pc2 := 94) rfl dX3_drop_93 (isF.a0 hv0) b8 ?_
      refine EW_aload_n (pc2 := 95) rfl dX3_drop_94 0 rfl ?_
      refine AW_getr (r := (v0 + 1)) ⟨gfRX3_9, rfl⟩ (pc2 := 98) rfl dX3_drop_95 (isF.o hv0) (isF.r0 hv0) ?_
      refine EW_iload (pc2 := 100) rfl dX3_drop_98 5 rfl ?_
      obtain ⟨b9, h⟩ := h
      refine AW_iald (pc2 := 101) rfl dX3_drop_100 (isF.a0 hv0) b9 ?_
      refine AW_mmax mmRX3_74 (pc2 := 104) rfl dX3_drop_101 (Nat.le_of_ble_eq_true rfl) (by omega) ?_
      refine EW_ls [0, 1, 2, 3, 4, 5] rfl ?_
      exact sX3_drop_104 v0 v1 v2 v3 v4 r4 v0 (r4 - (x.1 v1 4)) (imax ((wr x (v0 + 2) (Int32.toNatClampNeg (r4 - (x.1 v1 4))) (imin 2000 ((x.1 (v0 + 2) (Int32.toNatClampNeg (r4 - (x.1 v1 4)))) + (x.1 (v0 + 2) (Int32.toNatClampNeg r4))))).1 (v0 + 1) (Int32.toNatClampNeg (r4 - (x.1 v1 4)))) ((wr x (v0 + 2) (Int32.toNatClampNeg (r4 - (x.1 v1 4))) (imin 2000 ((x.1 (v0 + 2) (Int32.toNatClampNeg (r4 - (x.1 v1 4)))) + (x.1 (v0 + 2) (Int32.toNatClampNeg r4))))).1 (v0 + 1) (Int32.toNatClampNeg r4))) hv0 hv1 hv0 (wr x (v0 + 2) (Int32.toNatClampNeg (r4 - (x.1 v1 4))) (imin 2000 ((x.1 (v0 + 2) (Int32.toNatClampNeg (r4 - (x.1 v1 4)))) + (x.1 (v0 + 2) (Int32.toNatClampNeg r4))))) K L12 d bc bs hdp hL12 h
    · replace h := h.2 q
      refine EW_iconst (pc2 := 84) (v := 0) rfl dX3_drop_83 (by decide) ?_
      refine EW_goto (tgt := 104) dX3_drop_84 (by decide) ?_
      refine EW_ls [0, 1, 2, 3, 4, 5] rfl ?_
      exact sX3_drop_104 v0 v1 v2 v3 v4 r4 v0 (r4 - (x.1 v1 4)) 0 hv0 hv1 hv0 (wr x (v0 + 2) (Int32.toNatClampNeg (r4 - (x.1 v1 4))) (imin 2000 ((x.1 (v0 + 2) (Int32.toNatClampNeg (r4 - (x.1 v1 4)))) + (x.1 (v0 + 2) (Int32.toNatClampNeg r4))))) K L12 d bc bs hdp hL12 h
set_option maxHeartbeats 4000000 in
set_option maxRecDepth 100000 in
def wX3_drop (v0 : Nat) (v1 : Nat) (v2 : Int32) (x : ab_X) (K : ab_X → Prop) : Prop := wX3_hasFallen v0 v1 (v2 - 1) x (fun r1 => Lp2 (lX3_drop_12 v0 v1 v2 r1 K ) 0 x)
set_option maxHeartbeats 4000000 in
set_option maxRecDepth 100000 in
theorem sX3_drop (v0 : Nat) (v1 : Nat) (v2 : Int32) (hv0 : isF v0) (hv1 : isH v1) (x : ab_X) (K : ab_X → Prop) (d bc bs : Nat) (hdp : 2 ≤ d) (h : wX3_drop v0 v1 v2 x K) : EW MX3_drop 0 [(0, .ref v0), (1, .ref v1), (2, .int v2)] [] (aS x) d bc bs (liV K) := by
  unfold wX3_drop at h
  refine EW_aload_n (pc2 := 1) rfl dX3_drop_0 0 rfl ?_
  refine EW_aload_n (pc2 := 2) rfl dX3_drop_1 1 rfl ?_
  refine EW_iload_n (pc2 := 3) rfl dX3_drop_2 2 rfl ?_
  refine EW_iconst (pc2 := 4) (v := 1) rfl dX3_drop_3 (by decide) ?_
  refine EW_isub (pc2 := 5) rfl dX3_drop_4 ?_
  refine AW_invV (M' := MX3_hasFallen) [.ref v1, .int (v2 - 1)] (rest := []) mlRX3_70 okX3_hasFallen (pc2 := 8) rfl dX3_drop_5 rfl rfl (Nat.le_of_ble_eq_true rfl) (Nat.le_of_ble_eq_true rfl) (d' := 1) (by omega) (isF.o hv0) ⟨by decide, rfl⟩ (EW_mono (fun _ _ hr => ?_) (sX3_hasFallen v0 v1 (v2 - 1) hv0 hv1 x _ _ 0 0 (Nat.le_refl _) h))
  obtain ⟨r1, rfl, rfl, h⟩ := hr
  refine EW_istore_n (pc2 := 9) rfl dX3_drop_8 (by decide) [1, 2, 3, 0] [(0, .ref v0), (1, .ref v1), (2, .int v2), (3, .int r1)] rfl ?_
  refine EW_iconst (pc2 := 10) (v := 0) rfl dX3_drop_9 (by decide) ?_
  refine EW_istore (pc2 := 12) rfl dX3_drop_10 (by decide) [1, 2, 3, 4, 0] [(0, .ref v0), (1, .ref v1), (2, .int v2), (3, .int r1), (4, .int 0)] rfl ?_
  exact sX3_drop_12 v0 v1 v2 r1 0 hv0 hv1 x K d bc bs hdp h
theorem gfRX3_31 : ab_L RX3 31 3 6 := ⟨by decide, by decide, ab_in 187 (by decide +kernel) (by decide +kernel)⟩
theorem gfRX3_28 : ab_L RX3 28 3 5 := ⟨by decide, by decide, ab_in 186 (by decide +kernel) (by decide +kernel)⟩
abbrev MX3_noteBurning : ab_M := (yX3_noteBurning, cX3_noteBurning, 6, none)
theorem dX3_noteBurning_0 : decode cX3_noteBurning 0 = .ok (.iconst 0, 1) := by decide +kernel
theorem dX3_noteBurning_1 : decode cX3_noteBurning 1 = .ok (.istore_n 2, 1) := by decide +kernel
theorem dX3_noteBurning_2 : decode cX3_noteBurning 2 = .ok (.iload_n 2, 1) := by decide +kernel
theorem dX3_noteBurning_3 : decode cX3_noteBurning 3 = .ok (.aload_n 1, 1) := by decide +kernel
theorem dX3_noteBurning_4 : decode cX3_noteBurning 4 = .ok (.getfield 56, 3) := by decide +kernel
theorem dX3_noteBurning_7 : decode cX3_noteBurning 7 = .ok (.if_icmp .ge 86, 3) := by decide +kernel
theorem dX3_noteBurning_10 : decode cX3_noteBurning 10 = .ok (.iconst 0, 1) := by decide +kernel
theorem dX3_noteBurning_11 : decode cX3_noteBurning 11 = .ok (.istore_n 3, 1) := by decide +kernel
theorem dX3_noteBurning_12 : decode cX3_noteBurning 12 = .ok (.iconst 0, 1) := by decide +kernel
theorem dX3_noteBurning_13 : decode cX3_noteBurning 13 = .ok (.istore 4, 2) := by decide +kernel
theorem dX3_noteBurning_15 : decode cX3_noteBurning 15 = .ok (.iload 4, 2) := by decide +kernel
theorem dX3_noteBurning_17 : decode cX3_noteBurning 17 = .ok (.aload_n 1, 1) := by decide +kernel
theorem dX3_noteBurning_18 : decode cX3_noteBurning 18 = .ok (.getfield 60, 3) := by decide +kernel
theorem dX3_noteBurning_21 : decode cX3_noteBurning 21 = .ok (.if_icmp .ge 55, 3) := by decide +kernel
theorem dX3_noteBurning_24 : decode cX3_noteBurning 24 = .ok (.aload_n 1, 1) := by decide +kernel
theorem dX3_noteBurning_25 : decode cX3_noteBurning 25 = .ok (.iload_n 2, 1) := by decide +kernel
theorem dX3_noteBurning_26 : decode cX3_noteBurning 26 = .ok (.aload_n 1, 1) := by decide +kernel
theorem dX3_noteBurning_27 : decode cX3_noteBurning 27 = .ok (.getfield 60, 3) := by decide +kernel
theorem dX3_noteBurning_30 : decode cX3_noteBurning 30 = .ok (.imul, 1) := by decide +kernel
theorem dX3_noteBurning_31 : decode cX3_noteBurning 31 = .ok (.iload 4, 2) := by decide +kernel
theorem dX3_noteBurning_33 : decode cX3_noteBurning 33 = .ok (.iadd, 1) := by decide +kernel
theorem dX3_noteBurning_34 : decode cX3_noteBurning 34 = .ok (.invokevirtual 63, 3) := by decide +kernel
theorem dX3_noteBurning_37 : decode cX3_noteBurning 37 = .ok (.istore 5, 2) := by decide +kernel
theorem dX3_noteBurning_39 : decode cX3_noteBurning 39 = .ok (.aload_n 0, 1) := by decide +kernel
theorem dX3_noteBurning_40 : decode cX3_noteBurning 40 = .ok (.getfield 28, 3) := by decide +kernel
theorem dX3_noteBurning_43 : decode cX3_noteBurning 43 = .ok (.iload 5, 2) := by decide +kernel
theorem dX3_noteBurning_45 : decode cX3_noteBurning 45 = .ok (.aload_n 0, 1) := by decide +kernel
theorem dX3_noteBurning_46 : decode cX3_noteBurning 46 = .ok (.iload 5, 2) := by decide +kernel
theorem dX3_noteBurning_48 : decode cX3_noteBurning 48 = .ok (.invokevirtual 66, 3) := by decide +kernel
theorem dX3_noteBurning_51 : decode cX3_noteBurning 51 = .ok (.bastore, 1) := by decide +kernel
theorem dX3_noteBurning_52 : decode cX3_noteBurning 52 = .ok (.iload_n 3, 1) := by decide +kernel
theorem dX3_noteBurning_53 : decode cX3_noteBurning 53 = .ok (.aload_n 0, 1) := by decide +kernel
theorem dX3_noteBurning_54 : decode cX3_noteBurning 54 = .ok (.getfield 28, 3) := by decide +kernel
theorem dX3_noteBurning_57 : decode cX3_noteBurning 57 = .ok (.iload 5, 2) := by decide +kernel
theorem dX3_noteBurning_59 : decode cX3_noteBurning 59 = .ok (.baload, 1) := by decide +kernel
theorem dX3_noteBurning_60 : decode cX3_noteBurning 60 = .ok (.ifCond .eq 7, 3) := by decide +kernel
theorem dX3_noteBurning_63 : decode cX3_noteBurning 63 = .ok (.iconst 1, 1) := by decide +kernel
theorem dX3_noteBurning_64 : decode cX3_noteBurning 64 = .ok (.goto 4, 3) := by decide +kernel
theorem dX3_noteBurning_67 : decode cX3_noteBurning 67 = .ok (.iconst 0, 1) := by decide +kernel
theorem dX3_noteBurning_68 : decode cX3_noteBurning 68 = .ok (.iadd, 1) := by decide +kernel
theorem dX3_noteBurning_69 : decode cX3_noteBurning 69 = .ok (.istore_n 3, 1) := by decide +kernel
theorem dX3_noteBurning_70 : decode cX3_noteBurning 70 = .ok (.iinc 4 1, 3) := by decide +kernel
theorem dX3_noteBurning_73 : decode cX3_noteBurning 73 = .ok (.goto (-58), 3) := by decide +kernel
theorem dX3_noteBurning_76 : decode cX3_noteBurning 76 = .ok (.aload_n 0, 1) := by decide +kernel
theorem dX3_noteBurning_77 : decode cX3_noteBurning 77 = .ok (.getfield 31, 3) := by decide +kernel
theorem dX3_noteBurning_80 : decode cX3_noteBurning 80 = .ok (.aload_n 1, 1) := by decide +kernel
theorem dX3_noteBurning_81 : decode cX3_noteBurning 81 = .ok (.iload_n 2, 1) := by decide +kernel
theorem dX3_noteBurning_82 : decode cX3_noteBurning 82 = .ok (.invokevirtual 50, 3) := by decide +kernel
theorem dX3_noteBurning_85 : decode cX3_noteBurning 85 = .ok (.iload_n 3, 1) := by decide +kernel
theorem dX3_noteBurning_86 : decode cX3_noteBurning 86 = .ok (.iastore, 1) := by decide +kernel
theorem dX3_noteBurning_87 : decode cX3_noteBurning 87 = .ok (.iinc 2 1, 3) := by decide +kernel
theorem dX3_noteBurning_90 : decode cX3_noteBurning 90 = .ok (.goto (-88), 3) := by decide +kernel
theorem dX3_noteBurning_93 : decode cX3_noteBurning 93 = .ok (.return_, 1) := by decide +kernel
theorem okX3_noteBurning : ab_okM MX3_noteBurning 1 := ⟨by decide, ⟨by decide, by decide⟩, ab_in 1448 (by decide +kernel) (by decide +kernel), ab_in 90 (by decide +kernel) (by decide +kernel), by decide +kernel, by decide⟩
set_option maxHeartbeats 4000000 in
set_option maxRecDepth 100000 in
def wX3_noteBurning_68 (v0 : Nat) (v1 : Nat) (v2 : Int32) (v4 : Int32) (s0 : Int32) (s1 : Int32) (x : ab_X) (K : ab_X → Prop) (L2 : Int32 → ab_X → Prop) (L15 : Int32 → Int32 → ab_X → Prop) : Prop := L15 (s0 + s1) (v4 + 1) x
set_option maxHeartbeats 4000000 in
set_option maxRecDepth 100000 in
theorem sX3_noteBurning_68 (v0 : Nat) (v1 : Nat) (v2 : Int32) (v4 : Int32) (s0 : Int32) (s1 : Int32) (hv0 : isF v0) (hv1 : isH v1) (x : ab_X) (K : ab_X → Prop) (L2 : Int32 → ab_X → Prop) (L15 : Int32 → Int32 → ab_X → Prop) (d bc bs : Nat) (hdp : 1 ≤ d) (hL2 : ∀ (v2 : Int32) (x : ab_X), L2 v2 x → EW MX3_noteBurning 2 [(0, .ref v0), (1, .ref v1), (2, .int v2)] [] (aS x) d bc bs (liV K)) (hL15 : ∀ (v3 : Int32) (v4 : Int32) (x : ab_X), L15 v3 v4 x → EW MX3_noteBurning 15 [(0, .ref v0), (1, .ref v1), (2, .int v2), (3, .int v3), (4, .int v4)] [] (aS x) d bc bs (liV K)) (h : wX3_noteBurning_68 v0 v1 v2 v4 s0 s1 x K L2 L15) : EW MX3_noteBurning 68 [(0, .ref v0), (1, .ref v1), (2, .int v2), (4, .int v4)] [.int s1, .int s0] (aS x) d bc bs (liV K) := by
  unfold wX3_noteBurning_68 at h
  refine EW_iadd (pc2 := 69) rfl dX3_noteBurning_68 ?_
  refine EW_istore_n (pc2 := 70) rfl dX3_noteBurning_69 (by decide) [1, 2, 3, 0, 4] [(0, .ref v0), (1, .ref v1), (2, .int v2), (3, .int (s0 + s1)), (4, .int v4)] rfl ?_
  refine EW_iinc (v4 + 1) (pc2 := 73) rfl dX3_noteBurning_70 4 rfl rfl (by decide) [1, 2, 3, 4, 0] [(0, .ref v0), (1, .ref v1), (2, .int v2), (3, .int (s0 + s1)), (4, .int (v4 + 1))] rfl ?_
  refine EW_goto (tgt := 15) dX3_noteBurning_73 (by decide) ?_
  exact hL15 (s0 + s1) (v4 + 1) x h
set_option maxHeartbeats 4000000 in
set_option maxRecDepth 100000 in
def lX3_noteBurning_15 (v0 : Nat) (v1 : Nat) (v2 : Int32) (K : ab_X → Prop) (L2 : Int32 → ab_X → Prop) (L15 : Int32 → Int32 → ab_X → Prop) (v3 : Int32) (v4 : Int32) (x : ab_X) : Prop := (((x.1 v1 4) ≤ v4 → wX4_storey v1 v2 x (fun r1 => (vp_in r1 72 ∧ L2 (v2 + 1) (wr x (v0 + 7) (Int32.toNatClampNeg r1) v3)))) ∧ (¬ (x.1 v1 4) ≤ v4 → wX4_place v1 ((v2 * (x.1 v1 4)) + v4) x (fun r3 => wX3_burns v0 r3 x (fun r4 => (vp_in r3 288 ∧ isB r4 ∧ vp_in r3 288 ∧ ((((wr x (v0 + 6) (Int32.toNatClampNeg r3) r4).1 (v0 + 6) (Int32.toNatClampNeg r3)) = 0 → wX3_noteBurning_68 v0 v1 v2 v4 v3 0 (wr x (v0 + 6) (Int32.toNatClampNeg r3) r4) K L2 L15) ∧ (¬ ((wr x (v0 + 6) (Int32.toNatClampNeg r3) r4).1 (v0 + 6) (Int32.toNatClampNeg r3)) = 0 → wX3_noteBurning_68 v0 v1 v2 v4 v3 1 (wr x (v0 + 6) (Int32.toNatClampNeg r3) r4) K L2 L15)))))))
set_option maxHeartbeats 4000000 in
set_option maxRecDepth 100000 in
theorem sX3_noteBurning_15 (v0 : Nat) (v1 : Nat) (v2 : Int32) (v3 : Int32) (v4 : Int32) (hv0 : isF v0) (hv1 : isH v1) (x : ab_X) (K : ab_X → Prop) (L2 : Int32 → ab_X → Prop) (d bc bs : Nat) (hdp : 1 ≤ d) (hL2 : ∀ (v2 : Int32) (x : ab_X), L2 v2 x → EW MX3_noteBurning 2 [(0, .ref v0), (1, .ref v1), (2, .int v2)] [] (aS x) d bc bs (liV K)) (h : Lp3 (lX3_noteBurning_15 v0 v1 v2 K L2) v3 v4 x) : EW MX3_noteBurning 15 [(0, .ref v0), (1, .ref v1), (2, .int v2), (3, .int v3), (4, .int v4)] [] (aS x) d bc bs (liV K) := by
  refine Lp3.use (P := fun v3 v4 x => EW MX3_noteBurning 15 [(0, .ref v0), (1, .ref v1), (2, .int v2), (3, .int v3), (4, .int v4)] [] (aS x) d bc bs (liV K)) (fun L15 v3 v4 x hL15 h => ?_) v3 v4 x h
  unfold lX3_noteBurning_15 at h
  refine EW_iload (pc2 := 17) rfl dX3_noteBurning_15 4 rfl ?_
  refine EW_aload_n (pc2 := 18) rfl dX3_noteBurning_17 1 rfl ?_
  refine AW_geti ⟨gfRX3_60, rfl⟩ (pc2 := 21) rfl dX3_noteBurning_18 (isH.o hv1) ?_
  refine EW_icmp_ge (tgt := 76) (pc2 := 24) rfl dX3_noteBurning_21 (by decide) (fun q => ?_) (fun q => ?_)
  · replace h := h.1 q
    refine EW_aload_n (pc2 := 77) rfl dX3_noteBurning_76 0 rfl ?_
    refine AW_getr (r := (v0 + 7)) ⟨gfRX3_31, rfl⟩ (pc2 := 80) rfl dX3_noteBurning_77 (isF.o hv0) (isF.r6 hv0) ?_
    refine EW_aload_n (pc2 := 81) rfl dX3_noteBurning_80 1 rfl ?_
    refine EW_iload_n (pc2 := 82) rfl dX3_noteBurning_81 2 rfl ?_
    refine AW_invV (M' := MX4_storey) [.int v2] (rest := [.ref (v0 + 7)]) mlRX3_50 okX4_storey (pc2 := 85) rfl dX3_noteBurning_82 rfl rfl (Nat.le_of_ble_eq_true rfl) (Nat.le_of_ble_eq_true rfl) (d' := 0) (by omega) (isH.o hv1) ⟨by decide, rfl⟩ (EW_mono (fun _ _ hr => ?_) (sX4_storey v1 v2 hv1 x _ _ 0 0 (Nat.le_refl _) h))
    obtain ⟨r1, rfl, rfl, h⟩ := hr
    refine EW_iload_n (pc2 := 86) rfl dX3_noteBurning_85 3 rfl ?_
    obtain ⟨b2, h⟩ := h
    refine AW_iast (pc2 := 87) rfl dX3_noteBurning_86 (isF.a6 hv0) b2 ?_
    refine EW_iinc (v2 + 1) (pc2 := 90) rfl dX3_noteBurning_87 2 rfl rfl (by decide) [1, 2, 0, 3, 4] [(0, .ref v0), (1, .ref v1), (2, .int (v2 + 1)), (3, .int v3), (4, .int v4)] rfl ?_
    refine EW_goto (tgt := 2) dX3_noteBurning_90 (by decide) ?_
    refine EW_ls [0, 1, 2] rfl ?_
    exact hL2 (v2 + 1) (wr x (v0 + 7) (Int32.toNatClampNeg r1) v3) h
  · replace h := h.2 q
    refine EW_aload_n (pc2 := 25) rfl dX3_noteBurning_24 1 rfl ?_
    refine EW_iload_n (pc2 := 26) rfl dX3_noteBurning_25 2 rfl ?_
    refine EW_aload_n (pc2 := 27) rfl dX3_noteBurning_26 1 rfl ?_
    refine AW_geti ⟨gfRX3_60, rfl⟩ (pc2 := 30) rfl dX3_noteBurning_27 (isH.o hv1) ?_
    refine EW_imul (pc2 := 31) rfl dX3_noteBurning_30 ?_
    refine EW_iload (pc2 := 33) rfl dX3_noteBurning_31 4 rfl ?_
    refine EW_iadd (pc2 := 34) rfl dX3_noteBurning_33 ?_
    refine AW_invV (M' := MX4_place) [.int ((v2 * (x.1 v1 4)) + v4)] (rest := []) mlRX3_63 okX4_place (pc2 := 37) rfl dX3_noteBurning_34 rfl rfl (Nat.le_of_ble_eq_true rfl) (Nat.le_of_ble_eq_true rfl) (d' := 0) (by omega) (isH.o hv1) ⟨by decide, rfl⟩ (EW_mono (fun _ _ hr => ?_) (sX4_place v1 ((v2 * (x.1 v1 4)) + v4) hv1 x _ _ 0 0 (Nat.le_refl _) h))
    obtain ⟨r3, rfl, rfl, h⟩ := hr
    refine EW_istore (pc2 := 39) rfl dX3_noteBurning_37 (by decide) [1, 2, 3, 4, 5, 0] [(0, .ref v0), (1, .ref v1), (2, .int v2), (3, .int v3), (4, .int v4), (5, .int r3)] rfl ?_
    refine EW_aload_n (pc2 := 40) rfl dX3_noteBurning_39 0 rfl ?_
    refine AW_getr (r := (v0 + 6)) ⟨gfRX3_28, rfl⟩ (pc2 := 43) rfl dX3_noteBurning_40 (isF.o hv0) (isF.r5 hv0) ?_
    refine EW_iload (pc2 := 45) rfl dX3_noteBurning_43 5 rfl ?_
    refine EW_aload_n (pc2 := 46) rfl dX3_noteBurning_45 0 rfl ?_
    refine EW_iload (pc2 := 48) rfl dX3_noteBurning_46 5 rfl ?_
    refine AW_invV (M' := MX3_burns) [.int r3] (rest := [.int r3, .ref (v0 + 6)]) mlRX3_66 okX3_burns (pc2 := 51) rfl dX3_noteBurning_48 rfl rfl (Nat.le_of_ble_eq_true rfl) (Nat.le_of_ble_eq_true rfl) (d' := 0) (by omega) (isF.o hv0) ⟨by decide, rfl⟩ (EW_mono (fun _ _ hr => ?_) (sX3_burns v0 r3 hv0 x _ _ 0 0 (Nat.le_refl _) h))
    obtain ⟨r4, rfl, rfl, h⟩ := hr
    obtain ⟨b5, h⟩ := h
    obtain ⟨z6, h⟩ := h
    refine AW_zast (pc2 := 52) rfl dX3_noteBurning_51 (isF.a5 hv0) b5 z6 ?_
    refine EW_iload_n (pc2 := 53) rfl dX3_noteBurning_52 3 rfl ?_
    refine EW_aload_n (pc2 := 54) rfl dX3_noteBurning_53 0 rfl ?_
    refine AW_getr (r := (v0 + 6)) ⟨gfRX3_28, rfl⟩ (pc2 := 57) rfl dX3_noteBurning_54 (isF.o hv0) (isF.r5 hv0) ?_
    refine EW_iload (pc2 := 59) rfl dX3_noteBurning_57 5 rfl ?_
    obtain ⟨b7, h⟩ := h
    refine AW_zald (pc2 := 60) rfl dX3_noteBurning_59 (isF.a5 hv0) b7 ?_
    refine EW_if_eq (tgt := 67) (pc2 := 63) rfl dX3_noteBurning_60 (by decide) (fun q => ?_) (fun q => ?_)
    · replace h := h.1 q
      refine EW_iconst (pc2 := 68) (v := 0) rfl dX3_noteBurning_67 (by decide) ?_
      refine EW_ls [0, 1, 2, 4] rfl ?_
      exact sX3_noteBurning_68 v0 v1 v2 v4 v3 0 hv0 hv1 (wr x (v0 + 6) (Int32.toNatClampNeg r3) r4) K L2 L15 d bc bs hdp hL2 hL15 h
    · replace h := h.2 q
      refine EW_iconst (pc2 := 64) (v := 1) rfl dX3_noteBurning_63 (by decide) ?_
      refine EW_goto (tgt := 68) dX3_noteBurning_64 (by decide) ?_
      refine EW_ls [0, 1, 2, 4] rfl ?_
      exact sX3_noteBurning_68 v0 v1 v2 v4 v3 1 hv0 hv1 (wr x (v0 + 6) (Int32.toNatClampNeg r3) r4) K L2 L15 d bc bs hdp hL2 hL15 h
set_option maxHeartbeats 4000000 in
set_option maxRecDepth 100000 in
def lX3_noteBurning_2 (v0 : Nat) (v1 : Nat) (K : ab_X → Prop)  (L2 : Int32 → ab_X → Prop) (v2 : Int32) (x : ab_X) : Prop := (((x.1 v1 3) ≤ v2 → K x) ∧ (¬ (x.1 v1 3) ≤ v2 → Lp3 (lX3_noteBurning_15 v0 v1 v2 K L2) 0 0 x))
set_option maxHeartbeats 4000000 in
set_option maxRecDepth 100000 in
theorem sX3_noteBurning_2 (v0 : Nat) (v1 : Nat) (v2 : Int32) (hv0 : isF v0) (hv1 : isH v1) (x : ab_X) (K : ab_X → Prop)  (d bc bs : Nat) (hdp : 1 ≤ d)  (h : Lp2 (lX3_noteBurning_2 v0 v1 K ) v2 x) : EW MX3_noteBurning 2 [(0, .ref v0), (1, .ref v1), (2, .int v2)] [] (aS x) d bc bs (liV K) := by
  refine Lp2.use (P := fun v2 x => EW MX3_noteBurning 2 [(0, .ref v0), (1, .ref v1), (2, .int v2)] [] (aS x) d bc bs (liV K)) (fun L2 v2 x hL2 h => ?_) v2 x h
  unfold lX3_noteBurning_2 at h
  refine EW_iload_n (pc2 := 3) rfl dX3_noteBurning_2 2 rfl ?_
  refine EW_aload_n (pc2 := 4) rfl dX3_noteBurning_3 1 rfl ?_
  refine AW_geti ⟨gfRX3_56, rfl⟩ (pc2 := 7) rfl dX3_noteBurning_4 (isH.o hv1) ?_
  refine EW_icmp_ge (tgt := 93) (pc2 := 10) rfl dX3_noteBurning_7 (by decide) (fun q => ?_) (fun q => ?_)
  · replace h := h.1 q
    exact EW_vret rfl dX3_noteBurning_93 ⟨_, rfl, rfl, h⟩
  · replace h := h.2 q
    refine EW_iconst (pc2 := 11) (v := 0) rfl dX3_noteBurning_10 (by decide) ?_
    refine EW_istore_n (pc2 := 12) rfl dX3_noteBurning_11 (by decide) [1, 2, 3, 0] [(0, .ref v0), (1, .ref v1), (2, .int v2), (3, .int 0)] rfl ?_
    refine EW_iconst (pc2 := 13) (v := 0) rfl dX3_noteBurning_12 (by decide) ?_
    refine EW_istore (pc2 := 15) rfl dX3_noteBurning_13 (by decide) [1, 2, 3, 4, 0] [(0, .ref v0), (1, .ref v1), (2, .int v2), (3, .int 0), (4, .int 0)] rfl ?_
    exact sX3_noteBurning_15 v0 v1 v2 0 0 hv0 hv1 x K L2 d bc bs hdp hL2 h
set_option maxHeartbeats 4000000 in
set_option maxRecDepth 100000 in
def wX3_noteBurning (v0 : Nat) (v1 : Nat) (x : ab_X) (K : ab_X → Prop) : Prop := Lp2 (lX3_noteBurning_2 v0 v1 K ) 0 x
set_option maxHeartbeats 4000000 in
set_option maxRecDepth 100000 in
theorem sX3_noteBurning (v0 : Nat) (v1 : Nat) (hv0 : isF v0) (hv1 : isH v1) (x : ab_X) (K : ab_X → Prop) (d bc bs : Nat) (hdp : 1 ≤ d) (h : wX3_noteBurning v0 v1 x K) : EW MX3_noteBurning 0 [(0, .ref v0), (1, .ref v1)] [] (aS x) d bc bs (liV K) := by
  unfold wX3_noteBurning at h
  refine EW_iconst (pc2 := 1) (v := 0) rfl dX3_noteBurning_0 (by decide) ?_
  refine EW_istore_n (pc2 := 2) rfl dX3_noteBurning_1 (by decide) [1, 2, 0] [(0, .ref v0), (1, .ref v1), (2, .int 0)] rfl ?_
  exact sX3_noteBurning_2 v0 v1 0 hv0 hv1 x K d bc bs hdp h
