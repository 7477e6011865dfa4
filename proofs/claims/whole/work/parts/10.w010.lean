theorem gfRX0_188 : ab_L RX0 188 2 11 := ⟨by decide, by decide, ab_in 438 (by decide +kernel) (by decide +kernel)⟩
theorem gfRX0_191 : ab_L RX0 191 1 5 := ⟨by decide, by decide, ab_in 517 (by decide +kernel) (by decide +kernel)⟩
theorem gfRX0_85 : ab_L RX0 85 1 6 := ⟨by decide, by decide, ab_in 519 (by decide +kernel) (by decide +kernel)⟩
theorem gfRX0_138 : ab_L RX0 138 9 7 := ⟨by decide, by decide, ab_in 377 (by decide +kernel) (by decide +kernel)⟩
theorem mlRX0_177 : Cond.methodLink RX0 177 yX0_findArrivals ∈ ab_G ∧ Cond.instanceMethod yX0_findArrivals ∈ ab_G ∧ Cond.selects RX0 yX0_findArrivals yX0_findArrivals ∈ ab_G := ⟨ab_in 1119 (by decide +kernel) (by decide +kernel), ab_in 1120 (by decide +kernel) (by decide +kernel), ab_in 1121 (by decide +kernel) (by decide +kernel)⟩
abbrev MX0_sendAll : ab_M := (yX0_sendAll, cX0_sendAll, 7, none)
theorem dX0_sendAll_0 : decode cX0_sendAll 0 = .ok (.aload_n 0, 1) := by decide +kernel
theorem dX0_sendAll_1 : decode cX0_sendAll 1 = .ok (.getfield 19, 3) := by decide +kernel
theorem dX0_sendAll_4 : decode cX0_sendAll 4 = .ok (.iload_n 1, 1) := by decide +kernel
theorem dX0_sendAll_5 : decode cX0_sendAll 5 = .ok (.aaload, 1) := by decide +kernel
theorem dX0_sendAll_6 : decode cX0_sendAll 6 = .ok (.astore_n 2, 1) := by decide +kernel
theorem dX0_sendAll_7 : decode cX0_sendAll 7 = .ok (.iconst 0, 1) := by decide +kernel
theorem dX0_sendAll_8 : decode cX0_sendAll 8 = .ok (.istore_n 3, 1) := by decide +kernel
theorem dX0_sendAll_9 : decode cX0_sendAll 9 = .ok (.iload_n 3, 1) := by decide +kernel
theorem dX0_sendAll_10 : decode cX0_sendAll 10 = .ok (.iconst 4, 1) := by decide +kernel
theorem dX0_sendAll_11 : decode cX0_sendAll 11 = .ok (.if_icmp .ge 126, 3) := by decide +kernel
theorem dX0_sendAll_14 : decode cX0_sendAll 14 = .ok (.aload_n 0, 1) := by decide +kernel
theorem dX0_sendAll_15 : decode cX0_sendAll 15 = .ok (.getfield 26, 3) := by decide +kernel
theorem dX0_sendAll_18 : decode cX0_sendAll 18 = .ok (.getfield 138, 3) := by decide +kernel
theorem dX0_sendAll_21 : decode cX0_sendAll 21 = .ok (.iload_n 3, 1) := by decide +kernel
theorem dX0_sendAll_22 : decode cX0_sendAll 22 = .ok (.iaload, 1) := by decide +kernel
theorem dX0_sendAll_23 : decode cX0_sendAll 23 = .ok (.istore 4, 2) := by decide +kernel
theorem dX0_sendAll_25 : decode cX0_sendAll 25 = .ok (.iload 4, 2) := by decide +kernel
theorem dX0_sendAll_27 : decode cX0_sendAll 27 = .ok (.ifCond .le 12, 3) := by decide +kernel
theorem dX0_sendAll_30 : decode cX0_sendAll 30 = .ok (.aload_n 0, 1) := by decide +kernel
theorem dX0_sendAll_31 : decode cX0_sendAll 31 = .ok (.aload_n 2, 1) := by decide +kernel
theorem dX0_sendAll_32 : decode cX0_sendAll 32 = .ok (.getfield 88, 3) := by decide +kernel
theorem dX0_sendAll_35 : decode cX0_sendAll 35 = .ok (.iload_n 3, 1) := by decide +kernel
theorem dX0_sendAll_36 : decode cX0_sendAll 36 = .ok (.invokevirtual 177, 3) := by decide +kernel
theorem dX0_sendAll_39 : decode cX0_sendAll 39 = .ok (.iconst 0, 1) := by decide +kernel
theorem dX0_sendAll_40 : decode cX0_sendAll 40 = .ok (.istore 5, 2) := by decide +kernel
theorem dX0_sendAll_42 : decode cX0_sendAll 42 = .ok (.iload 5, 2) := by decide +kernel
theorem dX0_sendAll_44 : decode cX0_sendAll 44 = .ok (.iload 4, 2) := by decide +kernel
theorem dX0_sendAll_46 : decode cX0_sendAll 46 = .ok (.if_icmp .ge 85, 3) := by decide +kernel
theorem dX0_sendAll_49 : decode cX0_sendAll 49 = .ok (.aload_n 0, 1) := by decide +kernel
theorem dX0_sendAll_50 : decode cX0_sendAll 50 = .ok (.invokevirtual 180, 3) := by decide +kernel
theorem dX0_sendAll_53 : decode cX0_sendAll 53 = .ok (.istore 6, 2) := by decide +kernel
theorem dX0_sendAll_55 : decode cX0_sendAll 55 = .ok (.iload 6, 2) := by decide +kernel
theorem dX0_sendAll_57 : decode cX0_sendAll 57 = .ok (.iconst (-1), 1) := by decide +kernel
theorem dX0_sendAll_58 : decode cX0_sendAll 58 = .ok (.if_icmp .ne 16, 3) := by decide +kernel
theorem dX0_sendAll_61 : decode cX0_sendAll 61 = .ok (.aload_n 2, 1) := by decide +kernel
theorem dX0_sendAll_62 : decode cX0_sendAll 62 = .ok (.dup, 1) := by decide +kernel
theorem dX0_sendAll_63 : decode cX0_sendAll 63 = .ok (.getfield 85, 3) := by decide +kernel
theorem dX0_sendAll_66 : decode cX0_sendAll 66 = .ok (.iconst 1, 1) := by decide +kernel
theorem dX0_sendAll_67 : decode cX0_sendAll 67 = .ok (.iadd, 1) := by decide +kernel
theorem dX0_sendAll_68 : decode cX0_sendAll 68 = .ok (.putfield 85, 3) := by decide +kernel
theorem dX0_sendAll_71 : decode cX0_sendAll 71 = .ok (.goto 54, 3) := by decide +kernel
theorem dX0_sendAll_74 : decode cX0_sendAll 74 = .ok (.aload_n 0, 1) := by decide +kernel
theorem dX0_sendAll_75 : decode cX0_sendAll 75 = .ok (.getfield 11, 3) := by decide +kernel
theorem dX0_sendAll_78 : decode cX0_sendAll 78 = .ok (.iload 6, 2) := by decide +kernel
theorem dX0_sendAll_80 : decode cX0_sendAll 80 = .ok (.aaload, 1) := by decide +kernel
theorem dX0_sendAll_81 : decode cX0_sendAll 81 = .ok (.iconst 1, 1) := by decide +kernel
theorem dX0_sendAll_82 : decode cX0_sendAll 82 = .ok (.aload_n 2, 1) := by decide +kernel
theorem dX0_sendAll_83 : decode cX0_sendAll 83 = .ok (.getfield 88, 3) := by decide +kernel
theorem dX0_sendAll_86 : decode cX0_sendAll 86 = .ok (.aload_n 0, 1) := by decide +kernel
theorem dX0_sendAll_87 : decode cX0_sendAll 87 = .ok (.getfield 39, 3) := by decide +kernel
theorem dX0_sendAll_90 : decode cX0_sendAll 90 = .ok (.iload 6, 2) := by decide +kernel
theorem dX0_sendAll_92 : decode cX0_sendAll 92 = .ok (.iaload, 1) := by decide +kernel
theorem dX0_sendAll_93 : decode cX0_sendAll 93 = .ok (.invokevirtual 184, 3) := by decide +kernel
theorem dX0_sendAll_96 : decode cX0_sendAll 96 = .ok (.aload_n 0, 1) := by decide +kernel
theorem dX0_sendAll_97 : decode cX0_sendAll 97 = .ok (.getfield 11, 3) := by decide +kernel
theorem dX0_sendAll_100 : decode cX0_sendAll 100 = .ok (.iload 6, 2) := by decide +kernel
theorem dX0_sendAll_102 : decode cX0_sendAll 102 = .ok (.aaload, 1) := by decide +kernel
theorem dX0_sendAll_103 : decode cX0_sendAll 103 = .ok (.iload_n 1, 1) := by decide +kernel
theorem dX0_sendAll_104 : decode cX0_sendAll 104 = .ok (.putfield 188, 3) := by decide +kernel
theorem dX0_sendAll_107 : decode cX0_sendAll 107 = .ok (.aload_n 0, 1) := by decide +kernel
theorem dX0_sendAll_108 : decode cX0_sendAll 108 = .ok (.getfield 39, 3) := by decide +kernel
theorem dX0_sendAll_111 : decode cX0_sendAll 111 = .ok (.iload 6, 2) := by decide +kernel
theorem dX0_sendAll_113 : decode cX0_sendAll 113 = .ok (.iconst (-1), 1) := by decide +kernel
theorem dX0_sendAll_114 : decode cX0_sendAll 114 = .ok (.iastore, 1) := by decide +kernel
theorem dX0_sendAll_115 : decode cX0_sendAll 115 = .ok (.aload_n 2, 1) := by decide +kernel
theorem dX0_sendAll_116 : decode cX0_sendAll 116 = .ok (.dup, 1) := by decide +kernel
theorem dX0_sendAll_117 : decode cX0_sendAll 117 = .ok (.getfield 191, 3) := by decide +kernel
theorem dX0_sendAll_120 : decode cX0_sendAll 120 = .ok (.iconst 1, 1) := by decide +kernel
theorem dX0_sendAll_121 : decode cX0_sendAll 121 = .ok (.iadd, 1) := by decide +kernel
theorem dX0_sendAll_122 : decode cX0_sendAll 122 = .ok (.putfield 191, 3) := by decide +kernel
theorem dX0_sendAll_125 : decode cX0_sendAll 125 = .ok (.iinc 5 1, 3) := by decide +kernel
theorem dX0_sendAll_128 : decode cX0_sendAll 128 = .ok (.goto (-86), 3) := by decide +kernel
theorem dX0_sendAll_131 : decode cX0_sendAll 131 = .ok (.iinc 3 1, 3) := by decide +kernel
theorem dX0_sendAll_134 : decode cX0_sendAll 134 = .ok (.goto (-125), 3) := by decide +kernel
theorem dX0_sendAll_137 : decode cX0_sendAll 137 = .ok (.return_, 1) := by decide +kernel
theorem okX0_sendAll : ab_okM MX0_sendAll 1 := ⟨by decide, ⟨by decide, by decide⟩, ab_in 1118 (by decide +kernel) (by decide +kernel), ab_in 92 (by decide +kernel) (by decide +kernel), by decide +kernel, by decide⟩
set_option maxHeartbeats 4000000 in
set_option maxRecDepth 100000 in
def lX0_sendAll_42 (v1 : Int32) (v2 : Nat) (v3 : Int32) (v4 : Int32) (K : ab_X → Prop) (L9 : Int32 → ab_X → Prop) (L42 : Int32 → ab_X → Prop) (v5 : Int32) (x : ab_X) : Prop := ((v4 ≤ v5 → L9 (v3 + 1) x) ∧ (¬ v4 ≤ v5 → wX0_soonest x (fun r4 => ((¬ r4 = (-1) → (vp_in r4 16 ∧ vp_in r4 16 ∧ wX2_set (82 + Int32.toNatClampNeg r4) 1 (x.1 v2 0) (x.1 80 (Int32.toNatClampNeg r4)) x (fun x7 => (vp_in r4 16 ∧ vp_in r4 16 ∧ L42 (v5 + 1) (wr (wr (wr x7 (82 + Int32.toNatClampNeg r4) 11 v1) 80 (Int32.toNatClampNeg r4) (-1)) v2 5 (((wr (wr x7 (82 + Int32.toNatClampNeg r4) 11 v1) 80 (Int32.toNatClampNeg r4) (-1)).1 v2 5) + 1)))))) ∧ (r4 = (-1) → L42 (v5 + 1) (wr x v2 6 ((x.1 v2 6) + 1)))))))
set_option maxHeartbeats 4000000 in
set_option maxRecDepth 100000 in
theorem sX0_sendAll_42 (v1 : Int32) (v2 : Nat) (v3 : Int32) (v4 : Int32) (v5 : Int32) (hv2 : isK v2) (x : ab_X) (K : ab_X → Prop) (L9 : Int32 → ab_X → Prop) (d bc bs : Nat) (hdp : 4 ≤ d) (hL9 : ∀ (v3 : Int32) (x : ab_X), L9 v3 x → EW MX0_sendAll 9 [(0, .ref 66), (1, .int v1), (2, .ref v2), (3, .int v3)] [] (aS x) d bc bs (liV K)) (h : Lp2 (lX0_sendAll_42 v1 v2 v3 v4 K L9) v5 x) : EW MX0_sendAll 42 [(0, .ref 66), (1, .int v1), (2, .ref v2), (3, .int v3), (4, .int v4), (5, .int v5)] [] (aS x) d bc bs (liV K) := by
  refine Lp2.use (P := fun v5 x => EW MX0_sendAll 42 [(0, .ref 66), (1, .int v1), (2, .ref v2), (3, .int v3), (4, .int v4), (5, .int v5)] [] (aS x) d bc bs (liV K)) (fun L42 v5 x hL42 h => ?_) v5 x h
  unfold lX0_sendAll_42 at h
  refine EW_iload (pc2 := 44) rfl dX0_sendAll_42 5 rfl ?_
  refine EW_iload (pc2 := 46) rfl dX0_sendAll_44 4 rfl ?_
  refine EW_icmp_ge (tgt := 131) (pc2 := 49) rfl dX0_sendAll_46 (by decide) (fun q => ?_) (fun q => ?_)
  · replace h := h.1 q
    refine EW_iinc (v3 + 1) (pc2 := 134) rfl dX0_sendAll_131 3 rfl rfl (by decide) [1, 2, 3, 0, 4, 5] [(0, .ref 66), (1, .int v1), (2, .ref v2), (3, .int (v3 + 1)), (4, .int v4), (5, .int v5)] rfl ?_
    refine EW_goto (tgt := 9) dX0_sendAll_134 (by decide) ?_
    refine EW_ls [0, 1, 2, 3] rfl ?_
    exact hL9 (v3 + 1) x h
  · replace h := h.2 q
    refine EW_aload_n (pc2 := 50) rfl dX0_sendAll_49 0 rfl ?_
    refine AW_invV (M' := MX0_soonest) [] (rest := []) mlRX0_180 okX0_soonest (pc2 := 53) rfl dX0_sendAll_50 rfl rfl (Nat.le_of_ble_eq_true rfl) (Nat.le_of_ble_eq_true rfl) (d' := 0) (by omega) q66 ⟨by decide, rfl⟩ (EW_mono (fun _ _ hr => ?_) (sX0_soonest   x _ _ 0 0 (Nat.le_refl _) h))
    obtain ⟨r4, rfl, rfl, h⟩ := hr
    refine EW_istore (pc2 := 55) rfl dX0_sendAll_53 (by decide) [1, 2, 3, 4, 5, 6, 0] [(0, .ref 66), (1, .int v1), (2, .ref v2), (3, .int v3), (4, .int v4), (5, .int v5), (6, .int r4)] rfl ?_
    refine EW_iload (pc2 := 57) rfl dX0_sendAll_55 6 rfl ?_
    refine EW_iconst (pc2 := 58) (v := (-1)) rfl dX0_sendAll_57 (by decide) ?_
    refine EW_icmp_ne (tgt := 74) (pc2 := 61) rfl dX0_sendAll_58 (by decide) (fun q => ?_) (fun q => ?_)
    · replace h := h.1 q
      refine EW_aload_n (pc2 := 75) rfl dX0_sendAll_74 0 rfl ?_
      refine AW_getr (r := 67) ⟨gfRX0_11, rfl⟩ (pc2 := 78) rfl dX0_sendAll_75 q66 rfl ?_
      refine EW_iload (pc2 := 80) rfl dX0_sendAll_78 6 rfl ?_
      obtain ⟨b5, h⟩ := h
      refine AW_aald6 (pc2 := 81) rfl dX0_sendAll_80 b5 ?_
      refine EW_iconst (pc2 := 82) (v := 1) rfl dX0_sendAll_81 (by decide) ?_
      refine EW_aload_n (pc2 := 83) rfl dX0_sendAll_82 2 rfl ?_
      refine AW_geti ⟨gfRX0_88, rfl⟩ (pc2 := 86) rfl dX0_sendAll_83 (isK.o hv2) ?_
      refine EW_aload_n (pc2 := 87) rfl dX0_sendAll_86 0 rfl ?_
      refine AW_getr (r := 80) ⟨gfRX0_39, rfl⟩ (pc2 := 90) rfl dX0_sendAll_87 q66 rfl ?_
      refine EW_iload (pc2 := 92) rfl dX0_sendAll_90 6 rfl ?_
      obtain ⟨b6, h⟩ := h
      refine AW_iald (pc2 := 93) rfl dX0_sendAll_92 q80 b6 ?_
      refine AW_invV (M' := MX2_set) [.int 1, .int (x.1 v2 0), .int (x.1 80 (Int32.toNatClampNeg r4))] (rest := []) mlRX0_184 okX2_set (pc2 := 96) rfl dX0_sendAll_93 rfl rfl (Nat.le_of_ble_eq_true rfl) (Nat.le_of_ble_eq_true rfl) (d' := 1) (by omega) (isW.o (isW_of b5)) ⟨by decide, rfl⟩ (EW_mono (fun _ _ hr => ?_) (sX2_set (82 + Int32.toNatClampNeg r4) 1 (x.1 v2 0) (x.1 80 (Int32.toNatClampNeg r4)) (isW_of b5) x _ _ 0 0 (Nat.le_refl _) h))
      obtain ⟨x7, rfl, rfl, h⟩ := hr
      refine EW_aload_n (pc2 := 97) rfl dX0_sendAll_96 0 rfl ?_
      refine AW_getr (r := 67) ⟨gfRX0_11, rfl⟩ (pc2 := 100) rfl dX0_sendAll_97 q66 rfl ?_
      refine EW_iload (pc2 := 102) rfl dX0_sendAll_100 6 rfl ?_
      obtain ⟨b8, h⟩ := h
      refine AW_aald6 (pc2 := 103) rfl dX0_sendAll_102 b8 ?_
      refine EW_iload_n (pc2 := 104) rfl dX0_sendAll_103 1 rfl ?_
      refine AW_puti ⟨gfRX0_188, rfl, rfl⟩ (pc2 := 107) rfl dX0_sendAll_104 (isW.o (isW_of b8)) ?_
      refine EW_aload_n (pc2 := 108) rfl dX0_sendAll_107 0 rfl ?_
      refine AW_getr (r := 80) ⟨gfRX0_39, rfl⟩ (pc2 := 111) rfl dX0_sendAll_108 q66 rfl ?_
      refine EW_iload (pc2 := 113) rfl dX0_sendAll_111 6 rfl ?_
      refine EW_iconst (pc2 := 114) (v := (-1)) rfl dX0_sendAll_113 (by decide) ?_
      obtain ⟨b9, h⟩ := h
      refine AW_iast (pc2 := 115) rfl dX0_sendAll_114 q80 b9 ?_
      refine EW_aload_n (pc2 := 116) rfl dX0_sendAll_115 2 rfl ?_
      refine EW_dup (pc2 := 117) rfl dX0_sendAll_116 rfl ?_
      refine AW_geti ⟨gfRX0_191, rfl⟩ (pc2 := 120) rfl dX0_sendAll_117 (isK.o hv2) ?_
      refine EW_iconst (pc2 := 121) (v := 1) rfl dX0_sendAll_120 (by decide) ?_
      refine EW_iadd (pc2 := 122) rfl dX0_sendAll_121 ?_
      refine AW_puti ⟨gfRX0_191, rfl, rfl⟩ (pc2 := 125) rfl dX0_sendAll_122 (isK.o hv2) ?_
      refine EW_iinc (v5 + 1) (pc2 := 128) rfl dX0_sendAll_125 5 rfl rfl (by decide) [1, 2, 3, 4, 5, 0, 6] [(0, .ref 66), (1, .int v1), (2, .ref v2), (3, .int v3), (4, .int v4), (5, .int (v5 + 1)), (6, .int r4)] rfl ?_
      refine EW_goto (tgt := 42) dX0_sendAll_128 (by decide) ?_
      refine EW_ls [0, 1, 2, 3, 4, 5] rfl ?_
      exact hL42 (v5 + 1) (wr (wr (wr x7 (82 + Int32.toNatClampNeg r4) 11 v1) 80 (Int32.toNatClampNeg r4) (-1)) v2 5 (((wr (wr x7 (82 + Int32.toNatClampNeg r4) 11 v1) 80 (Int32.toNatClampNeg r4) (-1)).1 v2 5) + 1)) h
    · replace h := h.2 q
      refine EW_aload_n (pc2 := 62) rfl dX0_sendAll_61 2 rfl ?_
      refine EW_dup (pc2 := 63) rfl dX0_sendAll_62 rfl ?_
      refine AW_geti ⟨gfRX0_85, rfl⟩ (pc2 := 66) rfl dX0_sendAll_63 (isK.o hv2) ?_
      refine EW_iconst (pc2 := 67) (v := 1) rfl dX0_sendAll_66 (by decide) ?_
      refine EW_iadd (pc2 := 68) rfl dX0_sendAll_67 ?_
      refine AW_puti ⟨gfRX0_85, rfl, rfl⟩ (pc2 := 71) rfl dX0_sendAll_68 (isK.o hv2) ?_
      refine EW_goto (tgt := 125) dX0_sendAll_71 (by decide) ?_
      refine EW_iinc (v5 + 1) (pc2 := 128) rfl dX0_sendAll_125 5 rfl rfl (by decide) [1, 2, 3, 4, 5, 0, 6] [(0, .ref 66), (1, .int v1), (2, .ref v2), (3, .int v3), (4, .int v4), (5, .int (v5 + 1)), (6, .int r4)] rfl ?_
      refine EW_goto (tgt := 42) dX0_sendAll_128 (by decide) ?_
      refine EW_ls [0, 1, 2, 3, 4, 5] rfl ?_
      exact hL42 (v5 + 1) (wr x v2 6 ((x.1 v2 6) + 1)) h
set_option maxHeartbeats 4000000 in
set_option maxRecDepth 100000 in
def lX0_sendAll_9 (v1 : Int32) (v2 : Nat) (K : ab_X → Prop)  (L9 : Int32 → ab_X → Prop) (v3 : Int32) (x : ab_X) : Prop := ((4 ≤ v3 → K x) ∧ (¬ 4 ≤ v3 → (vp_in v3 5 ∧ (((x.1 72 (Int32.toNatClampNeg v3)) ≤ 0 → Lp2 (lX0_sendAll_42 v1 v2 v3 (x.1 72 (Int32.toNatClampNeg v3)) K L9) 0 x) ∧ (¬ (x.1 72 (Int32.toNatClampNeg v3)) ≤ 0 → wX0_findArrivals (x.1 v2 0) v3 x (fun x3 => Lp2 (lX0_sendAll_42 v1 v2 v3 (x.1 72 (Int32.toNatClampNeg v3)) K L9) 0 x3))))))
set_option maxHeartbeats 4000000 in
set_option maxRecDepth 100000 in
theorem sX0_sendAll_9 (v1 : Int32) (v2 : Nat) (v3 : Int32) (hv2 : isK v2) (x : ab_X) (K : ab_X → Prop)  (d bc bs : Nat) (hdp : 4 ≤ d)  (h : Lp2 (lX0_sendAll_9 v1 v2 K ) v3 x) : EW MX0_sendAll 9 [(0, .ref 66), (1, .int v1), (2, .ref v2), (3, .int v3)] [] (aS x) d bc bs (liV K) := by
  refine Lp2.use (P := fun v3 x => EW MX0_sendAll 9 [(0, .ref 66), (1, .int v1), (2, .ref v2), (3, .int v3)] [] (aS x) d bc bs (liV K)) (fun L9 v3 x hL9 h => ?_) v3 x h
  unfold lX0_sendAll_9 at h
  refine EW_iload_n (pc2 := 10) rfl dX0_sendAll_9 3 rfl ?_
  refine EW_iconst (pc2 := 11) (v := 4) rfl dX0_sendAll_10 (by decide) ?_
  refine EW_icmp_ge (tgt := 137) (pc2 := 14) rfl dX0_sendAll_11 (by decide) (fun q => ?_) (fun q => ?_)
  · replace h := h.1 q
    exact EW_vret rfl dX0_sendAll_137 ⟨_, rfl, rfl, h⟩
  · replace h := h.2 q
    refine EW_aload_n (pc2 := 15) rfl dX0_sendAll_14 0 rfl ?_
    refine AW_getr (r := 69) ⟨gfRX0_26, rfl⟩ (pc2 := 18) rfl dX0_sendAll_15 q66 rfl ?_
    refine AW_getr (r := 72) ⟨gfRX0_138, rfl⟩ (pc2 := 21) rfl dX0_sendAll_18 q69 rfl ?_
    refine EW_iload_n (pc2 := 22) rfl dX0_sendAll_21 3 rfl ?_
    obtain ⟨b2, h⟩ := h
    refine AW_iald (pc2 := 23) rfl dX0_sendAll_22 q72 b2 ?_
    refine EW_istore (pc2 := 25) rfl dX0_sendAll_23 (by decide) [1, 2, 3, 4, 0] [(0, .ref 66), (1, .int v1), (2, .ref v2), (3, .int v3), (4, .int (x.1 72 (Int32.toNatClampNeg v3)))] rfl ?_
    refine EW_iload (pc2 := 27) rfl dX0_sendAll_25 4 rfl ?_
    refine EW_if_le (tgt := 39) (pc2 := 30) rfl dX0_sendAll_27 (by decide) (fun q => ?_) (fun q => ?_)
    · replace h := h.1 q
      refine EW_iconst (pc2 := 40) (v := 0) rfl dX0_sendAll_39 (by decide) ?_
      refine EW_istore (pc2 := 42) rfl dX0_sendAll_40 (by decide) [1, 2, 3, 4, 5, 0] [(0, .ref 66), (1, .int v1), (2, .ref v2), (3, .int v3), (4, .int (x.1 72 (Int32.toNatClampNeg v3))), (5, .int 0)] rfl ?_
      exact sX0_sendAll_42 v1 v2 v3 (x.1 72 (Int32.toNatClampNeg v3)) 0 hv2 x K L9 d bc bs hdp hL9 h
    · replace h := h.2 q
      refine EW_aload_n (pc2 := 31) rfl dX0_sendAll_30 0 rfl ?_
      refine EW_aload_n (pc2 := 32) rfl dX0_sendAll_31 2 rfl ?_
      refine AW_geti ⟨gfRX0_88, rfl⟩ (pc2 := 35) rfl dX0_sendAll_32 (isK.o hv2) ?_
      refine EW_iload_n (pc2 := 36) rfl dX0_sendAll_35 3 rfl ?_
      refine AW_invV (M' := MX0_findArrivals) [.int (x.1 v2 0), .int v3] (rest := []) mlRX0_177 okX0_findArrivals (pc2 := 39) rfl dX0_sendAll_36 rfl rfl (Nat.le_of_ble_eq_true rfl) (Nat.le_of_ble_eq_true rfl) (d' := 3) (by omega) q66 ⟨by decide, rfl⟩ (EW_mono (fun _ _ hr => ?_) (sX0_findArrivals (x.1 v2 0) v3  x _ _ 0 0 (Nat.le_refl _) h))
      obtain ⟨x3, rfl, rfl, h⟩ := hr
      refine EW_iconst (pc2 := 40) (v := 0) rfl dX0_sendAll_39 (by decide) ?_
      refine EW_istore (pc2 := 42) rfl dX0_sendAll_40 (by decide) [1, 2, 3, 4, 5, 0] [(0, .ref 66), (1, .int v1), (2, .ref v2), (3, .int v3), (4, .int (x.1 72 (Int32.toNatClampNeg v3))), (5, .int 0)] rfl ?_
      exact sX0_sendAll_42 v1 v2 v3 (x.1 72 (Int32.toNatClampNeg v3)) 0 hv2 x3 K L9 d bc bs hdp hL9 h
set_option maxHeartbeats 4000000 in
set_option maxRecDepth 100000 in
def wX0_sendAll (v1 : Int32) (x : ab_X) (K : ab_X → Prop) : Prop := (vp_in v1 60 ∧ Lp2 (lX0_sendAll_9 v1 (98 + Int32.toNatClampNeg v1) K ) 0 x)
set_option maxHeartbeats 4000000 in
set_option maxRecDepth 100000 in
theorem sX0_sendAll (v1 : Int32)  (x : ab_X) (K : ab_X → Prop) (d bc bs : Nat) (hdp : 4 ≤ d) (h : wX0_sendAll v1 x K) : EW MX0_sendAll 0 [(0, .ref 66), (1, .int v1)] [] (aS x) d bc bs (liV K) := by
  unfold wX0_sendAll at h
  refine EW_aload_n (pc2 := 1) rfl dX0_sendAll_0 0 rfl ?_
  refine AW_getr (r := 68) ⟨gfRX0_19, rfl⟩ (pc2 := 4) rfl dX0_sendAll_1 q66 rfl ?_
  refine EW_iload_n (pc2 := 5) rfl dX0_sendAll_4 1 rfl ?_
  obtain ⟨b1, h⟩ := h
  refine AW_aald7 (pc2 := 6) rfl dX0_sendAll_5 b1 ?_
  refine EW_astore_n (pc2 := 7) rfl dX0_sendAll_6 (by decide) [1, 2, 0] [(0, .ref 66), (1, .int v1), (2, .ref (98 + Int32.toNatClampNeg v1))] rfl ?_
  refine EW_iconst (pc2 := 8) (v := 0) rfl dX0_sendAll_7 (by decide) ?_
  refine EW_istore_n (pc2 := 9) rfl dX0_sendAll_8 (by decide) [1, 2, 3, 0] [(0, .ref 66), (1, .int v1), (2, .ref (98 + Int32.toNatClampNeg v1)), (3, .int 0)] rfl ?_
  exact sX0_sendAll_9 v1 (98 + Int32.toNatClampNeg v1) 0 (isK_of b1) x K d bc bs hdp h
theorem mlRX0_59 : Cond.methodLinkNest RX0 59 yX11_below "CityBrigade" ∈ tables_1.filter ab_isN ∧ Cond.static yX11_below ∈ ab_G := ⟨List.mem_filter.mpr ⟨List.mem_of_getElem? (i := 898) (by decide +kernel), rfl⟩, ab_in 794 (by decide +kernel) (by decide +kernel)⟩
theorem gfRX0_124 : ab_L RX0 124 1 7 := ⟨by decide, by decide, ab_in 521 (by decide +kernel) (by decide +kernel)⟩
theorem gfRX0_127 : ab_L RX0 127 1 1 := ⟨by decide, by decide, ab_in 508 (by decide +kernel) (by decide +kernel)⟩
theorem mlRX0_130 : Cond.methodLink RX0 130 yX0_readOrders ∈ ab_G ∧ Cond.instanceMethod yX0_readOrders ∈ ab_G ∧ Cond.selects RX0 yX0_readOrders yX0_readOrders ∈ ab_G := ⟨ab_in 1055 (by decide +kernel) (by decide +kernel), ab_in 1056 (by decide +kernel) (by decide +kernel), ab_in 1057 (by decide +kernel) (by decide +kernel)⟩
theorem mlRX0_134 : Cond.methodLink RX0 134 yX0_sendAll ∈ ab_G ∧ Cond.instanceMethod yX0_sendAll ∈ ab_G ∧ Cond.selects RX0 yX0_sendAll yX0_sendAll ∈ ab_G := ⟨ab_in 1115 (by decide +kernel) (by decide +kernel), ab_in 1116 (by decide +kernel) (by decide +kernel), ab_in 1117 (by decide +kernel) (by decide +kernel)⟩
theorem mlRX0_141 : Cond.methodLink RX0 141 yX0_moveAll ∈ ab_G ∧ Cond.instanceMethod yX0_moveAll ∈ ab_G ∧ Cond.selects RX0 yX0_moveAll yX0_moveAll ∈ ab_G := ⟨ab_in 1127 (by decide +kernel) (by decide +kernel), ab_in 1128 (by decide +kernel) (by decide +kernel), ab_in 1129 (by decide +kernel) (by decide +kernel)⟩
theorem mlRX0_121 : Cond.methodLink RX0 121 yX0_begin ∈ ab_G ∧ Cond.instanceMethod yX0_begin ∈ ab_G ∧ Cond.selects RX0 yX0_begin yX0_begin ∈ ab_G := ⟨ab_in 1051 (by decide +kernel) (by decide +kernel), ab_in 1052 (by decide +kernel) (by decide +kernel), ab_in 1053 (by decide +kernel) (by decide +kernel)⟩
abbrev MX0_answer : ab_M := (yX0_answer, cX0_answer, 5, (some .int))
theorem dX0_answer_0 : decode cX0_answer 0 = .ok (.aload_n 0, 1) := by decide +kernel
theorem dX0_answer_1 : decode cX0_answer 1 = .ok (.iload_n 1, 1) := by decide +kernel
theorem dX0_answer_2 : decode cX0_answer 2 = .ok (.invokevirtual 118, 3) := by decide +kernel
theorem dX0_answer_5 : decode cX0_answer 5 = .ok (.istore_n 2, 1) := by decide +kernel
theorem dX0_answer_6 : decode cX0_answer 6 = .ok (.iload_n 2, 1) := by decide +kernel
theorem dX0_answer_7 : decode cX0_answer 7 = .ok (.iconst (-1), 1) := by decide +kernel
theorem dX0_answer_8 : decode cX0_answer 8 = .ok (.if_icmp .ne 11, 3) := by decide +kernel
theorem dX0_answer_11 : decode cX0_answer 11 = .ok (.aload_n 0, 1) := by decide +kernel
theorem dX0_answer_12 : decode cX0_answer 12 = .ok (.iload_n 1, 1) := by decide +kernel
theorem dX0_answer_13 : decode cX0_answer 13 = .ok (.invokevirtual 121, 3) := by decide +kernel
theorem dX0_answer_16 : decode cX0_answer 16 = .ok (.goto 4, 3) := by decide +kernel
theorem dX0_answer_19 : decode cX0_answer 19 = .ok (.iload_n 2, 1) := by decide +kernel
theorem dX0_answer_20 : decode cX0_answer 20 = .ok (.istore_n 3, 1) := by decide +kernel
theorem dX0_answer_21 : decode cX0_answer 21 = .ok (.iload_n 3, 1) := by decide +kernel
theorem dX0_answer_22 : decode cX0_answer 22 = .ok (.aload_n 0, 1) := by decide +kernel
theorem dX0_answer_23 : decode cX0_answer 23 = .ok (.getfield 81, 3) := by decide +kernel
theorem dX0_answer_26 : decode cX0_answer 26 = .ok (.invokestatic 59, 3) := by decide +kernel
theorem dX0_answer_29 : decode cX0_answer 29 = .ok (.ifCond .ne 5, 3) := by decide +kernel
theorem dX0_answer_32 : decode cX0_answer 32 = .ok (.iconst (-1), 1) := by decide +kernel
theorem dX0_answer_33 : decode cX0_answer 33 = .ok (.ireturn, 1) := by decide +kernel
theorem dX0_answer_34 : decode cX0_answer 34 = .ok (.aload_n 0, 1) := by decide +kernel
theorem dX0_answer_35 : decode cX0_answer 35 = .ok (.getfield 19, 3) := by decide +kernel
theorem dX0_answer_38 : decode cX0_answer 38 = .ok (.iload_n 3, 1) := by decide +kernel
theorem dX0_answer_39 : decode cX0_answer 39 = .ok (.aaload, 1) := by decide +kernel
theorem dX0_answer_40 : decode cX0_answer 40 = .ok (.astore 4, 2) := by decide +kernel
theorem dX0_answer_42 : decode cX0_answer 42 = .ok (.aload 4, 2) := by decide +kernel
theorem dX0_answer_44 : decode cX0_answer 44 = .ok (.dup, 1) := by decide +kernel
theorem dX0_answer_45 : decode cX0_answer 45 = .ok (.getfield 124, 3) := by decide +kernel
theorem dX0_answer_48 : decode cX0_answer 48 = .ok (.iconst 1, 1) := by decide +kernel
theorem dX0_answer_49 : decode cX0_answer 49 = .ok (.iadd, 1) := by decide +kernel
theorem dX0_answer_50 : decode cX0_answer 50 = .ok (.putfield 124, 3) := by decide +kernel
theorem dX0_answer_53 : decode cX0_answer 53 = .ok (.aload 4, 2) := by decide +kernel
theorem dX0_answer_55 : decode cX0_answer 55 = .ok (.getfield 127, 3) := by decide +kernel
theorem dX0_answer_58 : decode cX0_answer 58 = .ok (.iconst 3, 1) := by decide +kernel
theorem dX0_answer_59 : decode cX0_answer 59 = .ok (.if_icmp .ge 42, 3) := by decide +kernel
theorem dX0_answer_62 : decode cX0_answer 62 = .ok (.aload 4, 2) := by decide +kernel
theorem dX0_answer_64 : decode cX0_answer 64 = .ok (.dup, 1) := by decide +kernel
theorem dX0_answer_65 : decode cX0_answer 65 = .ok (.getfield 127, 3) := by decide +kernel
theorem dX0_answer_68 : decode cX0_answer 68 = .ok (.iconst 1, 1) := by decide +kernel
theorem dX0_answer_69 : decode cX0_answer 69 = .ok (.iadd, 1) := by decide +kernel
theorem dX0_answer_70 : decode cX0_answer 70 = .ok (.putfield 127, 3) := by decide +kernel
theorem dX0_answer_73 : decode cX0_answer 73 = .ok (.aload_n 0, 1) := by decide +kernel
theorem dX0_answer_74 : decode cX0_answer 74 = .ok (.iload_n 1, 1) := by decide +kernel
theorem dX0_answer_75 : decode cX0_answer 75 = .ok (.aload 4, 2) := by decide +kernel
theorem dX0_answer_77 : decode cX0_answer 77 = .ok (.getfield 127, 3) := by decide +kernel
theorem dX0_answer_80 : decode cX0_answer 80 = .ok (.invokevirtual 130, 3) := by decide +kernel
theorem dX0_answer_83 : decode cX0_answer 83 = .ok (.aload_n 0, 1) := by decide +kernel
theorem dX0_answer_84 : decode cX0_answer 84 = .ok (.iload_n 3, 1) := by decide +kernel
theorem dX0_answer_85 : decode cX0_answer 85 = .ok (.invokevirtual 134, 3) := by decide +kernel
theorem dX0_answer_88 : decode cX0_answer 88 = .ok (.aload_n 0, 1) := by decide +kernel
theorem dX0_answer_89 : decode cX0_answer 89 = .ok (.aload_n 0, 1) := by decide +kernel
theorem dX0_answer_90 : decode cX0_answer 90 = .ok (.getfield 26, 3) := by decide +kernel
theorem dX0_answer_93 : decode cX0_answer 93 = .ok (.getfield 138, 3) := by decide +kernel
theorem dX0_answer_96 : decode cX0_answer 96 = .ok (.iconst 4, 1) := by decide +kernel
theorem dX0_answer_97 : decode cX0_answer 97 = .ok (.iaload, 1) := by decide +kernel
theorem dX0_answer_98 : decode cX0_answer 98 = .ok (.invokevirtual 141, 3) := by decide +kernel
theorem dX0_answer_101 : decode cX0_answer 101 = .ok (.iload_n 3, 1) := by decide +kernel
theorem dX0_answer_102 : decode cX0_answer 102 = .ok (.ireturn, 1) := by decide +kernel
theorem okX0_answer : ab_okM MX0_answer 1 := ⟨by decide, ⟨by decide, by decide⟩, ab_in 1046 (by decide +kernel) (by decide +kernel), ab_in 92 (by decide +kernel) (by decide +kernel), by decide +kernel, by decide⟩
set_option maxHeartbeats 4000000 in
set_option maxRecDepth 100000 in
def wX0_answer_20 (v1 : Int32) (s0 : Int32) (x : ab_X) (K : Int32 → ab_X → Prop)  : Prop := wX11_below s0 (x.1 66 5) x (fun r4 => ((¬ r4 = 0 → (vp_in s0 60 ∧ ((3 ≤ ((wr x (98 + Int32.toNatClampNeg s0) 7 ((x.1 (98 + Int32.toNatClampNeg s0) 7) + 1)).1 (98 + Int32.toNatClampNeg s0) 1) → K s0 (wr x (98 + Int32.toNatClampNeg s0) 7 ((x.1 (98 + Int32.toNatClampNeg s0) 7) + 1))) ∧ (¬ 3 ≤ ((wr x (98 + Int32.toNatClampNeg s0) 7 ((x.1 (98 + Int32.toNatClampNeg s0) 7) + 1)).1 (98 + Int32.toNatClampNeg s0) 1) → wX0_readOrders v1 ((wr (wr x (98 + Int32.toNatClampNeg s0) 7 ((x.1 (98 + Int32.toNatClampNeg s0) 7) + 1)) (98 + Int32.toNatClampNeg s0) 1 (((wr x (98 + Int32.toNatClampNeg s0) 7 ((x.1 (98 + Int32.toNatClampNeg s0) 7) + 1)).1 (98 + Int32.toNatClampNeg s0) 1) + 1)).1 (98 + Int32.toNatClampNeg s0) 1) (wr (wr x (98 + Int32.toNatClampNeg s0) 7 ((x.1 (98 + Int32.toNatClampNeg s0) 7) + 1)) (98 + Int32.toNatClampNeg s0) 1 (((wr x (98 + Int32.toNatClampNeg s0) 7 ((x.1 (98 + Int32.toNatClampNeg s0) 7) + 1)).1 (98 + Int32.toNatClampNeg s0) 1) + 1)) (fun x6 => wX0_sendAll s0 x6 (fun x7 => (vp_in 4 5 ∧ wX0_moveAll (x7.1 72 (Int32.toNatClampNeg 4)) x7 (fun x9 => K s0 x9)))))))) ∧ (r4 = 0 → K (-1) x)))
set_option maxHeartbeats 4000000 in
set_option maxRecDepth 100000 in
theorem sX0_answer_20 (v1 : Int32) (s0 : Int32)  (x : ab_X) (K : Int32 → ab_X → Prop)  (d bc bs : Nat) (hdp : 5 ≤ d)  (h : wX0_answer_20 v1 s0 x K ) : EW MX0_answer 20 [(0, .ref 66), (1, .int v1)] [.int s0] (aS x) d bc bs (liI K) := by
  unfold wX0_answer_20 at h
  refine EW_istore_n (pc2 := 21) rfl dX0_answer_20 (by decide) [1, 2, 0] [(0, .ref 66), (1, .int v1), (3, .int s0)] rfl ?_
  refine EW_iload_n (pc2 := 22) rfl dX0_answer_21 2 rfl ?_
  refine EW_aload_n (pc2 := 23) rfl dX0_answer_22 0 rfl ?_
  refine AW_geti ⟨gfRX0_81, rfl⟩ (pc2 := 26) rfl dX0_answer_23 q66 ?_
  refine AW_invSN (M' := MX11_below) [.int s0, .int (x.1 66 5)] (rest := []) mlRX0_59 okX11_below (pc2 := 29) rfl dX0_answer_26 rfl rfl (Nat.le_of_ble_eq_true rfl) (Nat.le_of_ble_eq_true rfl) (d' := 0) (by omega) (EW_mono (fun _ _ hr => ?_) (sX11_below s0 (x.1 66 5)  x _ _ 0 0 (Nat.le_refl _) h))
  obtain ⟨r4, rfl, rfl, h⟩ := hr
  refine EW_if_ne (tgt := 34) (pc2 := 32) rfl dX0_answer_29 (by decide) (fun q => ?_) (fun q => ?_)
  · replace h := h.1 q
    refine EW_aload_n (pc2 := 35) rfl dX0_answer_34 0 rfl ?_
    refine AW_getr (r := 68) ⟨gfRX0_19, rfl⟩ (pc2 := 38) rfl dX0_answer_35 q66 rfl ?_
    refine EW_iload_n (pc2 := 39) rfl dX0_answer_38 2 rfl ?_
    obtain ⟨b5, h⟩ := h
    refine AW_aald7 (pc2 := 40) rfl dX0_answer_39 b5 ?_
    refine EW_astore (pc2 := 42) rfl dX0_answer_40 (by decide) [1, 2, 3, 0] [(0, .ref 66), (1, .int v1), (3, .int s0), (4, .ref (98 + Int32.toNatClampNeg s0))] rfl ?_
    refine EW_aload (pc2 := 44) rfl dX0_answer_42 3 rfl ?_
    refine EW_dup (pc2 := 45) rfl dX0_answer_44 rfl ?_
    refine AW_geti ⟨gfRX0_124, rfl⟩ (pc2 := 48) rfl dX0_answer_45 (isK.o (isK_of b5)) ?_
    refine EW_iconst (pc2 := 49) (v := 1) rfl dX0_answer_48 (by decide) ?_
    refine EW_iadd (pc2 := 50) rfl dX0_answer_49 ?_
    refine AW_puti ⟨gfRX0_124, rfl, rfl⟩ (pc2 := 53) rfl dX0_answer_50 (isK.o (isK_of b5)) ?_
    refine EW_aload (pc2 := 55) rfl dX0_answer_53 3 rfl ?_
    refine AW_geti ⟨gfRX0_127, rfl⟩ (pc2 := 58) rfl dX0_answer_55 (isK.o (isK_of b5)) ?_
    refine EW_iconst (pc2 := 59) (v := 3) rfl dX0_answer_58 (by decide) ?_
    refine EW_icmp_ge (tgt := 101) (pc2 := 62) rfl dX0_answer_59 (by decide) (fun q => ?_) (fun q => ?_)
    · replace h := h.1 q
      refine EW_iload_n (pc2 := 102) rfl dX0_answer_101 2 rfl ?_
      exact AW_iret rfl dX0_answer_102 ⟨_, _, rfl, rfl, h⟩
    · replace h := h.2 q
      refine EW_aload (pc2 := 64) rfl dX0_answer_62 3 rfl ?_
      refine EW_dup (pc2 := 65) rfl dX0_answer_64 rfl ?_
      refine AW_geti ⟨gfRX0_127, rfl⟩ (pc2 := 68) rfl dX0_answer_65 (isK.o (isK_of b5)) ?_
      refine EW_iconst (pc2 := 69) (v := 1) rfl dX0_answer_68 (by decide) ?_
      refine EW_iadd (pc2 := 70) rfl dX0_answer_69 ?_
      refine AW_puti ⟨gfRX0_127, rfl, rfl⟩ (pc2 := 73) rfl dX0_answer_70 (isK.o (isK_of b5)) ?_
      refine EW_aload_n (pc2 := 74) rfl dX0_answer_73 0 rfl ?_
      refine EW_iload_n (pc2 := 75) rfl dX0_answer_74 1 rfl ?_
      refine EW_aload (pc2 := 77) rfl dX0_answer_75 3 rfl ?_
      refine AW_geti ⟨gfRX0_127, rfl⟩ (pc2 := 80) rfl dX0_answer_77 (isK.o (isK_of b5)) ?_
      refine AW_invV (M' := MX0_readOrders) [.int v1, .int ((wr (wr x (98 + Int32.toNatClampNeg s0) 7 ((x.1 (98 + Int32.toNatClampNeg s0) 7) + 1)) (98 + Int32.toNatClampNeg s0) 1 (((wr x (98 + Int32.toNatClampNeg s0) 7 ((x.1 (98 + Int32.toNatClampNeg s0) 7) + 1)).1 (98 + Int32.toNatClampNeg s0) 1) + 1)).1 (98 + Int32.toNatClampNeg s0) 1)] (rest := []) mlRX0_130 okX0_readOrders (pc2 := 83) rfl dX0_answer_80 rfl rfl (Nat.le_of_ble_eq_true rfl) (Nat.le_of_ble_eq_true rfl) (d' := 3) (by omega) q66 ⟨by decide, rfl⟩ (EW_mono (fun _ _ hr => ?_) (sX0_readOrders v1 ((wr (wr x (98 + Int32.toNatClampNeg s0) 7 ((x.1 (98 + Int32.toNatClampNeg s0) 7) + 1)) (98 + Int32.toNatClampNeg s0) 1 (((wr x (98 + Int32.toNatClampNeg s0) 7 ((x.1 (98 + Int32.toNatClampNeg s0) 7) + 1)).1 (98 + Int32.toNatClampNeg s0) 1) + 1)).1 (98 + Int32.toNatClampNeg s0) 1)  (wr (wr x (98 + Int32.toNatClampNeg s0) 7 ((x.1 (98 + Int32.toNatClampNeg s0) 7) + 1)) (98 + Int32.toNatClampNeg s0) 1 (((wr x (98 + Int32.toNatClampNeg s0) 7 ((x.1 (98 + Int32.toNatClampNeg s0) 7) + 1)).1 (98 + Int32.toNatClampNeg s0) 1) + 1)) _ _ 0 0 (Nat.le_refl _) h))
      obtain ⟨x6, rfl, rfl, h⟩ := hr
      refine EW_aload_n (pc2 := 84) rfl dX0_answer_83 0 rfl ?_
      refine EW_iload_n (pc2 := 85) rfl dX0_answer_84 2 rfl ?_
      refine AW_invV (M' := MX0_sendAll) [.int s0] (rest := []) mlRX0_134 okX0_sendAll (pc2 := 88) rfl dX0_answer_85 rfl rfl (Nat.le_of_ble_eq_true rfl) (Nat.le_of_ble_eq_true rfl) (d' := 4) (by omega) q66 ⟨by decide, rfl⟩ (EW_mono (fun _ _ hr => ?_) (sX0_sendAll s0  x6 _ _ 0 0 (Nat.le_refl _) h))
      obtain ⟨x7, rfl, rfl, h⟩ := hr
      refine EW_aload_n (pc2 := 89) rfl dX0_answer_88 0 rfl ?_
      refine EW_aload_n (pc2 := 90) rfl dX0_answer_89 0 rfl ?_
      refine AW_getr (r := 69) ⟨gfRX0_26, rfl⟩ (pc2 := 93) rfl dX0_answer_90 q66 rfl ?_
      refine AW_getr (r := 72) ⟨gfRX0_138, rfl⟩ (pc2 := 96) rfl dX0_answer_93 q69 rfl ?_
      refine EW_iconst (pc2 := 97) (v := 4) rfl dX0_answer_96 (by decide) ?_
      obtain ⟨b8, h⟩ := h
      refine AW_iald (pc2 := 98) rfl dX0_answer_97 q72 b8 ?_
      refine AW_invV (M' := MX0_moveAll) [.int (x7.1 72 (Int32.toNatClampNeg 4))] (rest := []) mlRX0_141 okX0_moveAll (pc2 := 101) rfl dX0_answer_98 rfl rfl (Nat.le_of_ble_eq_true rfl) (Nat.le_of_ble_eq_true rfl) (d' := 3) (by omega) q66 ⟨by decide, rfl⟩ (EW_mono (fun _ _ hr => ?_) (sX0_moveAll (x7.1 72 (Int32.toNatClampNeg 4))  x7 _ _ 0 0 (Nat.le_refl _) h))
      obtain ⟨x9, rfl, rfl, h⟩ := hr
      refine EW_iload_n (pc2 := 102) rfl dX0_answer_101 2 rfl ?_
      exact AW_iret rfl dX0_answer_102 ⟨_, _, rfl, rfl, h⟩
  · replace h := h.2 q
    refine EW_iconst (pc2 := 33) (v := (-1)) rfl dX0_answer_32 (by decide) ?_
    exact AW_iret rfl dX0_answer_33 ⟨_, _, rfl, rfl, h⟩
set_option maxHeartbeats 4000000 in
set_option maxRecDepth 100000 in
def wX0_answer (v1 : Int32) (x : ab_X) (K : Int32 → ab_X → Prop) : Prop := wX0_openAt v1 x (fun r1 => ((¬ r1 = (-1) → wX0_answer_20 v1 r1 x K) ∧ (r1 = (-1) → wX0_begin v1 x (fun r2 x3 => wX0_answer_20 v1 r2 x3 K))))
set_option maxHeartbeats 4000000 in
set_option maxRecDepth 100000 in
theorem sX0_answer (v1 : Int32)  (x : ab_X) (K : Int32 → ab_X → Prop) (d bc bs : Nat) (hdp : 5 ≤ d) (h : wX0_answer v1 x K) : EW MX0_answer 0 [(0, .ref 66), (1, .int v1)] [] (aS x) d bc bs (liI K) := by
  unfold wX0_answer at h
  refine EW_aload_n (pc2 := 1) rfl dX0_answer_0 0 rfl ?_
  refine EW_iload_n (pc2 := 2) rfl dX0_answer_1 1 rfl ?_
  refine AW_invV (M' := MX0_openAt) [.int v1] (rest := []) mlRX0_118 okX0_openAt (pc2 := 5) rfl dX0_answer_2 rfl rfl (Nat.le_of_ble_eq_true rfl) (Nat.le_of_ble_eq_true rfl) (d' := 0) (by omega) q66 ⟨by decide, rfl⟩ (EW_mono (fun _ _ hr => ?_) (sX0_openAt v1  x _ _ 0 0 (Nat.le_refl _) h))
  obtain ⟨r1, rfl, rfl, h⟩ := hr
  refine EW_istore_n (pc2 := 6) rfl dX0_answer_5 (by decide) [1, 2, 0] [(0, .ref 66), (1, .int v1), (2, .int r1)] rfl ?_
  refine EW_iload_n (pc2 := 7) rfl dX0_answer_6 2 rfl ?_
  refine EW_iconst (pc2 := 8) (v := (-1)) rfl dX0_answer_7 (by decide) ?_
  refine EW_icmp_ne (tgt := 19) (pc2 := 11) rfl dX0_answer_8 (by decide) (fun q => ?_) (fun q => ?_)
  · replace h := h.1 q
    refine EW_iload_n (pc2 := 20) rfl dX0_answer_19 2 rfl ?_
    refine EW_ls [0, 1] rfl ?_
    exact sX0_answer_20 v1 r1 x K d bc bs hdp h
  · replace h := h.2 q
    refine EW_aload_n (pc2 := 12) rfl dX0_answer_11 0 rfl ?_
    refine EW_iload_n (pc2 := 13) rfl dX0_answer_12 1 rfl ?_
    refine AW_invV (M' := MX0_begin) [.int v1] (rest := []) mlRX0_121 okX0_begin (pc2 := 16) rfl dX0_answer_13 rfl rfl (Nat.le_of_ble_eq_true rfl) (Nat.le_of_ble_eq_true rfl) (d' := 3) (by omega) q66 ⟨by decide, rfl⟩ (EW_mono (fun _ _ hr => ?_) (sX0_begin v1  x _ _ 0 0 (Nat.le_refl _) h))
    obtain ⟨r2, x3, rfl, rfl, h⟩ := hr
    refine EW_goto (tgt := 20) dX0_answer_16 (by decide) ?_
    refine EW_ls [0, 1] rfl ?_
    exact sX0_answer_20 v1 r2 x3 K d bc bs hdp h
abbrev MX2_rest : ab_M := (yX2_rest, cX2_rest, 2, none)
theorem dX2_rest_0 : decode cX2_rest 0 = .ok (.aload_n 0, 1) := by decide +kernel
theorem dX2_rest_1 : decode cX2_rest 1 = .ok (.invokevirtual 60, 3) := by decide +kernel
theorem dX2_rest_4 : decode cX2_rest 4 = .ok (.aload_n 0, 1) := by decide +kernel
theorem dX2_rest_5 : decode cX2_rest 5 = .ok (.iconst 0, 1) := by decide +kernel
theorem dX2_rest_6 : decode cX2_rest 6 = .ok (.putfield 63, 3) := by decide +kernel
theorem dX2_rest_9 : decode cX2_rest 9 = .ok (.aload_n 0, 1) := by decide +kernel
theorem dX2_rest_10 : decode cX2_rest 10 = .ok (.iload_n 1, 1) := by decide +kernel
theorem dX2_rest_11 : decode cX2_rest 11 = .ok (.putfield 66, 3) := by decide +kernel
theorem dX2_rest_14 : decode cX2_rest 14 = .ok (.aload_n 0, 1) := by decide +kernel
theorem dX2_rest_15 : decode cX2_rest 15 = .ok (.iconst (-1), 1) := by decide +kernel
theorem dX2_rest_16 : decode cX2_rest 16 = .ok (.putfield 9, 3) := by decide +kernel
theorem dX2_rest_19 : decode cX2_rest 19 = .ok (.return_, 1) := by decide +kernel
theorem okX2_rest : ab_okM MX2_rest 1 := ⟨by decide, ⟨by decide, by decide⟩, ab_in 996 (by decide +kernel) (by decide +kernel), ab_in 94 (by decide +kernel) (by decide +kernel), by decide +kernel, by decide⟩
set_option maxHeartbeats 4000000 in
set_option maxRecDepth 100000 in
def wX2_rest (v0 : Nat) (v1 : Int32) (x : ab_X) (K : ab_X → Prop) : Prop := wX2_leaveWork v0 x (fun x1 => K (wr (wr (wr x1 v0 8 0) v0 9 v1) v0 10 (-1)))
set_option maxHeartbeats 4000000 in
set_option maxRecDepth 100000 in
theorem sX2_rest (v0 : Nat) (v1 : Int32) (hv0 : isW v0) (x : ab_X) (K : ab_X → Prop) (d bc bs : Nat) (hdp : 1 ≤ d) (h : wX2_rest v0 v1 x K) : EW MX2_rest 0 [(0, .ref v0), (1, .int v1)] [] (aS x) d bc bs (liV K) := by
  unfold wX2_rest at h
  refine EW_aload_n (pc2 := 1) rfl dX2_rest_0 0 rfl ?_
  refine AW_invV (M' := MX2_leaveWork) [] (rest := []) mlRX2_60 okX2_leaveWork (pc2 := 4) rfl dX2_rest_1 rfl rfl (Nat.le_of_ble_eq_true rfl) (Nat.le_of_ble_eq_true rfl) (d' := 0) (by omega) (isW.o hv0) ⟨by decide, rfl⟩ (EW_mono (fun _ _ hr => ?_) (sX2_leaveWork v0 hv0 x _ _ 0 0 (Nat.le_refl _) h))
  obtain ⟨x1, rfl, rfl, h⟩ := hr
  refine EW_aload_n (pc2 := 5) rfl dX2_rest_4 0 rfl ?_
  refine EW_iconst (pc2 := 6) (v := 0) rfl dX2_rest_5 (by decide) ?_
  refine AW_puti ⟨gfRX2_63, rfl, rfl⟩ (pc2 := 9) rfl dX2_rest_6 (isW.o hv0) ?_
  refine EW_aload_n (pc2 := 10) rfl dX2_rest_9 0 rfl ?_
  refine EW_iload_n (pc2 := 11) rfl dX2_rest_10 1 rfl ?_
  refine AW_puti ⟨gfRX2_66, rfl, rfl⟩ (pc2 := 14) rfl dX2_rest_11 (isW.o hv0) ?_
  refine EW_aload_n (pc2 := 15) rfl dX2_rest_14 0 rfl ?_
  refine EW_iconst (pc2 := 16) (v := (-1)) rfl dX2_rest_15 (by decide) ?_
  refine AW_puti ⟨gfRX2_9, rfl, rfl⟩ (pc2 := 19) rfl dX2_rest_16 (isW.o hv0) ?_
  exact EW_vret rfl dX2_rest_19 ⟨_, rfl, rfl, h⟩
theorem mlRX0_217 : Cond.methodLink RX0 217 yX2_rest ∈ ab_G ∧ Cond.instanceMethod yX2_rest ∈ ab_G ∧ Cond.selects RX2 yX2_rest yX2_rest ∈ ab_G := ⟨ab_in 1018 (by decide +kernel) (by decide +kernel), ab_in 994 (by decide +kernel) (by decide +kernel), ab_in 995 (by decide +kernel) (by decide +kernel)⟩
abbrev MX0_turnHome : ab_M := (yX0_turnHome, cX0_turnHome, 3, none)
theorem dX0_turnHome_0 : decode cX0_turnHome 0 = .ok (.aload_n 0, 1) := by decide +kernel
theorem dX0_turnHome_1 : decode cX0_turnHome 1 = .ok (.aload_n 1, 1) := by decide +kernel
theorem dX0_turnHome_2 : decode cX0_turnHome 2 = .ok (.aload_n 1, 1) := by decide +kernel
theorem dX0_turnHome_3 : decode cX0_turnHome 3 = .ok (.getfield 66, 3) := by decide +kernel
theorem dX0_turnHome_6 : decode cX0_turnHome 6 = .ok (.invokevirtual 194, 3) := by decide +kernel
theorem dX0_turnHome_9 : decode cX0_turnHome 9 = .ok (.istore_n 2, 1) := by decide +kernel
theorem dX0_turnHome_10 : decode cX0_turnHome 10 = .ok (.iload_n 2, 1) := by decide +kernel
theorem dX0_turnHome_11 : decode cX0_turnHome 11 = .ok (.iconst (-1), 1) := by decide +kernel
theorem dX0_turnHome_12 : decode cX0_turnHome 12 = .ok (.if_icmp .eq 11, 3) := by decide +kernel
theorem dX0_turnHome_15 : decode cX0_turnHome 15 = .ok (.iload_n 2, 1) := by decide +kernel
theorem dX0_turnHome_16 : decode cX0_turnHome 16 = .ok (.aload_n 0, 1) := by decide +kernel
theorem dX0_turnHome_17 : decode cX0_turnHome 17 = .ok (.getfield 144, 3) := by decide +kernel
theorem dX0_turnHome_20 : decode cX0_turnHome 20 = .ok (.if_icmp .gt 14, 3) := by decide +kernel
theorem dX0_turnHome_23 : decode cX0_turnHome 23 = .ok (.aload_n 1, 1) := by decide +kernel
theorem dX0_turnHome_24 : decode cX0_turnHome 24 = .ok (.aload_n 1, 1) := by decide +kernel
theorem dX0_turnHome_25 : decode cX0_turnHome 25 = .ok (.getfield 66, 3) := by decide +kernel
theorem dX0_turnHome_28 : decode cX0_turnHome 28 = .ok (.invokevirtual 217, 3) := by decide +kernel
theorem dX0_turnHome_31 : decode cX0_turnHome 31 = .ok (.goto 13, 3) := by decide +kernel
theorem dX0_turnHome_34 : decode cX0_turnHome 34 = .ok (.aload_n 1, 1) := by decide +kernel
theorem dX0_turnHome_35 : decode cX0_turnHome 35 = .ok (.iconst 3, 1) := by decide +kernel
theorem dX0_turnHome_36 : decode cX0_turnHome 36 = .ok (.aload_n 1, 1) := by decide +kernel
theorem dX0_turnHome_37 : decode cX0_turnHome 37 = .ok (.getfield 66, 3) := by decide +kernel
theorem dX0_turnHome_40 : decode cX0_turnHome 40 = .ok (.iload_n 2, 1) := by decide +kernel
theorem dX0_turnHome_41 : decode cX0_turnHome 41 = .ok (.invokevirtual 184, 3) := by decide +kernel
theorem dX0_turnHome_44 : decode cX0_turnHome 44 = .ok (.return_, 1) := by decide +kernel
theorem okX0_turnHome : ab_okM MX0_turnHome 1 := ⟨by decide, ⟨by decide, by decide⟩, ab_in 1008 (by decide +kernel) (by decide +kernel), ab_in 92 (by decide +kernel) (by decide +kernel), by decide +kernel, by decide⟩
set_option maxHeartbeats 4000000 in
set_option maxRecDepth 100000 in
def wX0_turnHome_23 (v1 : Nat) (x : ab_X) (K : ab_X → Prop)  : Prop := wX2_rest v1 (x.1 v1 1) x (fun x4 => K x4)
set_option maxHeartbeats 4000000 in
set_option maxRecDepth 100000 in
theorem sX0_turnHome_23 (v1 : Nat) (hv1 : isW v1) (x : ab_X) (K : ab_X → Prop)  (d bc bs : Nat) (hdp : 3 ≤ d)  (h : wX0_turnHome_23 v1 x K ) : EW MX0_turnHome 23 [(1, .ref v1)] [] (aS x) d bc bs (liV K) := by
  unfold wX0_turnHome_23 at h
  refine EW_aload_n (pc2 := 24) rfl dX0_turnHome_23 0 rfl ?_
  refine EW_aload_n (pc2 := 25) rfl dX0_turnHome_24 0 rfl ?_
  refine AW_geti ⟨gfRX0_66, rfl⟩ (pc2 := 28) rfl dX0_turnHome_25 (isW.o hv1) ?_
  refine AW_invV (M' := MX2_rest) [.int (x.1 v1 1)] (rest := []) mlRX0_217 okX2_rest (pc2 := 31) rfl dX0_turnHome_28 rfl rfl (Nat.le_of_ble_eq_true rfl) (Nat.le_of_ble_eq_true rfl) (d' := 1) (by omega) (isW.o hv1) ⟨by decide, rfl⟩ (EW_mono (fun _ _ hr => ?_) (sX2_rest v1 (x.1 v1 1) hv1 x _ _ 0 0 (Nat.le_refl _) h))
  obtain ⟨x4, rfl, rfl, h⟩ := hr
  refine EW_goto (tgt := 44) dX0_turnHome_31 (by decide) ?_
  exact EW_vret rfl dX0_turnHome_44 ⟨_, rfl, rfl, h⟩
set_option maxHeartbeats 4000000 in
set_option maxRecDepth 100000 in
def wX0_turnHome (v1 : Nat) (x : ab_X) (K : ab_X → Prop) : Prop := wX0_arrivalOf v1 (x.1 v1 1) x (fun r1 x2 => ((r1 = (-1) → wX0_turnHome_23 v1 x2 K) ∧ (¬ r1 = (-1) → (((x2.1 66 12) < r1 → wX2_set v1 3 (x2.1 v1 1) r1 x2 (fun x3 => K x3)) ∧ (¬ (x2.1 66 12) < r1 → wX0_turnHome_23 v1 x2 K)))))
set_option maxHeartbeats 4000000 in
set_option maxRecDepth 100000 in
theorem sX0_turnHome (v1 : Nat) (hv1 : isW v1) (x : ab_X) (K : ab_X → Prop) (d bc bs : Nat) (hdp : 3 ≤ d) (h : wX0_turnHome v1 x K) : EW MX0_turnHome 0 [(0, .ref 66), (1, .ref v1)] [] (aS x) d bc bs (liV K) := by
  unfold wX0_turnHome at h
  refine EW_aload_n (pc2 := 1) rfl dX0_turnHome_0 0 rfl ?_
  refine EW_aload_n (pc2 := 2) rfl dX0_turnHome_1 1 rfl ?_
  refine EW_aload_n (pc2 := 3) rfl dX0_turnHome_2 1 rfl ?_
  refine AW_geti ⟨gfRX0_66, rfl⟩ (pc2 := 6) rfl dX0_turnHome_3 (isW.o hv1) ?_
  refine AW_invV (M' := MX0_arrivalOf) [.ref v1, .int (x.1 v1 1)] (rest := []) mlRX0_194 okX0_arrivalOf (pc2 := 9) rfl dX0_turnHome_6 rfl rfl (Nat.le_of_ble_eq_true rfl) (Nat.le_of_ble_eq_true rfl) (d' := 2) (by omega) q66 ⟨by decide, rfl⟩ (EW_mono (fun _ _ hr => ?_) (sX0_arrivalOf v1 (x.1 v1 1) hv1 x _ _ 0 0 (Nat.le_refl _) h))
  obtain ⟨r1, x2, rfl, rfl, h⟩ := hr
  refine EW_istore_n (pc2 := 10) rfl dX0_turnHome_9 (by decide) [1, 2, 0] [(0, .ref 66), (1, .ref v1), (2, .int r1)] rfl ?_
  refine EW_iload_n (pc2 := 11) rfl dX0_turnHome_10 2 rfl ?_
  refine EW_iconst (pc2 := 12) (v := (-1)) rfl dX0_turnHome_11 (by decide) ?_
  refine EW_icmp_eq (tgt := 23) (pc2 := 15) rfl dX0_turnHome_12 (by decide) (fun q => ?_) (fun q => ?_)
  · replace h := h.1 q
    refine EW_ls [1] rfl ?_
    exact sX0_turnHome_23 v1 hv1 x2 K d bc bs hdp h
  · replace h := h.2 q
    refine EW_iload_n (pc2 := 16) rfl dX0_turnHome_15 2 rfl ?_
    refine EW_aload_n (pc2 := 17) rfl dX0_turnHome_16 0 rfl ?_
    refine AW_geti ⟨gfRX0_144, rfl⟩ (pc2 := 20) rfl dX0_turnHome_17 q66 ?_
    refine EW_icmp_gt (tgt := 34) (pc2 := 23) rfl dX0_turnHome_20 (by decide) (fun q => ?_) (fun q => ?_)
    · replace h := h.1 q
      refine EW_aload_n (pc2 := 35) rfl dX0_turnHome_34 1 rfl ?_
      refine EW_iconst (pc2 := 36) (v := 3) rfl dX0_turnHome_35 (by decide) ?_
      refine EW_aload_n (pc2 := 37) rfl dX0_turnHome_36 1 rfl ?_
      refine AW_geti ⟨gfRX0_66, rfl⟩ (pc2 := 40) rfl dX0_turnHome_37 (isW.o hv1) ?_
      refine EW_iload_n (pc2 := 41) rfl dX0_turnHome_40 2 rfl ?_
      refine AW_invV (M' := MX2_set) [.int 3, .int (x2.1 v1 1), .int r1] (rest := []) mlRX0_184 okX2_set (pc2 := 44) rfl dX0_turnHome_41 rfl rfl (Nat.le_of_ble_eq_true rfl) (Nat.le_of_ble_eq_true rfl) (d' := 1) (by omega) (isW.o hv1) ⟨by decide, rfl⟩ (EW_mono (fun _ _ hr => ?_) (sX2_set v1 3 (x2.1 v1 1) r1 hv1 x2 _ _ 0 0 (Nat.le_refl _) h))
      obtain ⟨x3, rfl, rfl, h⟩ := hr
      exact EW_vret rfl dX0_turnHome_44 ⟨_, rfl, rfl, h⟩
    · replace h := h.2 q
      refine EW_ls [1] rfl ?_
      exact sX0_turnHome_23 v1 hv1 x2 K d bc bs hdp h
theorem gfRX1_15 : ab_L RX1 15 1 2 := ⟨by decide, by decide, ab_in 510 (by decide +kernel) (by decide +kernel)⟩
theorem gfRX1_9 : ab_L RX1 9 1 4 := ⟨by decide, by decide, ab_in 515 (by decide +kernel) (by decide +kernel)⟩
abbrev MX1_close : ab_M := (yX1_close, cX1_close, 3, none)
theorem dX1_close_0 : decode cX1_close 0 = .ok (.aload_n 0, 1) := by decide +kernel
theorem dX1_close_1 : decode cX1_close 1 = .ok (.iload_n 1, 1) := by decide +kernel
theorem dX1_close_2 : decode cX1_close 2 = .ok (.putfield 15, 3) := by decide +kernel
theorem dX1_close_5 : decode cX1_close 5 = .ok (.aload_n 0, 1) := by decide +kernel
theorem dX1_close_6 : decode cX1_close 6 = .ok (.iload_n 2, 1) := by decide +kernel
theorem dX1_close_7 : decode cX1_close 7 = .ok (.putfield 9, 3) := by decide +kernel
theorem dX1_close_10 : decode cX1_close 10 = .ok (.return_, 1) := by decide +kernel
theorem okX1_close : ab_okM MX1_close 2 := ⟨by decide, ⟨by decide, by decide⟩, ab_in 1370 (by decide +kernel) (by decide +kernel), ab_in 95 (by decide +kernel) (by decide +kernel), by decide +kernel, by decide⟩
set_option maxHeartbeats 4000000 in
set_option maxRecDepth 100000 in
def wX1_close (v0 : Nat) (v1 : Int32) (v2 : Int32) (x : ab_X) (K : ab_X → Prop) : Prop := K (wr (wr x v0 2 v1) v0 4 v2)
set_option maxHeartbeats 4000000 in
set_option maxRecDepth 100000 in
theorem sX1_close (v0 : Nat) (v1 : Int32) (v2 : Int32) (hv0 : isK v0) (x : ab_X) (K : ab_X → Prop) (d bc bs : Nat) (hdp : 0 ≤ d) (h : wX1_close v0 v1 v2 x K) : EW MX1_close 0 [(0, .ref v0), (1, .int v1), (2, .int v2)] [] (aS x) d bc bs (liV K) := by
  unfold wX1_close at h
  refine EW_aload_n (pc2 := 1) rfl dX1_close_0 0 rfl ?_
  refine EW_iload_n (pc2 := 2) rfl dX1_close_1 1 rfl ?_
  refine AW_puti ⟨gfRX1_15, rfl, rfl⟩ (pc2 := 5) rfl dX1_close_2 (isK.o hv0) ?_
  refine EW_aload_n (pc2 := 6) rfl dX1_close_5 0 rfl ?_
  refine EW_iload_n (pc2 := 7) rfl dX1_close_6 2 rfl ?_
  refine AW_puti ⟨gfRX1_9, rfl, rfl⟩ (pc2 := 10) rfl dX1_close_7 (isK.o hv0) ?_
  exact EW_vret rfl dX1_close_10 ⟨_, rfl, rfl, h⟩
theorem gfRX2_69 : ab_L RX2 69 2 14 := ⟨by decide, by decide, ab_in 446 (by decide +kernel) (by decide +kernel)⟩
abbrev MX2_workIn : ab_M := (yX2_workIn, cX2_workIn, 3, none)
theorem dX2_workIn_0 : decode cX2_workIn 0 = .ok (.aload_n 0, 1) := by decide +kernel
theorem dX2_workIn_1 : decode cX2_workIn 1 = .ok (.iconst 2, 1) := by decide +kernel
theorem dX2_workIn_2 : decode cX2_workIn 2 = .ok (.putfield 63, 3) := by decide +kernel
theorem dX2_workIn_5 : decode cX2_workIn 5 = .ok (.aload_n 0, 1) := by decide +kernel
theorem dX2_workIn_6 : decode cX2_workIn 6 = .ok (.iconst (-1), 1) := by decide +kernel
theorem dX2_workIn_7 : decode cX2_workIn 7 = .ok (.putfield 9, 3) := by decide +kernel
theorem dX2_workIn_10 : decode cX2_workIn 10 = .ok (.aload_n 0, 1) := by decide +kernel
theorem dX2_workIn_11 : decode cX2_workIn 11 = .ok (.iload_n 1, 1) := by decide +kernel
theorem dX2_workIn_12 : decode cX2_workIn 12 = .ok (.putfield 18, 3) := by decide +kernel
theorem dX2_workIn_15 : decode cX2_workIn 15 = .ok (.aload_n 0, 1) := by decide +kernel
theorem dX2_workIn_16 : decode cX2_workIn 16 = .ok (.iload_n 2, 1) := by decide +kernel
theorem dX2_workIn_17 : decode cX2_workIn 17 = .ok (.putfield 69, 3) := by decide +kernel
theorem dX2_workIn_20 : decode cX2_workIn 20 = .ok (.return_, 1) := by decide +kernel
theorem okX2_workIn : ab_okM MX2_workIn 2 := ⟨by decide, ⟨by decide, by decide⟩, ab_in 1366 (by decide +kernel) (by decide +kernel), ab_in 94 (by decide +kernel) (by decide +kernel), by decide +kernel, by decide⟩
set_option maxHeartbeats 4000000 in
set_option maxRecDepth 100000 in
def wX2_workIn (v0 : Nat) (v1 : Int32) (v2 : Int32) (x : ab_X) (K : ab_X → Prop) : Prop := K (wr (wr (wr (wr x v0 8 2) v0 10 (-1)) v0 12 v1) v0 14 v2)
set_option maxHeartbeats 4000000 in
set_option maxRecDepth 100000 in
theorem sX2_workIn (v0 : Nat) (v1 : Int32) (v2 : Int32) (hv0 : isW v0) (x : ab_X) (K : ab_X → Prop) (d bc bs : Nat) (hdp : 0 ≤ d) (h : wX2_workIn v0 v1 v2 x K) : EW MX2_workIn 0 [(0, .ref v0), (1, .int v1), (2, .int v2)] [] (aS x) d bc bs (liV K) := by
  unfold wX2_workIn at h
  refine EW_aload_n (pc2 := 1) rfl dX2_workIn_0 0 rfl ?_
  refine EW_iconst (pc2 := 2) (v := 2) rfl dX2_workIn_1 (by decide) ?_
  refine AW_puti ⟨gfRX2_63, rfl, rfl⟩ (pc2 := 5) rfl dX2_workIn_2 (isW.o hv0) ?_
  refine EW_aload_n (pc2 := 6) rfl dX2_workIn_5 0 rfl ?_
  refine EW_iconst (pc2 := 7) (v := (-1)) rfl dX2_workIn_6 (by decide) ?_
  refine AW_puti ⟨gfRX2_9, rfl, rfl⟩ (pc2 := 10) rfl dX2_workIn_7 (isW.o hv0) ?_
  refine EW_aload_n (pc2 := 11) rfl dX2_workIn_10 0 rfl ?_
  refine EW_iload_n (pc2 := 12) rfl dX2_workIn_11 1 rfl ?_
  refine AW_puti ⟨gfRX2_18, rfl, rfl⟩ (pc2 := 15) rfl dX2_workIn_12 (isW.o hv0) ?_
  refine EW_aload_n (pc2 := 16) rfl dX2_workIn_15 0 rfl ?_
  refine EW_iload_n (pc2 := 17) rfl dX2_workIn_16 2 rfl ?_
  refine AW_puti ⟨gfRX2_69, rfl, rfl⟩ (pc2 := 20) rfl dX2_workIn_17 (isW.o hv0) ?_
  exact EW_vret rfl dX2_workIn_20 ⟨_, rfl, rfl, h⟩
