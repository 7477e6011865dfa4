theorem mlRX0_260 : Cond.methodLink RX0 260 yX0_turnHome ∈ ab_G ∧ Cond.instanceMethod yX0_turnHome ∈ ab_G ∧ Cond.selects RX0 yX0_turnHome yX0_turnHome ∈ ab_G := ⟨ab_in 1371 (by decide +kernel) (by decide +kernel), ab_in 1006 (by decide +kernel) (by decide +kernel), ab_in 1007 (by decide +kernel) (by decide +kernel)⟩
theorem mlRX0_257 : Cond.methodLink RX0 257 yX1_close ∈ ab_G ∧ Cond.instanceMethod yX1_close ∈ ab_G ∧ Cond.selects RX1 yX1_close yX1_close ∈ ab_G := ⟨ab_in 1367 (by decide +kernel) (by decide +kernel), ab_in 1368 (by decide +kernel) (by decide +kernel), ab_in 1369 (by decide +kernel) (by decide +kernel)⟩
theorem mlRX0_254 : Cond.methodLink RX0 254 yX2_workIn ∈ ab_G ∧ Cond.instanceMethod yX2_workIn ∈ ab_G ∧ Cond.selects RX2 yX2_workIn yX2_workIn ∈ ab_G := ⟨ab_in 1363 (by decide +kernel) (by decide +kernel), ab_in 1364 (by decide +kernel) (by decide +kernel), ab_in 1365 (by decide +kernel) (by decide +kernel)⟩
abbrev MX0_arrive : ab_M := (yX0_arrive, cX0_arrive, 4, none)
theorem dX0_arrive_0 : decode cX0_arrive 0 = .ok (.aload_n 1, 1) := by decide +kernel
theorem dX0_arrive_1 : decode cX0_arrive 1 = .ok (.getfield 75, 3) := by decide +kernel
theorem dX0_arrive_4 : decode cX0_arrive 4 = .ok (.iconst 3, 1) := by decide +kernel
theorem dX0_arrive_5 : decode cX0_arrive 5 = .ok (.if_icmp .ne 12, 3) := by decide +kernel
theorem dX0_arrive_8 : decode cX0_arrive 8 = .ok (.aload_n 1, 1) := by decide +kernel
theorem dX0_arrive_9 : decode cX0_arrive 9 = .ok (.aload_n 1, 1) := by decide +kernel
theorem dX0_arrive_10 : decode cX0_arrive 10 = .ok (.getfield 69, 3) := by decide +kernel
theorem dX0_arrive_13 : decode cX0_arrive 13 = .ok (.invokevirtual 217, 3) := by decide +kernel
theorem dX0_arrive_16 : decode cX0_arrive 16 = .ok (.return_, 1) := by decide +kernel
theorem dX0_arrive_17 : decode cX0_arrive 17 = .ok (.aload_n 0, 1) := by decide +kernel
theorem dX0_arrive_18 : decode cX0_arrive 18 = .ok (.getfield 49, 3) := by decide +kernel
theorem dX0_arrive_21 : decode cX0_arrive 21 = .ok (.aload_n 1, 1) := by decide +kernel
theorem dX0_arrive_22 : decode cX0_arrive 22 = .ok (.getfield 69, 3) := by decide +kernel
theorem dX0_arrive_25 : decode cX0_arrive 25 = .ok (.invokevirtual 115, 3) := by decide +kernel
theorem dX0_arrive_28 : decode cX0_arrive 28 = .ok (.istore_n 2, 1) := by decide +kernel
theorem dX0_arrive_29 : decode cX0_arrive 29 = .ok (.aload_n 1, 1) := by decide +kernel
theorem dX0_arrive_30 : decode cX0_arrive 30 = .ok (.getfield 188, 3) := by decide +kernel
theorem dX0_arrive_33 : decode cX0_arrive 33 = .ok (.aload_n 0, 1) := by decide +kernel
theorem dX0_arrive_34 : decode cX0_arrive 34 = .ok (.getfield 81, 3) := by decide +kernel
theorem dX0_arrive_37 : decode cX0_arrive 37 = .ok (.invokestatic 59, 3) := by decide +kernel
theorem dX0_arrive_40 : decode cX0_arrive 40 = .ok (.ifCond .eq 22, 3) := by decide +kernel
theorem dX0_arrive_43 : decode cX0_arrive 43 = .ok (.aload_n 0, 1) := by decide +kernel
theorem dX0_arrive_44 : decode cX0_arrive 44 = .ok (.getfield 19, 3) := by decide +kernel
theorem dX0_arrive_47 : decode cX0_arrive 47 = .ok (.aload_n 1, 1) := by decide +kernel
theorem dX0_arrive_48 : decode cX0_arrive 48 = .ok (.getfield 188, 3) := by decide +kernel
theorem dX0_arrive_51 : decode cX0_arrive 51 = .ok (.aaload, 1) := by decide +kernel
theorem dX0_arrive_52 : decode cX0_arrive 52 = .ok (.getfield 84, 3) := by decide +kernel
theorem dX0_arrive_55 : decode cX0_arrive 55 = .ok (.ifCond .ne 7, 3) := by decide +kernel
theorem dX0_arrive_58 : decode cX0_arrive 58 = .ok (.iconst 1, 1) := by decide +kernel
theorem dX0_arrive_59 : decode cX0_arrive 59 = .ok (.goto 4, 3) := by decide +kernel
theorem dX0_arrive_62 : decode cX0_arrive 62 = .ok (.iconst 0, 1) := by decide +kernel
theorem dX0_arrive_63 : decode cX0_arrive 63 = .ok (.istore_n 3, 1) := by decide +kernel
theorem dX0_arrive_64 : decode cX0_arrive 64 = .ok (.iload_n 3, 1) := by decide +kernel
theorem dX0_arrive_65 : decode cX0_arrive 65 = .ok (.ifCond .eq 18, 3) := by decide +kernel
theorem dX0_arrive_68 : decode cX0_arrive 68 = .ok (.iload_n 2, 1) := by decide +kernel
theorem dX0_arrive_69 : decode cX0_arrive 69 = .ok (.iconst (-1), 1) := by decide +kernel
theorem dX0_arrive_70 : decode cX0_arrive 70 = .ok (.if_icmp .eq 13, 3) := by decide +kernel
theorem dX0_arrive_73 : decode cX0_arrive 73 = .ok (.aload_n 1, 1) := by decide +kernel
theorem dX0_arrive_74 : decode cX0_arrive 74 = .ok (.iload_n 2, 1) := by decide +kernel
theorem dX0_arrive_75 : decode cX0_arrive 75 = .ok (.aload_n 0, 1) := by decide +kernel
theorem dX0_arrive_76 : decode cX0_arrive 76 = .ok (.getfield 144, 3) := by decide +kernel
theorem dX0_arrive_79 : decode cX0_arrive 79 = .ok (.invokevirtual 254, 3) := by decide +kernel
theorem dX0_arrive_82 : decode cX0_arrive 82 = .ok (.return_, 1) := by decide +kernel
theorem dX0_arrive_83 : decode cX0_arrive 83 = .ok (.iload_n 3, 1) := by decide +kernel
theorem dX0_arrive_84 : decode cX0_arrive 84 = .ok (.ifCond .eq 39, 3) := by decide +kernel
theorem dX0_arrive_87 : decode cX0_arrive 87 = .ok (.aload_n 0, 1) := by decide +kernel
theorem dX0_arrive_88 : decode cX0_arrive 88 = .ok (.getfield 19, 3) := by decide +kernel
theorem dX0_arrive_91 : decode cX0_arrive 91 = .ok (.aload_n 1, 1) := by decide +kernel
theorem dX0_arrive_92 : decode cX0_arrive 92 = .ok (.getfield 188, 3) := by decide +kernel
theorem dX0_arrive_95 : decode cX0_arrive 95 = .ok (.aaload, 1) := by decide +kernel
theorem dX0_arrive_96 : decode cX0_arrive 96 = .ok (.aload_n 0, 1) := by decide +kernel
theorem dX0_arrive_97 : decode cX0_arrive 97 = .ok (.getfield 19, 3) := by decide +kernel
theorem dX0_arrive_100 : decode cX0_arrive 100 = .ok (.aload_n 1, 1) := by decide +kernel
theorem dX0_arrive_101 : decode cX0_arrive 101 = .ok (.getfield 188, 3) := by decide +kernel
theorem dX0_arrive_104 : decode cX0_arrive 104 = .ok (.aaload, 1) := by decide +kernel
theorem dX0_arrive_105 : decode cX0_arrive 105 = .ok (.getfield 112, 3) := by decide +kernel
theorem dX0_arrive_108 : decode cX0_arrive 108 = .ok (.ifCond .eq 7, 3) := by decide +kernel
theorem dX0_arrive_111 : decode cX0_arrive 111 = .ok (.iconst 1, 1) := by decide +kernel
theorem dX0_arrive_112 : decode cX0_arrive 112 = .ok (.goto 4, 3) := by decide +kernel
theorem dX0_arrive_115 : decode cX0_arrive 115 = .ok (.iconst 2, 1) := by decide +kernel
theorem dX0_arrive_116 : decode cX0_arrive 116 = .ok (.aload_n 0, 1) := by decide +kernel
theorem dX0_arrive_117 : decode cX0_arrive 117 = .ok (.getfield 144, 3) := by decide +kernel
theorem dX0_arrive_120 : decode cX0_arrive 120 = .ok (.invokevirtual 257, 3) := by decide +kernel
theorem dX0_arrive_123 : decode cX0_arrive 123 = .ok (.aload_n 0, 1) := by decide +kernel
theorem dX0_arrive_124 : decode cX0_arrive 124 = .ok (.aload_n 1, 1) := by decide +kernel
theorem dX0_arrive_125 : decode cX0_arrive 125 = .ok (.invokevirtual 260, 3) := by decide +kernel
theorem dX0_arrive_128 : decode cX0_arrive 128 = .ok (.return_, 1) := by decide +kernel
theorem okX0_arrive : ab_okM MX0_arrive 1 := ⟨by decide, ⟨by decide, by decide⟩, ab_in 1362 (by decide +kernel) (by decide +kernel), ab_in 92 (by decide +kernel) (by decide +kernel), by decide +kernel, by decide⟩
set_option maxHeartbeats 4000000 in
set_option maxRecDepth 100000 in
def wX0_arrive_123 (v1 : Nat) (x : ab_X) (K : ab_X → Prop)  : Prop := wX0_turnHome v1 x (fun x8 => K x8)
set_option maxHeartbeats 4000000 in
set_option maxRecDepth 100000 in
theorem sX0_arrive_123 (v1 : Nat) (hv1 : isW v1) (x : ab_X) (K : ab_X → Prop)  (d bc bs : Nat) (hdp : 4 ≤ d)  (h : wX0_arrive_123 v1 x K ) : EW MX0_arrive 123 [(0, .ref 66), (1, .ref v1)] [] (aS x) d bc bs (liV K) := by
  unfold wX0_arrive_123 at h
  refine EW_aload_n (pc2 := 124) rfl dX0_arrive_123 0 rfl ?_
  refine EW_aload_n (pc2 := 125) rfl dX0_arrive_124 1 rfl ?_
  refine AW_invV (M' := MX0_turnHome) [.ref v1] (rest := []) mlRX0_260 okX0_turnHome (pc2 := 128) rfl dX0_arrive_125 rfl rfl (Nat.le_of_ble_eq_true rfl) (Nat.le_of_ble_eq_true rfl) (d' := 3) (by omega) q66 ⟨by decide, rfl⟩ (EW_mono (fun _ _ hr => ?_) (sX0_turnHome v1 hv1 x _ _ 0 0 (Nat.le_refl _) h))
  obtain ⟨x8, rfl, rfl, h⟩ := hr
  exact EW_vret rfl dX0_arrive_128 ⟨_, rfl, rfl, h⟩
set_option maxHeartbeats 4000000 in
set_option maxRecDepth 100000 in
def wX0_arrive_116 (v1 : Nat) (s0 : Nat) (s1 : Int32) (x : ab_X) (K : ab_X → Prop)  : Prop := wX1_close s0 s1 (x.1 66 12) x (fun x9 => wX0_arrive_123 v1 x9 K)
set_option maxHeartbeats 4000000 in
set_option maxRecDepth 100000 in
theorem sX0_arrive_116 (v1 : Nat) (s0 : Nat) (s1 : Int32) (hv1 : isW v1) (hs0 : isK s0) (x : ab_X) (K : ab_X → Prop)  (d bc bs : Nat) (hdp : 4 ≤ d)  (h : wX0_arrive_116 v1 s0 s1 x K ) : EW MX0_arrive 116 [(0, .ref 66), (1, .ref v1)] [.int s1, .ref s0] (aS x) d bc bs (liV K) := by
  unfold wX0_arrive_116 at h
  refine EW_aload_n (pc2 := 117) rfl dX0_arrive_116 0 rfl ?_
  refine AW_geti ⟨gfRX0_144, rfl⟩ (pc2 := 120) rfl dX0_arrive_117 q66 ?_
  refine AW_invV (M' := MX1_close) [.int s1, .int (x.1 66 12)] (rest := []) mlRX0_257 okX1_close (pc2 := 123) rfl dX0_arrive_120 rfl rfl (Nat.le_of_ble_eq_true rfl) (Nat.le_of_ble_eq_true rfl) (d' := 0) (by omega) (isK.o hs0) ⟨by decide, rfl⟩ (EW_mono (fun _ _ hr => ?_) (sX1_close s0 s1 (x.1 66 12) hs0 x _ _ 0 0 (Nat.le_refl _) h))
  obtain ⟨x9, rfl, rfl, h⟩ := hr
  exact sX0_arrive_123 v1 hv1 x9 K d bc bs hdp h
set_option maxHeartbeats 4000000 in
set_option maxRecDepth 100000 in
def wX0_arrive_83 (v1 : Nat) (v3 : Int32) (x : ab_X) (K : ab_X → Prop)  : Prop := ((v3 = 0 → wX0_arrive_123 v1 x K) ∧ (¬ v3 = 0 → (vp_in (x.1 v1 11) 60 ∧ vp_in (x.1 v1 11) 60 ∧ (((x.1 (98 + Int32.toNatClampNeg (x.1 v1 11)) 8) = 0 → wX0_arrive_116 v1 (98 + Int32.toNatClampNeg (x.1 v1 11)) 2 x K) ∧ (¬ (x.1 (98 + Int32.toNatClampNeg (x.1 v1 11)) 8) = 0 → wX0_arrive_116 v1 (98 + Int32.toNatClampNeg (x.1 v1 11)) 1 x K)))))
set_option maxHeartbeats 4000000 in
set_option maxRecDepth 100000 in
theorem sX0_arrive_83 (v1 : Nat) (v3 : Int32) (hv1 : isW v1) (x : ab_X) (K : ab_X → Prop)  (d bc bs : Nat) (hdp : 4 ≤ d)  (h : wX0_arrive_83 v1 v3 x K ) : EW MX0_arrive 83 [(0, .ref 66), (1, .ref v1), (3, .int v3)] [] (aS x) d bc bs (liV K) := by
  unfold wX0_arrive_83 at h
  refine EW_iload_n (pc2 := 84) rfl dX0_arrive_83 2 rfl ?_
  refine EW_if_eq (tgt := 123) (pc2 := 87) rfl dX0_arrive_84 (by decide) (fun q => ?_) (fun q => ?_)
  · replace h := h.1 q
    refine EW_ls [0, 1] rfl ?_
    exact sX0_arrive_123 v1 hv1 x K d bc bs hdp h
  · replace h := h.2 q
    refine EW_aload_n (pc2 := 88) rfl dX0_arrive_87 0 rfl ?_
    refine AW_getr (r := 68) ⟨gfRX0_19, rfl⟩ (pc2 := 91) rfl dX0_arrive_88 q66 rfl ?_
    refine EW_aload_n (pc2 := 92) rfl dX0_arrive_91 1 rfl ?_
    refine AW_geti ⟨gfRX0_188, rfl⟩ (pc2 := 95) rfl dX0_arrive_92 (isW.o hv1) ?_
    obtain ⟨b6, h⟩ := h
    refine AW_aald7 (pc2 := 96) rfl dX0_arrive_95 b6 ?_
    refine EW_aload_n (pc2 := 97) rfl dX0_arrive_96 0 rfl ?_
    refine AW_getr (r := 68) ⟨gfRX0_19, rfl⟩ (pc2 := 100) rfl dX0_arrive_97 q66 rfl ?_
    refine EW_aload_n (pc2 := 101) rfl dX0_arrive_100 1 rfl ?_
    refine AW_geti ⟨gfRX0_188, rfl⟩ (pc2 := 104) rfl dX0_arrive_101 (isW.o hv1) ?_
    obtain ⟨b7, h⟩ := h
    refine AW_aald7 (pc2 := 105) rfl dX0_arrive_104 b7 ?_
    refine AW_geti ⟨gfRX0_112, rfl⟩ (pc2 := 108) rfl dX0_arrive_105 (isK.o (isK_of b7)) ?_
    refine EW_if_eq (tgt := 115) (pc2 := 111) rfl dX0_arrive_108 (by decide) (fun q => ?_) (fun q => ?_)
    · replace h := h.1 q
      refine EW_iconst (pc2 := 116) (v := 2) rfl dX0_arrive_115 (by decide) ?_
      refine EW_ls [0, 1] rfl ?_
      exact sX0_arrive_116 v1 (98 + Int32.toNatClampNeg (x.1 v1 11)) 2 hv1 (isK_of b6) x K d bc bs hdp h
    · replace h := h.2 q
      refine EW_iconst (pc2 := 112) (v := 1) rfl dX0_arrive_111 (by decide) ?_
      refine EW_goto (tgt := 116) dX0_arrive_112 (by decide) ?_
      refine EW_ls [0, 1] rfl ?_
      exact sX0_arrive_116 v1 (98 + Int32.toNatClampNeg (x.1 v1 11)) 1 hv1 (isK_of b6) x K d bc bs hdp h
set_option maxHeartbeats 4000000 in
set_option maxRecDepth 100000 in
def wX0_arrive_63 (v1 : Nat) (v2 : Int32) (s0 : Int32) (x : ab_X) (K : ab_X → Prop)  : Prop := ((s0 = 0 → wX0_arrive_83 v1 s0 x K) ∧ (¬ s0 = 0 → ((v2 = (-1) → wX0_arrive_83 v1 s0 x K) ∧ (¬ v2 = (-1) → wX2_workIn v1 v2 (x.1 66 12) x (fun x5 => K x5)))))
set_option maxHeartbeats 4000000 in
set_option maxRecDepth 100000 in
theorem sX0_arrive_63 (v1 : Nat) (v2 : Int32) (s0 : Int32) (hv1 : isW v1) (x : ab_X) (K : ab_X → Prop)  (d bc bs : Nat) (hdp : 4 ≤ d)  (h : wX0_arrive_63 v1 v2 s0 x K ) : EW MX0_arrive 63 [(0, .ref 66), (1, .ref v1), (2, .int v2)] [.int s0] (aS x) d bc bs (liV K) := by
  unfold wX0_arrive_63 at h
  refine EW_istore_n (pc2 := 64) rfl dX0_arrive_63 (by decide) [1, 2, 3, 0] [(0, .ref 66), (1, .ref v1), (2, .int v2), (3, .int s0)] rfl ?_
  refine EW_iload_n (pc2 := 65) rfl dX0_arrive_64 3 rfl ?_
  refine EW_if_eq (tgt := 83) (pc2 := 68) rfl dX0_arrive_65 (by decide) (fun q => ?_) (fun q => ?_)
  · replace h := h.1 q
    refine EW_ls [0, 1, 3] rfl ?_
    exact sX0_arrive_83 v1 s0 hv1 x K d bc bs hdp h
  · replace h := h.2 q
    refine EW_iload_n (pc2 := 69) rfl dX0_arrive_68 2 rfl ?_
    refine EW_iconst (pc2 := 70) (v := (-1)) rfl dX0_arrive_69 (by decide) ?_
    refine EW_icmp_eq (tgt := 83) (pc2 := 73) rfl dX0_arrive_70 (by decide) (fun q => ?_) (fun q => ?_)
    · replace h := h.1 q
      refine EW_ls [0, 1, 3] rfl ?_
      exact sX0_arrive_83 v1 s0 hv1 x K d bc bs hdp h
    · replace h := h.2 q
      refine EW_aload_n (pc2 := 74) rfl dX0_arrive_73 1 rfl ?_
      refine EW_iload_n (pc2 := 75) rfl dX0_arrive_74 2 rfl ?_
      refine EW_aload_n (pc2 := 76) rfl dX0_arrive_75 0 rfl ?_
      refine AW_geti ⟨gfRX0_144, rfl⟩ (pc2 := 79) rfl dX0_arrive_76 q66 ?_
      refine AW_invV (M' := MX2_workIn) [.int v2, .int (x.1 66 12)] (rest := []) mlRX0_254 okX2_workIn (pc2 := 82) rfl dX0_arrive_79 rfl rfl (Nat.le_of_ble_eq_true rfl) (Nat.le_of_ble_eq_true rfl) (d' := 0) (by omega) (isW.o hv1) ⟨by decide, rfl⟩ (EW_mono (fun _ _ hr => ?_) (sX2_workIn v1 v2 (x.1 66 12) hv1 x _ _ 0 0 (Nat.le_refl _) h))
      obtain ⟨x5, rfl, rfl, h⟩ := hr
      exact EW_vret rfl dX0_arrive_82 ⟨_, rfl, rfl, h⟩
set_option maxHeartbeats 4000000 in
set_option maxRecDepth 100000 in
def wX0_arrive_62 (v1 : Nat) (v2 : Int32) (x : ab_X) (K : ab_X → Prop)  : Prop := wX0_arrive_63 v1 v2 0 x K
set_option maxHeartbeats 4000000 in
set_option maxRecDepth 100000 in
theorem sX0_arrive_62 (v1 : Nat) (v2 : Int32) (hv1 : isW v1) (x : ab_X) (K : ab_X → Prop)  (d bc bs : Nat) (hdp : 4 ≤ d)  (h : wX0_arrive_62 v1 v2 x K ) : EW MX0_arrive 62 [(0, .ref 66), (1, .ref v1), (2, .int v2)] [] (aS x) d bc bs (liV K) := by
  unfold wX0_arrive_62 at h
  refine EW_iconst (pc2 := 63) (v := 0) rfl dX0_arrive_62 (by decide) ?_
  exact sX0_arrive_63 v1 v2 0 hv1 x K d bc bs hdp h
set_option maxHeartbeats 4000000 in
set_option maxRecDepth 100000 in
def wX0_arrive (v1 : Nat) (x : ab_X) (K : ab_X → Prop) : Prop := ((¬ (x.1 v1 8) = 3 → wX10_worstAt (x.1 v1 9) x (fun r1 => wX11_below (x.1 v1 11) (x.1 66 5) x (fun r2 => ((r2 = 0 → wX0_arrive_62 v1 r1 x K) ∧ (¬ r2 = 0 → (vp_in (x.1 v1 11) 60 ∧ ((¬ (x.1 (98 + Int32.toNatClampNeg (x.1 v1 11)) 2) = 0 → wX0_arrive_62 v1 r1 x K) ∧ ((x.1 (98 + Int32.toNatClampNeg (x.1 v1 11)) 2) = 0 → wX0_arrive_63 v1 r1 1 x K)))))))) ∧ ((x.1 v1 8) = 3 → wX2_rest v1 (x.1 v1 9) x (fun x4 => K x4)))
set_option maxHeartbeats 4000000 in
set_option maxRecDepth 100000 in
theorem sX0_arrive (v1 : Nat) (hv1 : isW v1) (x : ab_X) (K : ab_X → Prop) (d bc bs : Nat) (hdp : 4 ≤ d) (h : wX0_arrive v1 x K) : EW MX0_arrive 0 [(0, .ref 66), (1, .ref v1)] [] (aS x) d bc bs (liV K) := by
  unfold wX0_arrive at h
  refine EW_aload_n (pc2 := 1) rfl dX0_arrive_0 1 rfl ?_
  refine AW_geti ⟨gfRX0_75, rfl⟩ (pc2 := 4) rfl dX0_arrive_1 (isW.o hv1) ?_
  refine EW_iconst (pc2 := 5) (v := 3) rfl dX0_arrive_4 (by decide) ?_
  refine EW_icmp_ne (tgt := 17) (pc2 := 8) rfl dX0_arrive_5 (by decide) (fun q => ?_) (fun q => ?_)
  · replace h := h.1 q
    refine EW_aload_n (pc2 := 18) rfl dX0_arrive_17 0 rfl ?_
    refine AW_getr (r := 9) ⟨gfRX0_49, rfl⟩ (pc2 := 21) rfl dX0_arrive_18 q66 rfl ?_
    refine EW_aload_n (pc2 := 22) rfl dX0_arrive_21 1 rfl ?_
    refine AW_geti ⟨gfRX0_69, rfl⟩ (pc2 := 25) rfl dX0_arrive_22 (isW.o hv1) ?_
    refine AW_invV (M' := MX10_worstAt) [.int (x.1 v1 9)] (rest := []) mlRX0_115 okX10_worstAt (pc2 := 28) rfl dX0_arrive_25 rfl rfl (Nat.le_of_ble_eq_true rfl) (Nat.le_of_ble_eq_true rfl) (d' := 2) (by omega) q9 ⟨by decide, rfl⟩ (EW_mono (fun _ _ hr => ?_) (sX10_worstAt (x.1 v1 9)  x _ _ 0 0 (Nat.le_refl _) h))
    obtain ⟨r1, rfl, rfl, h⟩ := hr
    refine EW_istore_n (pc2 := 29) rfl dX0_arrive_28 (by decide) [1, 2, 0] [(0, .ref 66), (1, .ref v1), (2, .int r1)] rfl ?_
    refine EW_aload_n (pc2 := 30) rfl dX0_arrive_29 1 rfl ?_
    refine AW_geti ⟨gfRX0_188, rfl⟩ (pc2 := 33) rfl dX0_arrive_30 (isW.o hv1) ?_
    refine EW_aload_n (pc2 := 34) rfl dX0_arrive_33 0 rfl ?_
    refine AW_geti ⟨gfRX0_81, rfl⟩ (pc2 := 37) rfl dX0_arrive_34 q66 ?_
    refine AW_invSN (M' := MX11_below) [.int (x.1 v1 11), .int (x.1 66 5)] (rest := []) mlRX0_59 okX11_below (pc2 := 40) rfl dX0_arrive_37 rfl rfl (Nat.le_of_ble_eq_true rfl) (Nat.le_of_ble_eq_true rfl) (d' := 0) (by omega) (EW_mono (fun _ _ hr => ?_) (sX11_below (x.1 v1 11) (x.1 66 5)  x _ _ 0 0 (Nat.le_refl _) h))
    obtain ⟨r2, rfl, rfl, h⟩ := hr
    refine EW_if_eq (tgt := 62) (pc2 := 43) rfl dX0_arrive_40 (by decide) (fun q => ?_) (fun q => ?_)
    · replace h := h.1 q
      exact sX0_arrive_62 v1 r1 hv1 x K d bc bs hdp h
    · replace h := h.2 q
      refine EW_aload_n (pc2 := 44) rfl dX0_arrive_43 0 rfl ?_
      refine AW_getr (r := 68) ⟨gfRX0_19, rfl⟩ (pc2 := 47) rfl dX0_arrive_44 q66 rfl ?_
      refine EW_aload_n (pc2 := 48) rfl dX0_arrive_47 1 rfl ?_
      refine AW_geti ⟨gfRX0_188, rfl⟩ (pc2 := 51) rfl dX0_arrive_48 (isW.o hv1) ?_
      obtain ⟨b3, h⟩ := h
      refine AW_aald7 (pc2 := 52) rfl dX0_arrive_51 b3 ?_
      refine AW_geti ⟨gfRX0_84, rfl⟩ (pc2 := 55) rfl dX0_arrive_52 (isK.o (isK_of b3)) ?_
      refine EW_if_ne (tgt := 62) (pc2 := 58) rfl dX0_arrive_55 (by decide) (fun q => ?_) (fun q => ?_)
      · replace h := h.1 q
        exact sX0_arrive_62 v1 r1 hv1 x K d bc bs hdp h
      · replace h := h.2 q
        refine EW_iconst (pc2 := 59) (v := 1) rfl dX0_arrive_58 (by decide) ?_
        refine EW_goto (tgt := 63) dX0_arrive_59 (by decide) ?_
        exact sX0_arrive_63 v1 r1 1 hv1 x K d bc bs hdp h
  · replace h := h.2 q
    refine EW_aload_n (pc2 := 9) rfl dX0_arrive_8 1 rfl ?_
    refine EW_aload_n (pc2 := 10) rfl dX0_arrive_9 1 rfl ?_
    refine AW_geti ⟨gfRX0_69, rfl⟩ (pc2 := 13) rfl dX0_arrive_10 (isW.o hv1) ?_
    refine AW_invV (M' := MX2_rest) [.int (x.1 v1 9)] (rest := []) mlRX0_217 okX2_rest (pc2 := 16) rfl dX0_arrive_13 rfl rfl (Nat.le_of_ble_eq_true rfl) (Nat.le_of_ble_eq_true rfl) (d' := 1) (by omega) (isW.o hv1) ⟨by decide, rfl⟩ (EW_mono (fun _ _ hr => ?_) (sX2_rest v1 (x.1 v1 9) hv1 x _ _ 0 0 (Nat.le_refl _) h))
    obtain ⟨x4, rfl, rfl, h⟩ := hr
    exact EW_vret rfl dX0_arrive_16 ⟨_, rfl, rfl, h⟩
abbrev MX0_hasWorker : ab_M := (yX0_hasWorker, cX0_hasWorker, 3, (some .boolean))
theorem dX0_hasWorker_0 : decode cX0_hasWorker 0 = .ok (.iconst 0, 1) := by decide +kernel
theorem dX0_hasWorker_1 : decode cX0_hasWorker 1 = .ok (.istore_n 2, 1) := by decide +kernel
theorem dX0_hasWorker_2 : decode cX0_hasWorker 2 = .ok (.iload_n 2, 1) := by decide +kernel
theorem dX0_hasWorker_3 : decode cX0_hasWorker 3 = .ok (.aload_n 0, 1) := by decide +kernel
theorem dX0_hasWorker_4 : decode cX0_hasWorker 4 = .ok (.getfield 55, 3) := by decide +kernel
theorem dX0_hasWorker_7 : decode cX0_hasWorker 7 = .ok (.if_icmp .ge 37, 3) := by decide +kernel
theorem dX0_hasWorker_10 : decode cX0_hasWorker 10 = .ok (.aload_n 0, 1) := by decide +kernel
theorem dX0_hasWorker_11 : decode cX0_hasWorker 11 = .ok (.getfield 11, 3) := by decide +kernel
theorem dX0_hasWorker_14 : decode cX0_hasWorker 14 = .ok (.iload_n 2, 1) := by decide +kernel
theorem dX0_hasWorker_15 : decode cX0_hasWorker 15 = .ok (.aaload, 1) := by decide +kernel
theorem dX0_hasWorker_16 : decode cX0_hasWorker 16 = .ok (.getfield 75, 3) := by decide +kernel
theorem dX0_hasWorker_19 : decode cX0_hasWorker 19 = .ok (.iconst 2, 1) := by decide +kernel
theorem dX0_hasWorker_20 : decode cX0_hasWorker 20 = .ok (.if_icmp .ne 18, 3) := by decide +kernel
theorem dX0_hasWorker_23 : decode cX0_hasWorker 23 = .ok (.aload_n 0, 1) := by decide +kernel
theorem dX0_hasWorker_24 : decode cX0_hasWorker 24 = .ok (.getfield 11, 3) := by decide +kernel
theorem dX0_hasWorker_27 : decode cX0_hasWorker 27 = .ok (.iload_n 2, 1) := by decide +kernel
theorem dX0_hasWorker_28 : decode cX0_hasWorker 28 = .ok (.aaload, 1) := by decide +kernel
theorem dX0_hasWorker_29 : decode cX0_hasWorker 29 = .ok (.getfield 69, 3) := by decide +kernel
theorem dX0_hasWorker_32 : decode cX0_hasWorker 32 = .ok (.iload_n 1, 1) := by decide +kernel
theorem dX0_hasWorker_33 : decode cX0_hasWorker 33 = .ok (.if_icmp .ne 5, 3) := by decide +kernel
theorem dX0_hasWorker_36 : decode cX0_hasWorker 36 = .ok (.iconst 1, 1) := by decide +kernel
theorem dX0_hasWorker_37 : decode cX0_hasWorker 37 = .ok (.ireturn, 1) := by decide +kernel
theorem dX0_hasWorker_38 : decode cX0_hasWorker 38 = .ok (.iinc 2 1, 3) := by decide +kernel
theorem dX0_hasWorker_41 : decode cX0_hasWorker 41 = .ok (.goto (-39), 3) := by decide +kernel
theorem dX0_hasWorker_44 : decode cX0_hasWorker 44 = .ok (.iconst 0, 1) := by decide +kernel
theorem dX0_hasWorker_45 : decode cX0_hasWorker 45 = .ok (.ireturn, 1) := by decide +kernel
theorem okX0_hasWorker : ab_okM MX0_hasWorker 1 := ⟨by decide, ⟨by decide, by decide⟩, ab_in 1499 (by decide +kernel) (by decide +kernel), ab_in 92 (by decide +kernel) (by decide +kernel), by decide +kernel, by decide⟩
set_option maxHeartbeats 4000000 in
set_option maxRecDepth 100000 in
def lX0_hasWorker_2 (v1 : Int32) (x : ab_X) (K : Int32 → Prop)  (L2 : Int32 → Prop) (v2 : Int32) : Prop := (((x.1 66 3) ≤ v2 → K 0) ∧ (¬ (x.1 66 3) ≤ v2 → (vp_in v2 16 ∧ ((¬ (x.1 (82 + Int32.toNatClampNeg v2) 8) = 2 → L2 (v2 + 1)) ∧ ((x.1 (82 + Int32.toNatClampNeg v2) 8) = 2 → (vp_in v2 16 ∧ ((¬ (x.1 (82 + Int32.toNatClampNeg v2) 9) = v1 → L2 (v2 + 1)) ∧ ((x.1 (82 + Int32.toNatClampNeg v2) 9) = v1 → K 1))))))))
set_option maxHeartbeats 4000000 in
set_option maxRecDepth 100000 in
theorem sX0_hasWorker_2 (v1 : Int32) (v2 : Int32)  (x : ab_X) (K : Int32 → Prop)  (d bc bs : Nat) (hdp : 0 ≤ d)  (h : Lp1 (lX0_hasWorker_2 v1 x K ) v2) : EW MX0_hasWorker 2 [(0, .ref 66), (1, .int v1), (2, .int v2)] [] (aS x) d bc bs (liP x K) := by
  refine Lp1.use (P := fun v2 => EW MX0_hasWorker 2 [(0, .ref 66), (1, .int v1), (2, .int v2)] [] (aS x) d bc bs (liP x K)) (fun L2 v2 hL2 h => ?_) v2 h
  unfold lX0_hasWorker_2 at h
  refine EW_iload_n (pc2 := 3) rfl dX0_hasWorker_2 2 rfl ?_
  refine EW_aload_n (pc2 := 4) rfl dX0_hasWorker_3 0 rfl ?_
  refine AW_geti ⟨gfRX0_55, rfl⟩ (pc2 := 7) rfl dX0_hasWorker_4 q66 ?_
  refine EW_icmp_ge (tgt := 44) (pc2 := 10) rfl dX0_hasWorker_7 (by decide) (fun q => ?_) (fun q => ?_)
  · replace h := h.1 q
    refine EW_iconst (pc2 := 45) (v := 0) rfl dX0_hasWorker_44 (by decide) ?_
    exact AW_zret rfl isB0 dX0_hasWorker_45 ⟨_, rfl, rfl, h⟩
  · replace h := h.2 q
    refine EW_aload_n (pc2 := 11) rfl dX0_hasWorker_10 0 rfl ?_
    refine AW_getr (r := 67) ⟨gfRX0_11, rfl⟩ (pc2 := 14) rfl dX0_hasWorker_11 q66 rfl ?_
    refine EW_iload_n (pc2 := 15) rfl dX0_hasWorker_14 2 rfl ?_
    obtain ⟨b1, h⟩ := h
    refine AW_aald6 (pc2 := 16) rfl dX0_hasWorker_15 b1 ?_
    refine AW_geti ⟨gfRX0_75, rfl⟩ (pc2 := 19) rfl dX0_hasWorker_16 (isW.o (isW_of b1)) ?_
    refine EW_iconst (pc2 := 20) (v := 2) rfl dX0_hasWorker_19 (by decide) ?_
    refine EW_icmp_ne (tgt := 38) (pc2 := 23) rfl dX0_hasWorker_20 (by decide) (fun q => ?_) (fun q => ?_)
    · replace h := h.1 q
      refine EW_iinc (v2 + 1) (pc2 := 41) rfl dX0_hasWorker_38 2 rfl rfl (by decide) [1, 2, 0] [(0, .ref 66), (1, .int v1), (2, .int (v2 + 1))] rfl ?_
      refine EW_goto (tgt := 2) dX0_hasWorker_41 (by decide) ?_
      exact hL2 (v2 + 1) h
    · replace h := h.2 q
      refine EW_aload_n (pc2 := 24) rfl dX0_hasWorker_23 0 rfl ?_
      refine AW_getr (r := 67) ⟨gfRX0_11, rfl⟩ (pc2 := 27) rfl dX0_hasWorker_24 q66 rfl ?_
      refine EW_iload_n (pc2 := 28) rfl dX0_hasWorker_27 2 rfl ?_
      obtain ⟨b2, h⟩ := h
      refine AW_aald6 (pc2 := 29) rfl dX0_hasWorker_28 b2 ?_
      refine AW_geti ⟨gfRX0_69, rfl⟩ (pc2 := 32) rfl dX0_hasWorker_29 (isW.o (isW_of b2)) ?_
      refine EW_iload_n (pc2 := 33) rfl dX0_hasWorker_32 1 rfl ?_
      refine EW_icmp_ne (tgt := 38) (pc2 := 36) rfl dX0_hasWorker_33 (by decide) (fun q => ?_) (fun q => ?_)
      · replace h := h.1 q
        refine EW_iinc (v2 + 1) (pc2 := 41) rfl dX0_hasWorker_38 2 rfl rfl (by decide) [1, 2, 0] [(0, .ref 66), (1, .int v1), (2, .int (v2 + 1))] rfl ?_
        refine EW_goto (tgt := 2) dX0_hasWorker_41 (by decide) ?_
        exact hL2 (v2 + 1) h
      · replace h := h.2 q
        refine EW_iconst (pc2 := 37) (v := 1) rfl dX0_hasWorker_36 (by decide) ?_
        exact AW_zret rfl isB1 dX0_hasWorker_37 ⟨_, rfl, rfl, h⟩
set_option maxHeartbeats 4000000 in
set_option maxRecDepth 100000 in
def wX0_hasWorker (v1 : Int32) (x : ab_X) (K : Int32 → Prop) : Prop := Lp1 (lX0_hasWorker_2 v1 x K ) 0
set_option maxHeartbeats 4000000 in
set_option maxRecDepth 100000 in
theorem sX0_hasWorker (v1 : Int32)  (x : ab_X) (K : Int32 → Prop) (d bc bs : Nat) (hdp : 0 ≤ d) (h : wX0_hasWorker v1 x K) : EW MX0_hasWorker 0 [(0, .ref 66), (1, .int v1)] [] (aS x) d bc bs (liP x K) := by
  unfold wX0_hasWorker at h
  refine EW_iconst (pc2 := 1) (v := 0) rfl dX0_hasWorker_0 (by decide) ?_
  refine EW_istore_n (pc2 := 2) rfl dX0_hasWorker_1 (by decide) [1, 2, 0] [(0, .ref 66), (1, .int v1), (2, .int 0)] rfl ?_
  exact sX0_hasWorker_2 v1 0 x K d bc bs hdp h
theorem mlRX0_396 : Cond.methodLink RX0 396 yX0_hasWorker ∈ ab_G ∧ Cond.instanceMethod yX0_hasWorker ∈ ab_G ∧ Cond.selects RX0 yX0_hasWorker yX0_hasWorker ∈ ab_G := ⟨ab_in 1496 (by decide +kernel) (by decide +kernel), ab_in 1497 (by decide +kernel) (by decide +kernel), ab_in 1498 (by decide +kernel) (by decide +kernel)⟩
abbrev MX0_closeOut : ab_M := (yX0_closeOut, cX0_closeOut, 3, none)
theorem dX0_closeOut_0 : decode cX0_closeOut 0 = .ok (.iconst 0, 1) := by decide +kernel
theorem dX0_closeOut_1 : decode cX0_closeOut 1 = .ok (.istore_n 1, 1) := by decide +kernel
theorem dX0_closeOut_2 : decode cX0_closeOut 2 = .ok (.iload_n 1, 1) := by decide +kernel
theorem dX0_closeOut_3 : decode cX0_closeOut 3 = .ok (.aload_n 0, 1) := by decide +kernel
theorem dX0_closeOut_4 : decode cX0_closeOut 4 = .ok (.getfield 81, 3) := by decide +kernel
theorem dX0_closeOut_7 : decode cX0_closeOut 7 = .ok (.if_icmp .ge 58, 3) := by decide +kernel
theorem dX0_closeOut_10 : decode cX0_closeOut 10 = .ok (.aload_n 0, 1) := by decide +kernel
theorem dX0_closeOut_11 : decode cX0_closeOut 11 = .ok (.getfield 19, 3) := by decide +kernel
theorem dX0_closeOut_14 : decode cX0_closeOut 14 = .ok (.iload_n 1, 1) := by decide +kernel
theorem dX0_closeOut_15 : decode cX0_closeOut 15 = .ok (.aaload, 1) := by decide +kernel
theorem dX0_closeOut_16 : decode cX0_closeOut 16 = .ok (.astore_n 2, 1) := by decide +kernel
theorem dX0_closeOut_17 : decode cX0_closeOut 17 = .ok (.aload_n 2, 1) := by decide +kernel
theorem dX0_closeOut_18 : decode cX0_closeOut 18 = .ok (.getfield 84, 3) := by decide +kernel
theorem dX0_closeOut_21 : decode cX0_closeOut 21 = .ok (.ifCond .ne 38, 3) := by decide +kernel
theorem dX0_closeOut_24 : decode cX0_closeOut 24 = .ok (.aload_n 0, 1) := by decide +kernel
theorem dX0_closeOut_25 : decode cX0_closeOut 25 = .ok (.aload_n 2, 1) := by decide +kernel
theorem dX0_closeOut_26 : decode cX0_closeOut 26 = .ok (.getfield 88, 3) := by decide +kernel
theorem dX0_closeOut_29 : decode cX0_closeOut 29 = .ok (.invokevirtual 396, 3) := by decide +kernel
theorem dX0_closeOut_32 : decode cX0_closeOut 32 = .ok (.ifCond .eq 27, 3) := by decide +kernel
theorem dX0_closeOut_35 : decode cX0_closeOut 35 = .ok (.aload_n 0, 1) := by decide +kernel
theorem dX0_closeOut_36 : decode cX0_closeOut 36 = .ok (.getfield 49, 3) := by decide +kernel
theorem dX0_closeOut_39 : decode cX0_closeOut 39 = .ok (.aload_n 2, 1) := by decide +kernel
theorem dX0_closeOut_40 : decode cX0_closeOut 40 = .ok (.getfield 88, 3) := by decide +kernel
theorem dX0_closeOut_43 : decode cX0_closeOut 43 = .ok (.invokevirtual 115, 3) := by decide +kernel
theorem dX0_closeOut_46 : decode cX0_closeOut 46 = .ok (.iconst (-1), 1) := by decide +kernel
theorem dX0_closeOut_47 : decode cX0_closeOut 47 = .ok (.if_icmp .ne 12, 3) := by decide +kernel
theorem dX0_closeOut_50 : decode cX0_closeOut 50 = .ok (.aload_n 2, 1) := by decide +kernel
theorem dX0_closeOut_51 : decode cX0_closeOut 51 = .ok (.iconst 1, 1) := by decide +kernel
theorem dX0_closeOut_52 : decode cX0_closeOut 52 = .ok (.aload_n 0, 1) := by decide +kernel
theorem dX0_closeOut_53 : decode cX0_closeOut 53 = .ok (.getfield 144, 3) := by decide +kernel
theorem dX0_closeOut_56 : decode cX0_closeOut 56 = .ok (.invokevirtual 257, 3) := by decide +kernel
theorem dX0_closeOut_59 : decode cX0_closeOut 59 = .ok (.iinc 1 1, 3) := by decide +kernel
theorem dX0_closeOut_62 : decode cX0_closeOut 62 = .ok (.goto (-60), 3) := by decide +kernel
theorem dX0_closeOut_65 : decode cX0_closeOut 65 = .ok (.return_, 1) := by decide +kernel
theorem okX0_closeOut : ab_okM MX0_closeOut 0 := ⟨by decide, ⟨by decide, by decide⟩, ab_in 1495 (by decide +kernel) (by decide +kernel), ab_in 92 (by decide +kernel) (by decide +kernel), by decide +kernel, by decide⟩
set_option maxHeartbeats 4000000 in
set_option maxRecDepth 100000 in
def lX0_closeOut_2  (K : ab_X → Prop)  (L2 : Int32 → ab_X → Prop) (v1 : Int32) (x : ab_X) : Prop := (((x.1 66 5) ≤ v1 → K x) ∧ (¬ (x.1 66 5) ≤ v1 → (vp_in v1 60 ∧ ((¬ (x.1 (98 + Int32.toNatClampNeg v1) 2) = 0 → L2 (v1 + 1) x) ∧ ((x.1 (98 + Int32.toNatClampNeg v1) 2) = 0 → wX0_hasWorker (x.1 (98 + Int32.toNatClampNeg v1) 0) x (fun r2 => ((r2 = 0 → L2 (v1 + 1) x) ∧ (¬ r2 = 0 → wX10_worstAt (x.1 (98 + Int32.toNatClampNeg v1) 0) x (fun r3 => ((¬ r3 = (-1) → L2 (v1 + 1) x) ∧ (r3 = (-1) → wX1_close (98 + Int32.toNatClampNeg v1) 1 (x.1 66 12) x (fun x4 => L2 (v1 + 1) x4))))))))))))
set_option maxHeartbeats 4000000 in
set_option maxRecDepth 100000 in
theorem sX0_closeOut_2 (v1 : Int32)  (x : ab_X) (K : ab_X → Prop)  (d bc bs : Nat) (hdp : 3 ≤ d)  (h : Lp2 (lX0_closeOut_2  K ) v1 x) : EW MX0_closeOut 2 [(0, .ref 66), (1, .int v1)] [] (aS x) d bc bs (liV K) := by
  refine Lp2.use (P := fun v1 x => EW MX0_closeOut 2 [(0, .ref 66), (1, .int v1)] [] (aS x) d bc bs (liV K)) (fun L2 v1 x hL2 h => ?_) v1 x h
  unfold lX0_closeOut_2 at h
  refine EW_iload_n (pc2 := 3) rfl dX0_closeOut_2 1 rfl ?_
  refine EW_aload_n (pc2 := 4) rfl dX0_closeOut_3 0 rfl ?_
  refine AW_geti ⟨gfRX0_81, rfl⟩ (pc2 := 7) rfl dX0_closeOut_4 q66 ?_
  refine EW_icmp_ge (tgt := 65) (pc2 := 10) rfl dX0_closeOut_7 (by decide) (fun q => ?_) (fun q => ?_)
  · replace h := h.1 q
    exact EW_vret rfl dX0_closeOut_65 ⟨_, rfl, rfl, h⟩
  · replace h := h.2 q
    refine EW_aload_n (pc2 := 11) rfl dX0_closeOut_10 0 rfl ?_
    refine AW_getr (r := 68) ⟨gfRX0_19, rfl⟩ (pc2 := 14) rfl dX0_closeOut_11 q66 rfl ?_
    refine EW_iload_n (pc2 := 15) rfl dX0_closeOut_14 1 rfl ?_
    obtain ⟨b1, h⟩ := h
    refine AW_aald7 (pc2 := 16) rfl dX0_closeOut_15 b1 ?_
    refine EW_astore_n (pc2 := 17) rfl dX0_closeOut_16 (by decide) [1, 2, 0] [(0, .ref 66), (1, .int v1), (2, .ref (98 + Int32.toNatClampNeg v1))] rfl ?_
    refine EW_aload_n (pc2 := 18) rfl dX0_closeOut_17 2 rfl ?_
    refine AW_geti ⟨gfRX0_84, rfl⟩ (pc2 := 21) rfl dX0_closeOut_18 (isK.o (isK_of b1)) ?_
    refine EW_if_ne (tgt := 59) (pc2 := 24) rfl dX0_closeOut_21 (by decide) (fun q => ?_) (fun q => ?_)
    · replace h := h.1 q
      refine EW_iinc (v1 + 1) (pc2 := 62) rfl dX0_closeOut_59 1 rfl rfl (by decide) [1, 0, 2] [(0, .ref 66), (1, .int (v1 + 1)), (2, .ref (98 + Int32.toNatClampNeg v1))] rfl ?_
      refine EW_goto (tgt := 2) dX0_closeOut_62 (by decide) ?_
      refine EW_ls [0, 1] rfl ?_
      exact hL2 (v1 + 1) x h
    · replace h := h.2 q
      refine EW_aload_n (pc2 := 25) rfl dX0_closeOut_24 0 rfl ?_
      refine EW_aload_n (pc2 := 26) rfl dX0_closeOut_25 2 rfl ?_
      refine AW_geti ⟨gfRX0_88, rfl⟩ (pc2 := 29) rfl dX0_closeOut_26 (isK.o (isK_of b1)) ?_
      refine AW_invV (M' := MX0_hasWorker) [.int (x.1 (98 + Int32.toNatClampNeg v1) 0)] (rest := []) mlRX0_396 okX0_hasWorker (pc2 := 32) rfl dX0_closeOut_29 rfl rfl (Nat.le_of_ble_eq_true rfl) (Nat.le_of_ble_eq_true rfl) (d' := 0) (by omega) q66 ⟨by decide, rfl⟩ (EW_mono (fun _ _ hr => ?_) (sX0_hasWorker (x.1 (98 + Int32.toNatClampNeg v1) 0)  x _ _ 0 0 (Nat.le_refl _) h))
      obtain ⟨r2, rfl, rfl, h⟩ := hr
      refine EW_if_eq (tgt := 59) (pc2 := 35) rfl dX0_closeOut_32 (by decide) (fun q => ?_) (fun q => ?_)
      · replace h := h.1 q
        refine EW_iinc (v1 + 1) (pc2 := 62) rfl dX0_closeOut_59 1 rfl rfl (by decide) [1, 0, 2] [(0, .ref 66), (1, .int (v1 + 1)), (2, .ref (98 + Int32.toNatClampNeg v1))] rfl ?_
        refine EW_goto (tgt := 2) dX0_closeOut_62 (by decide) ?_
        refine EW_ls [0, 1] rfl ?_
        exact hL2 (v1 + 1) x h
      · replace h := h.2 q
        refine EW_aload_n (pc2 := 36) rfl dX0_closeOut_35 0 rfl ?_
        refine AW_getr (r := 9) ⟨gfRX0_49, rfl⟩ (pc2 := 39) rfl dX0_closeOut_36 q66 rfl ?_
        refine EW_aload_n (pc2 := 40) rfl dX0_closeOut_39 2 rfl ?_
        refine AW_geti ⟨gfRX0_88, rfl⟩ (pc2 := 43) rfl dX0_closeOut_40 (isK.o (isK_of b1)) ?_
        refine AW_invV (M' := MX10_worstAt) [.int (x.1 (98 + Int32.toNatClampNeg v1) 0)] (rest := []) mlRX0_115 okX10_worstAt (pc2 := 46) rfl dX0_closeOut_43 rfl rfl (Nat.le_of_ble_eq_true rfl) (Nat.le_of_ble_eq_true rfl) (d' := 2) (by omega) q9 ⟨by decide, rfl⟩ (EW_mono (fun _ _ hr => ?_) (sX10_worstAt (x.1 (98 + Int32.toNatClampNeg v1) 0)  x _ _ 0 0 (Nat.le_refl _) h))
        obtain ⟨r3, rfl, rfl, h⟩ := hr
        refine EW_iconst (pc2 := 47) (v := (-1)) rfl dX0_closeOut_46 (by decide) ?_
        refine EW_icmp_ne (tgt := 59) (pc2 := 50) rfl dX0_closeOut_47 (by decide) (fun q => ?_) (fun q => ?_)
        · replace h := h.1 q
          refine EW_iinc (v1 + 1) (pc2 := 62) rfl dX0_closeOut_59 1 rfl rfl (by decide) [1, 0, 2] [(0, .ref 66), (1, .int (v1 + 1)), (2, .ref (98 + Int32.toNatClampNeg v1))] rfl ?_
          refine EW_goto (tgt := 2) dX0_closeOut_62 (by decide) ?_
          refine EW_ls [0, 1] rfl ?_
          exact hL2 (v1 + 1) x h
        · replace h := h.2 q
          refine EW_aload_n (pc2 := 51) rfl dX0_closeOut_50 2 rfl ?_
          refine EW_iconst (pc2 := 52) (v := 1) rfl dX0_closeOut_51 (by decide) ?_
          refine EW_aload_n (pc2 := 53) rfl dX0_closeOut_52 0 rfl ?_
          refine AW_geti ⟨gfRX0_144, rfl⟩ (pc2 := 56) rfl dX0_closeOut_53 q66 ?_
          refine AW_invV (M' := MX1_close) [.int 1, .int (x.1 66 12)] (rest := []) mlRX0_257 okX1_close (pc2 := 59) rfl dX0_closeOut_56 rfl rfl (Nat.le_of_ble_eq_true rfl) (Nat.le_of_ble_eq_true rfl) (d' := 0) (by omega) (isK.o (isK_of b1)) ⟨by decide, rfl⟩ (EW_mono (fun _ _ hr => ?_) (sX1_close (98 + Int32.toNatClampNeg v1) 1 (x.1 66 12) (isK_of b1) x _ _ 0 0 (Nat.le_refl _) h))
          obtain ⟨x4, rfl, rfl, h⟩ := hr
          refine EW_iinc (v1 + 1) (pc2 := 62) rfl dX0_closeOut_59 1 rfl rfl (by decide) [1, 0, 2] [(0, .ref 66), (1, .int (v1 + 1)), (2, .ref (98 + Int32.toNatClampNeg v1))] rfl ?_
          refine EW_goto (tgt := 2) dX0_closeOut_62 (by decide) ?_
          refine EW_ls [0, 1] rfl ?_
          exact hL2 (v1 + 1) x4 h
set_option maxHeartbeats 4000000 in
set_option maxRecDepth 100000 in
def wX0_closeOut  (x : ab_X) (K : ab_X → Prop) : Prop := Lp2 (lX0_closeOut_2 K ) 0 x
set_option maxHeartbeats 4000000 in
set_option maxRecDepth 100000 in
theorem sX0_closeOut   (x : ab_X) (K : ab_X → Prop) (d bc bs : Nat) (hdp : 3 ≤ d) (h : wX0_closeOut  x K) : EW MX0_closeOut 0 [(0, .ref 66)] [] (aS x) d bc bs (liV K) := by
  unfold wX0_closeOut at h
  refine EW_iconst (pc2 := 1) (v := 0) rfl dX0_closeOut_0 (by decide) ?_
  refine EW_istore_n (pc2 := 2) rfl dX0_closeOut_1 (by decide) [1, 0] [(0, .ref 66), (1, .int 0)] rfl ?_
  exact sX0_closeOut_2 0 x K d bc bs hdp h
abbrev MX10_has : ab_M := (yX10_has, cX10_has, 2, (some .boolean))
theorem dX10_has_0 : decode cX10_has 0 = .ok (.iload_n 1, 1) := by decide +kernel
theorem dX10_has_1 : decode cX10_has 1 = .ok (.aload_n 0, 1) := by decide +kernel
theorem dX10_has_2 : decode cX10_has 2 = .ok (.getfield 44, 3) := by decide +kernel
theorem dX10_has_5 : decode cX10_has 5 = .ok (.invokestatic 48, 3) := by decide +kernel
theorem dX10_has_8 : decode cX10_has 8 = .ok (.ireturn, 1) := by decide +kernel
theorem okX10_has : ab_okM MX10_has 1 := ⟨by decide, ⟨by decide, by decide⟩, ab_in 836 (by decide +kernel) (by decide +kernel), ab_in 89 (by decide +kernel) (by decide +kernel), by decide +kernel, by decide⟩
set_option maxHeartbeats 4000000 in
set_option maxRecDepth 100000 in
def wX10_has (v1 : Int32) (x : ab_X) (K : Int32 → Prop) : Prop := wX11_below v1 (x.1 9 2) x (fun r1 => (isB r1 ∧ K r1))
set_option maxHeartbeats 4000000 in
set_option maxRecDepth 100000 in
theorem sX10_has (v1 : Int32)  (x : ab_X) (K : Int32 → Prop) (d bc bs : Nat) (hdp : 1 ≤ d) (h : wX10_has v1 x K) : EW MX10_has 0 [(0, .ref 9), (1, .int v1)] [] (aS x) d bc bs (liP x K) := by
  unfold wX10_has at h
  refine EW_iload_n (pc2 := 1) rfl dX10_has_0 1 rfl ?_
  refine EW_aload_n (pc2 := 2) rfl dX10_has_1 0 rfl ?_
  refine AW_geti ⟨gfRX10_44, rfl⟩ (pc2 := 5) rfl dX10_has_2 q9 ?_
  refine AW_invSN (M' := MX11_below) [.int v1, .int (x.1 9 2)] (rest := []) mlRX10_48 okX11_below (pc2 := 8) rfl dX10_has_5 rfl rfl (Nat.le_of_ble_eq_true rfl) (Nat.le_of_ble_eq_true rfl) (d' := 0) (by omega) (EW_mono (fun _ _ hr => ?_) (sX11_below v1 (x.1 9 2)  x _ _ 0 0 (Nat.le_refl _) h))
  obtain ⟨r1, rfl, rfl, h⟩ := hr
  obtain ⟨z2, h⟩ := h
  exact AW_zret rfl z2 dX10_has_8 ⟨_, rfl, rfl, h⟩
theorem mlRX0_263 : Cond.methodLink RX0 263 yX10_has ∈ ab_G ∧ Cond.instanceMethod yX10_has ∈ ab_G ∧ Cond.selects RX10 yX10_has yX10_has ∈ ab_G := ⟨ab_in 1376 (by decide +kernel) (by decide +kernel), ab_in 834 (by decide +kernel) (by decide +kernel), ab_in 835 (by decide +kernel) (by decide +kernel)⟩
abbrev MX0_goOver : ab_M := (yX0_goOver, cX0_goOver, 4, none)
theorem dX0_goOver_0 : decode cX0_goOver 0 = .ok (.iconst 0, 1) := by decide +kernel
theorem dX0_goOver_1 : decode cX0_goOver 1 = .ok (.istore_n 1, 1) := by decide +kernel
theorem dX0_goOver_2 : decode cX0_goOver 2 = .ok (.iload_n 1, 1) := by decide +kernel
theorem dX0_goOver_3 : decode cX0_goOver 3 = .ok (.aload_n 0, 1) := by decide +kernel
theorem dX0_goOver_4 : decode cX0_goOver 4 = .ok (.getfield 55, 3) := by decide +kernel
theorem dX0_goOver_7 : decode cX0_goOver 7 = .ok (.if_icmp .ge 95, 3) := by decide +kernel
theorem dX0_goOver_10 : decode cX0_goOver 10 = .ok (.aload_n 0, 1) := by decide +kernel
theorem dX0_goOver_11 : decode cX0_goOver 11 = .ok (.getfield 11, 3) := by decide +kernel
theorem dX0_goOver_14 : decode cX0_goOver 14 = .ok (.iload_n 1, 1) := by decide +kernel
theorem dX0_goOver_15 : decode cX0_goOver 15 = .ok (.aaload, 1) := by decide +kernel
theorem dX0_goOver_16 : decode cX0_goOver 16 = .ok (.astore_n 2, 1) := by decide +kernel
theorem dX0_goOver_17 : decode cX0_goOver 17 = .ok (.aload_n 2, 1) := by decide +kernel
theorem dX0_goOver_18 : decode cX0_goOver 18 = .ok (.getfield 75, 3) := by decide +kernel
theorem dX0_goOver_21 : decode cX0_goOver 21 = .ok (.iconst 2, 1) := by decide +kernel
theorem dX0_goOver_22 : decode cX0_goOver 22 = .ok (.if_icmp .ne 74, 3) := by decide +kernel
theorem dX0_goOver_25 : decode cX0_goOver 25 = .ok (.aload_n 0, 1) := by decide +kernel
theorem dX0_goOver_26 : decode cX0_goOver 26 = .ok (.getfield 49, 3) := by decide +kernel
theorem dX0_goOver_29 : decode cX0_goOver 29 = .ok (.aload_n 2, 1) := by decide +kernel
theorem dX0_goOver_30 : decode cX0_goOver 30 = .ok (.getfield 78, 3) := by decide +kernel
theorem dX0_goOver_33 : decode cX0_goOver 33 = .ok (.invokevirtual 263, 3) := by decide +kernel
theorem dX0_goOver_36 : decode cX0_goOver 36 = .ok (.ifCond .ne 6, 3) := by decide +kernel
theorem dX0_goOver_39 : decode cX0_goOver 39 = .ok (.goto 57, 3) := by decide +kernel
theorem dX0_goOver_42 : decode cX0_goOver 42 = .ok (.aload_n 0, 1) := by decide +kernel
theorem dX0_goOver_43 : decode cX0_goOver 43 = .ok (.getfield 49, 3) := by decide +kernel
theorem dX0_goOver_46 : decode cX0_goOver 46 = .ok (.getfield 100, 3) := by decide +kernel
theorem dX0_goOver_49 : decode cX0_goOver 49 = .ok (.aload_n 0, 1) := by decide +kernel
theorem dX0_goOver_50 : decode cX0_goOver 50 = .ok (.getfield 49, 3) := by decide +kernel
theorem dX0_goOver_53 : decode cX0_goOver 53 = .ok (.getfield 148, 3) := by decide +kernel
theorem dX0_goOver_56 : decode cX0_goOver 56 = .ok (.aload_n 2, 1) := by decide +kernel
theorem dX0_goOver_57 : decode cX0_goOver 57 = .ok (.getfield 78, 3) := by decide +kernel
theorem dX0_goOver_60 : decode cX0_goOver 60 = .ok (.aaload, 1) := by decide +kernel
theorem dX0_goOver_61 : decode cX0_goOver 61 = .ok (.invokevirtual 266, 3) := by decide +kernel
theorem dX0_goOver_64 : decode cX0_goOver 64 = .ok (.ifCond .ne 32, 3) := by decide +kernel
theorem dX0_goOver_67 : decode cX0_goOver 67 = .ok (.aload_n 0, 1) := by decide +kernel
theorem dX0_goOver_68 : decode cX0_goOver 68 = .ok (.getfield 49, 3) := by decide +kernel
theorem dX0_goOver_71 : decode cX0_goOver 71 = .ok (.aload_n 2, 1) := by decide +kernel
theorem dX0_goOver_72 : decode cX0_goOver 72 = .ok (.getfield 69, 3) := by decide +kernel
theorem dX0_goOver_75 : decode cX0_goOver 75 = .ok (.invokevirtual 115, 3) := by decide +kernel
theorem dX0_goOver_78 : decode cX0_goOver 78 = .ok (.istore_n 3, 1) := by decide +kernel
theorem dX0_goOver_79 : decode cX0_goOver 79 = .ok (.aload_n 2, 1) := by decide +kernel
theorem dX0_goOver_80 : decode cX0_goOver 80 = .ok (.iload_n 3, 1) := by decide +kernel
theorem dX0_goOver_81 : decode cX0_goOver 81 = .ok (.iconst (-1), 1) := by decide +kernel
theorem dX0_goOver_82 : decode cX0_goOver 82 = .ok (.if_icmp .ne 10, 3) := by decide +kernel
theorem dX0_goOver_85 : decode cX0_goOver 85 = .ok (.aload_n 2, 1) := by decide +kernel
theorem dX0_goOver_86 : decode cX0_goOver 86 = .ok (.getfield 78, 3) := by decide +kernel
theorem dX0_goOver_89 : decode cX0_goOver 89 = .ok (.goto 4, 3) := by decide +kernel
theorem dX0_goOver_92 : decode cX0_goOver 92 = .ok (.iload_n 3, 1) := by decide +kernel
theorem dX0_goOver_93 : decode cX0_goOver 93 = .ok (.putfield 78, 3) := by decide +kernel
theorem dX0_goOver_96 : decode cX0_goOver 96 = .ok (.iinc 1 1, 3) := by decide +kernel
theorem dX0_goOver_99 : decode cX0_goOver 99 = .ok (.goto (-97), 3) := by decide +kernel
theorem dX0_goOver_102 : decode cX0_goOver 102 = .ok (.return_, 1) := by decide +kernel
theorem okX0_goOver : ab_okM MX0_goOver 0 := ⟨by decide, ⟨by decide, by decide⟩, ab_in 1375 (by decide +kernel) (by decide +kernel), ab_in 92 (by decide +kernel) (by decide +kernel), by decide +kernel, by decide⟩
set_option maxHeartbeats 4000000 in
set_option maxRecDepth 100000 in
def lX0_goOver_2  (K : ab_X → Prop)  (L2 : Int32 → ab_X → Prop) (v1 : Int32) (x : ab_X) : Prop := (((x.1 66 3) ≤ v1 → K x) ∧ (¬ (x.1 66 3) ≤ v1 → (vp_in v1 16 ∧ ((¬ (x.1 (82 + Int32.toNatClampNeg v1) 8) = 2 → L2 (v1 + 1) x) ∧ ((x.1 (82 + Int32.toNatClampNeg v1) 8) = 2 → wX10_has (x.1 (82 + Int32.toNatClampNeg v1) 12) x (fun r2 => ((¬ r2 = 0 → (vp_in (x.1 (82 + Int32.toNatClampNeg v1) 12) 12 ∧ wX3_burningRooms 11 (30 + 3 * Int32.toNatClampNeg (x.1 (82 + Int32.toNatClampNeg v1) 12)) x (fun r4 => ((¬ r4 = 0 → L2 (v1 + 1) x) ∧ (r4 = 0 → wX10_worstAt (x.1 (82 + Int32.toNatClampNeg v1) 9) x (fun r5 => ((¬ r5 = (-1) → L2 (v1 + 1) (wr x (82 + Int32.toNatClampNeg v1) 12 r5)) ∧ (r5 = (-1) → L2 (v1 + 1) (wr x (82 + Int32.toNatClampNeg v1) 12 (x.1 (82 + Int32.toNatClampNeg v1) 12)))))))))) ∧ (r2 = 0 → L2 (v1 + 1) x))))))))
set_option maxHeartbeats 4000000 in
set_option maxRecDepth 100000 in
theorem sX0_goOver_2 (v1 : Int32)  (x : ab_X) (K : ab_X → Prop)  (d bc bs : Nat) (hdp : 3 ≤ d)  (h : Lp2 (lX0_goOver_2  K ) v1 x) : EW MX0_goOver 2 [(0, .ref 66), (1, .int v1)] [] (aS x) d bc bs (liV K) := by
  refine Lp2.use (P := fun v1 x => EW MX0_goOver 2 [(0, .ref 66), (1, .int v1)] [] (aS x) d bc bs (liV K)) (fun L2 v1 x hL2 h => ?_) v1 x h
  unfold lX0_goOver_2 at h
  refine EW_iload_n (pc2 := 3) rfl dX0_goOver_2 1 rfl ?_
  refine EW_aload_n (pc2 := 4) rfl dX0_goOver_3 0 rfl ?_
  refine AW_geti ⟨gfRX0_55, rfl⟩ (pc2 := 7) rfl dX0_goOver_4 q66 ?_
  refine EW_icmp_ge (tgt := 102) (pc2 := 10) rfl dX0_goOver_7 (by decide) (fun q => ?_) (fun q => ?_)
  · replace h := h.1 q
    exact EW_vret rfl dX0_goOver_102 ⟨_, rfl, rfl, h⟩
  · replace h := h.2 q
    refine EW_aload_n (pc2 := 11) rfl dX0_goOver_10 0 rfl ?_
    refine AW_getr (r := 67) ⟨gfRX0_11, rfl⟩ (pc2 := 14) rfl dX0_goOver_11 q66 rfl ?_
    refine EW_iload_n (pc2 := 15) rfl dX0_goOver_14 1 rfl ?_
    obtain ⟨b1, h⟩ := h
    refine AW_aald6 (pc2 := 16) rfl dX0_goOver_15 b1 ?_
    refine EW_astore_n (pc2 := 17) rfl dX0_goOver_16 (by decide) [1, 2, 0] [(0, .ref 66), (1, .int v1), (2, .ref (82 + Int32.toNatClampNeg v1))] rfl ?_
    refine EW_aload_n (pc2 := 18) rfl dX0_goOver_17 2 rfl ?_
    refine AW_geti ⟨gfRX0_75, rfl⟩ (pc2 := 21) rfl dX0_goOver_18 (isW.o (isW_of b1)) ?_
    refine EW_iconst (pc2 := 22) (v := 2) rfl dX0_goOver_21 (by decide) ?_
    refine EW_icmp_ne (tgt := 96) (pc2 := 25) rfl dX0_goOver_22 (by decide) (fun q => ?_) (fun q => ?_)
    · replace h := h.1 q
      refine EW_iinc (v1 + 1) (pc2 := 99) rfl dX0_goOver_96 1 rfl rfl (by decide) [1, 0, 2] [(0, .ref 66), (1, .int (v1 + 1)), (2, .ref (82 + Int32.toNatClampNeg v1))] rfl ?_
      refine EW_goto (tgt := 2) dX0_goOver_99 (by decide) ?_
      refine EW_ls [0, 1] rfl ?_
      exact hL2 (v1 + 1) x h
    · replace h := h.2 q
      refine EW_aload_n (pc2 := 26) rfl dX0_goOver_25 0 rfl ?_
      refine AW_getr (r := 9) ⟨gfRX0_49, rfl⟩ (pc2 := 29) rfl dX0_goOver_26 q66 rfl ?_
      refine EW_aload_n (pc2 := 30) rfl dX0_goOver_29 2 rfl ?_
      refine AW_geti ⟨gfRX0_78, rfl⟩ (pc2 := 33) rfl dX0_goOver_30 (isW.o (isW_of b1)) ?_
      refine AW_invV (M' := MX10_has) [.int (x.1 (82 + Int32.toNatClampNeg v1) 12)] (rest := []) mlRX0_263 okX10_has (pc2 := 36) rfl dX0_goOver_33 rfl rfl (Nat.le_of_ble_eq_true rfl) (Nat.le_of_ble_eq_true rfl) (d' := 1) (by omega) q9 ⟨by decide, rfl⟩ (EW_mono (fun _ _ hr => ?_) (sX10_has (x.1 (82 + Int32.toNatClampNeg v1) 12)  x _ _ 0 0 (Nat.le_refl _) h))
      obtain ⟨r2, rfl, rfl, h⟩ := hr
      refine EW_if_ne (tgt := 42) (pc2 := 39) rfl dX0_goOver_36 (by decide) (fun q => ?_) (fun q => ?_)
      · replace h := h.1 q
        refine EW_aload_n (pc2 := 43) rfl dX0_goOver_42 0 rfl ?_
        refine AW_getr (r := 9) ⟨gfRX0_49, rfl⟩ (pc2 := 46) rfl dX0_goOver_43 q66 rfl ?_
        refine AW_getr (r := 11) ⟨gfRX0_100, rfl⟩ (pc2 := 49) rfl dX0_goOver_46 q9 rfl ?_
        refine EW_aload_n (pc2 := 50) rfl dX0_goOver_49 0 rfl ?_
        refine AW_getr (r := 9) ⟨gfRX0_49, rfl⟩ (pc2 := 53) rfl dX0_goOver_50 q66 rfl ?_
        refine AW_getr (r := 10) ⟨gfRX0_148, rfl⟩ (pc2 := 56) rfl dX0_goOver_53 q9 rfl ?_
        refine EW_aload_n (pc2 := 57) rfl dX0_goOver_56 2 rfl ?_
        refine AW_geti ⟨gfRX0_78, rfl⟩ (pc2 := 60) rfl dX0_goOver_57 (isW.o (isW_of b1)) ?_
        obtain ⟨b3, h⟩ := h
        refine AW_aald5 (pc2 := 61) rfl dX0_goOver_60 b3 ?_
        refine AW_invV (M' := MX3_burningRooms) [.ref (30 + 3 * Int32.toNatClampNeg (x.1 (82 + Int32.toNatClampNeg v1) 12))] (rest := []) mlRX0_266 okX3_burningRooms (pc2 := 64) rfl dX0_goOver_61 rfl rfl (Nat.le_of_ble_eq_true rfl) (Nat.le_of_ble_eq_true rfl) (d' := 1) (by omega) q11 ⟨by decide, rfl⟩ (EW_mono (fun _ _ hr => ?_) (sX3_burningRooms 11 (30 + 3 * Int32.toNatClampNeg (x.1 (82 + Int32.toNatClampNeg v1) 12)) (Or.inl rfl : isF 11) (isH_of b3) x _ _ 0 0 (Nat.le_refl _) h))
        obtain ⟨r4, rfl, rfl, h⟩ := hr
        refine EW_if_ne (tgt := 96) (pc2 := 67) rfl dX0_goOver_64 (by decide) (fun q => ?_) (fun q => ?_)
        · replace h := h.1 q
          refine EW_iinc (v1 + 1) (pc2 := 99) rfl dX0_goOver_96 1 rfl rfl (by decide) [1, 0, 2] [(0, .ref 66), (1, .int (v1 + 1)), (2, .ref (82 + Int32.toNatClampNeg v1))] rfl ?_
          refine EW_goto (tgt := 2) dX0_goOver_99 (by decide) ?_
          refine EW_ls [0, 1] rfl ?_
          exact hL2 (v1 + 1) x h
        · replace h := h.2 q
          refine EW_aload_n (pc2 := 68) rfl dX0_goOver_67 0 rfl ?_
          refine AW_getr (r := 9) ⟨gfRX0_49, rfl⟩ (pc2 := 71) rfl dX0_goOver_68 q66 rfl ?_
          refine EW_aload_n (pc2 := 72) rfl dX0_goOver_71 2 rfl ?_
          refine AW_geti ⟨gfRX0_69, rfl⟩ (pc2 := 75) rfl dX0_goOver_72 (isW.o (isW_of b1)) ?_
          refine AW_invV (M' := MX10_worstAt) [.int (x.1 (82 + Int32.toNatClampNeg v1) 9)] (rest := []) mlRX0_115 okX10_worstAt (pc2 := 78) rfl dX0_goOver_75 rfl rfl (Nat.le_of_ble_eq_true rfl) (Nat.le_of_ble_eq_true rfl) (d' := 2) (by omega) q9 ⟨by decide, rfl⟩ (EW_mono (fun _ _ hr => ?_) (sX10_worstAt (x.1 (82 + Int32.toNatClampNeg v1) 9)  x _ _ 0 0 (Nat.le_refl _) h))
          obtain ⟨r5, rfl, rfl, h⟩ := hr
          refine EW_istore_n (pc2 := 79) rfl dX0_goOver_78 (by decide) [1, 2, 3, 0] [(0, .ref 66), (1, .int v1), (2, .ref (82 + Int32.toNatClampNeg v1)), (3, .int r5)] rfl ?_
          refine EW_aload_n (pc2 := 80) rfl dX0_goOver_79 2 rfl ?_
          refine EW_iload_n (pc2 := 81) rfl dX0_goOver_80 3 rfl ?_
          refine EW_iconst (pc2 := 82) (v := (-1)) rfl dX0_goOver_81 (by decide) ?_
          refine EW_icmp_ne (tgt := 92) (pc2 := 85) rfl dX0_goOver_82 (by decide) (fun q => ?_) (fun q => ?_)
          · replace h := h.1 q
            refine EW_iload_n (pc2 := 93) rfl dX0_goOver_92 3 rfl ?_
            refine AW_puti ⟨gfRX0_78, rfl, rfl⟩ (pc2 := 96) rfl dX0_goOver_93 (isW.o (isW_of b1)) ?_
            refine EW_iinc (v1 + 1) (pc2 := 99) rfl dX0_goOver_96 1 rfl rfl (by decide) [1, 0, 2, 3] [(0, .ref 66), (1, .int (v1 + 1)), (2, .ref (82 + Int32.toNatClampNeg v1)), (3, .int r5)] rfl ?_
            refine EW_goto (tgt := 2) dX0_goOver_99 (by decide) ?_
            refine EW_ls [0, 1] rfl ?_
            exact hL2 (v1 + 1) (wr x (82 + Int32.toNatClampNeg v1) 12 r5) h
          · replace h := h.2 q
            refine EW_aload_n (pc2 := 86) rfl dX0_goOver_85 2 rfl ?_
            refine AW_geti ⟨gfRX0_78, rfl⟩ (pc2 := 89) rfl dX0_goOver_86 (isW.o (isW_of b1)) ?_
            refine EW_goto (tgt := 93) dX0_goOver_89 (by decide) ?_
            refine AW_puti ⟨gfRX0_78, rfl, rfl⟩ (pc2 := 96) rfl dX0_goOver_93 (isW.o (isW_of b1)) ?_
            refine EW_iinc (v1 + 1) (pc2 := 99) rfl dX0_goOver_96 1 rfl rfl (by decide) [1, 0, 2, 3] [(0, .ref 66), (1, .int (v1 + 1)), (2, .ref (82 + Int32.toNatClampNeg v1)), (3, .int r5)] rfl ?_
            refine EW_goto (tgt := 2) dX0_goOver_99 (by decide) ?_
            refine EW_ls [0, 1] rfl ?_
            exact hL2 (v1 + 1) (wr x (82 + Int32.toNatClampNeg v1) 12 (x.1 (82 + Int32.toNatClampNeg v1) 12)) h
      · replace h := h.2 q
        refine EW_goto (tgt := 96) dX0_goOver_39 (by decide) ?_
        refine EW_iinc (v1 + 1) (pc2 := 99) rfl dX0_goOver_96 1 rfl rfl (by decide) [1, 0, 2] [(0, .ref 66), (1, .int (v1 + 1)), (2, .ref (82 + Int32.toNatClampNeg v1))] rfl ?_
        refine EW_goto (tgt := 2) dX0_goOver_99 (by decide) ?_
        refine EW_ls [0, 1] rfl ?_
        exact hL2 (v1 + 1) x h
set_option maxHeartbeats 4000000 in
set_option maxRecDepth 100000 in
def wX0_goOver  (x : ab_X) (K : ab_X → Prop) : Prop := Lp2 (lX0_goOver_2 K ) 0 x
set_option maxHeartbeats 4000000 in
set_option maxRecDepth 100000 in
theorem sX0_goOver   (x : ab_X) (K : ab_X → Prop) (d bc bs : Nat) (hdp : 3 ≤ d) (h : wX0_goOver  x K) : EW MX0_goOver 0 [(0, .ref 66)] [] (aS x) d bc bs (liV K) := by
  unfold wX0_goOver at h
  refine EW_iconst (pc2 := 1) (v := 0) rfl dX0_goOver_0 (by decide) ?_
  refine EW_istore_n (pc2 := 2) rfl dX0_goOver_1 (by decide) [1, 0] [(0, .ref 66), (1, .int 0)] rfl ?_
  exact sX0_goOver_2 0 x K d bc bs hdp h
abbrev MX0_has : ab_M := (yX0_has, cX0_has, 2, (some .boolean))
theorem dX0_has_0 : decode cX0_has 0 = .ok (.iload_n 1, 1) := by decide +kernel
theorem dX0_has_1 : decode cX0_has 1 = .ok (.aload_n 0, 1) := by decide +kernel
theorem dX0_has_2 : decode cX0_has 2 = .ok (.getfield 55, 3) := by decide +kernel
theorem dX0_has_5 : decode cX0_has 5 = .ok (.invokestatic 59, 3) := by decide +kernel
theorem dX0_has_8 : decode cX0_has 8 = .ok (.ireturn, 1) := by decide +kernel
theorem okX0_has : ab_okM MX0_has 1 := ⟨by decide, ⟨by decide, by decide⟩, ab_in 982 (by decide +kernel) (by decide +kernel), ab_in 92 (by decide +kernel) (by decide +kernel), by decide +kernel, by decide⟩
set_option maxHeartbeats 4000000 in
set_option maxRecDepth 100000 in
def wX0_has (v1 : Int32) (x : ab_X) (K : Int32 → Prop) : Prop := wX11_below v1 (x.1 66 3) x (fun r1 => (isB r1 ∧ K r1))
set_option maxHeartbeats 4000000 in
set_option maxRecDepth 100000 in
theorem sX0_has (v1 : Int32)  (x : ab_X) (K : Int32 → Prop) (d bc bs : Nat) (hdp : 1 ≤ d) (h : wX0_has v1 x K) : EW MX0_has 0 [(0, .ref 66), (1, .int v1)] [] (aS x) d bc bs (liP x K) := by
  unfold wX0_has at h
  refine EW_iload_n (pc2 := 1) rfl dX0_has_0 1 rfl ?_
  refine EW_aload_n (pc2 := 2) rfl dX0_has_1 0 rfl ?_
  refine AW_geti ⟨gfRX0_55, rfl⟩ (pc2 := 5) rfl dX0_has_2 q66 ?_
  refine AW_invSN (M' := MX11_below) [.int v1, .int (x.1 66 3)] (rest := []) mlRX0_59 okX11_below (pc2 := 8) rfl dX0_has_5 rfl rfl (Nat.le_of_ble_eq_true rfl) (Nat.le_of_ble_eq_true rfl) (d' := 0) (by omega) (EW_mono (fun _ _ hr => ?_) (sX11_below v1 (x.1 66 3)  x _ _ 0 0 (Nat.le_refl _) h))
  obtain ⟨r1, rfl, rfl, h⟩ := hr
  obtain ⟨z2, h⟩ := h
  exact AW_zret rfl z2 dX0_has_8 ⟨_, rfl, rfl, h⟩
theorem mlRX10_52 : Cond.methodLink RX10 52 yX10_has ∈ ab_G ∧ Cond.instanceMethod yX10_has ∈ ab_G ∧ Cond.selects RX10 yX10_has yX10_has ∈ ab_G := ⟨ab_in 833 (by decide +kernel) (by decide +kernel), ab_in 834 (by decide +kernel) (by decide +kernel), ab_in 835 (by decide +kernel) (by decide +kernel)⟩
abbrev MX10_hasFloor : ab_M := (yX10_hasFloor, cX10_hasFloor, 3, (some .boolean))
theorem dX10_hasFloor_0 : decode cX10_hasFloor 0 = .ok (.aload_n 0, 1) := by decide +kernel
theorem dX10_hasFloor_1 : decode cX10_hasFloor 1 = .ok (.iload_n 1, 1) := by decide +kernel
theorem dX10_hasFloor_2 : decode cX10_hasFloor 2 = .ok (.invokevirtual 52, 3) := by decide +kernel
theorem dX10_hasFloor_5 : decode cX10_hasFloor 5 = .ok (.ifCond .eq 23, 3) := by decide +kernel
theorem dX10_hasFloor_8 : decode cX10_hasFloor 8 = .ok (.iload_n 2, 1) := by decide +kernel
theorem dX10_hasFloor_9 : decode cX10_hasFloor 9 = .ok (.aload_n 0, 1) := by decide +kernel
theorem dX10_hasFloor_10 : decode cX10_hasFloor 10 = .ok (.getfield 11, 3) := by decide +kernel
theorem dX10_hasFloor_13 : decode cX10_hasFloor 13 = .ok (.iload_n 1, 1) := by decide +kernel
theorem dX10_hasFloor_14 : decode cX10_hasFloor 14 = .ok (.aaload, 1) := by decide +kernel
theorem dX10_hasFloor_15 : decode cX10_hasFloor 15 = .ok (.getfield 56, 3) := by decide +kernel
theorem dX10_hasFloor_18 : decode cX10_hasFloor 18 = .ok (.invokestatic 48, 3) := by decide +kernel
theorem dX10_hasFloor_21 : decode cX10_hasFloor 21 = .ok (.ifCond .eq 7, 3) := by decide +kernel
theorem dX10_hasFloor_24 : decode cX10_hasFloor 24 = .ok (.iconst 1, 1) := by decide +kernel
theorem dX10_hasFloor_25 : decode cX10_hasFloor 25 = .ok (.goto 4, 3) := by decide +kernel
theorem dX10_hasFloor_28 : decode cX10_hasFloor 28 = .ok (.iconst 0, 1) := by decide +kernel
theorem dX10_hasFloor_29 : decode cX10_hasFloor 29 = .ok (.ireturn, 1) := by decide +kernel
theorem okX10_hasFloor : ab_okM MX10_hasFloor 2 := ⟨by decide, ⟨by decide, by decide⟩, ab_in 858 (by decide +kernel) (by decide +kernel), ab_in 89 (by decide +kernel) (by decide +kernel), by decide +kernel, by decide⟩
set_option maxHeartbeats 4000000 in
set_option maxRecDepth 100000 in
def wX10_hasFloor (v1 : Int32) (v2 : Int32) (x : ab_X) (K : Int32 → Prop) : Prop := wX10_has v1 x (fun r1 => ((r1 = 0 → K 0) ∧ (¬ r1 = 0 → (vp_in v1 12 ∧ wX11_below v2 (x.1 (30 + 3 * Int32.toNatClampNeg v1) 3) x (fun r3 => ((r3 = 0 → K 0) ∧ (¬ r3 = 0 → K 1)))))))
set_option maxHeartbeats 4000000 in
set_option maxRecDepth 100000 in
theorem sX10_hasFloor (v1 : Int32) (v2 : Int32)  (x : ab_X) (K : Int32 → Prop) (d bc bs : Nat) (hdp : 2 ≤ d) (h : wX10_hasFloor v1 v2 x K) : EW MX10_hasFloor 0 [(0, .ref 9), (1, .int v1), (2, .int v2)] [] (aS x) d bc bs (liP x K) := by
  unfold wX10_hasFloor at h
  refine EW_aload_n (pc2 := 1) rfl dX10_hasFloor_0 0 rfl ?_
  refine EW_iload_n (pc2 := 2) rfl dX10_hasFloor_1 1 rfl ?_
  refine AW_invV (M' := MX10_has) [.int v1] (rest := []) mlRX10_52 okX10_has (pc2 := 5) rfl dX10_hasFloor_2 rfl rfl (Nat.le_of_ble_eq_true rfl) (Nat.le_of_ble_eq_true rfl) (d' := 1) (by omega) q9 ⟨by decide, rfl⟩ (EW_mono (fun _ _ hr => ?_) (sX10_has v1  x _ _ 0 0 (Nat.le_refl _) h))
  obtain ⟨r1, rfl, rfl, h⟩ := hr
  refine EW_if_eq (tgt := 28) (pc2 := 8) rfl dX10_hasFloor_5 (by decide) (fun q => ?_) (fun q => ?_)
  · replace h := h.1 q
    refine EW_iconst (pc2 := 29) (v := 0) rfl dX10_hasFloor_28 (by decide) ?_
    exact AW_zret rfl isB0 dX10_hasFloor_29 ⟨_, rfl, rfl, h⟩
  · replace h := h.2 q
    refine EW_iload_n (pc2 := 9) rfl dX10_hasFloor_8 2 rfl ?_
    refine EW_aload_n (pc2 := 10) rfl dX10_hasFloor_9 0 rfl ?_
    refine AW_getr (r := 10) ⟨gfRX10_11, rfl⟩ (pc2 := 13) rfl dX10_hasFloor_10 q9 rfl ?_
    refine EW_iload_n (pc2 := 14) rfl dX10_hasFloor_13 1 rfl ?_
    obtain ⟨b2, h⟩ := h
    refine AW_aald5 (pc2 := 15) rfl dX10_hasFloor_14 b2 ?_
    refine AW_geti ⟨gfRX10_56, rfl⟩ (pc2 := 18) rfl dX10_hasFloor_15 (isH.o (isH_of b2)) ?_
    refine AW_invSN (M' := MX11_below) [.int v2, .int (x.1 (30 + 3 * Int32.toNatClampNeg v1) 3)] (rest := []) mlRX10_48 okX11_below (pc2 := 21) rfl dX10_hasFloor_18 rfl rfl (Nat.le_of_ble_eq_true rfl) (Nat.le_of_ble_eq_true rfl) (d' := 0) (by omega) (EW_mono (fun _ _ hr => ?_) (sX11_below v2 (x.1 (30 + 3 * Int32.toNatClampNeg v1) 3)  x _ _ 0 0 (Nat.le_refl _) h))
    obtain ⟨r3, rfl, rfl, h⟩ := hr
    refine EW_if_eq (tgt := 28) (pc2 := 24) rfl dX10_hasFloor_21 (by decide) (fun q => ?_) (fun q => ?_)
    · replace h := h.1 q
      refine EW_iconst (pc2 := 29) (v := 0) rfl dX10_hasFloor_28 (by decide) ?_
      exact AW_zret rfl isB0 dX10_hasFloor_29 ⟨_, rfl, rfl, h⟩
    · replace h := h.2 q
      refine EW_iconst (pc2 := 25) (v := 1) rfl dX10_hasFloor_24 (by decide) ?_
      refine EW_goto (tgt := 29) dX10_hasFloor_25 (by decide) ?_
      exact AW_zret rfl isB1 dX10_hasFloor_29 ⟨_, rfl, rfl, h⟩
