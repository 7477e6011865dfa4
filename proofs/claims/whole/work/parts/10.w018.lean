theorem mlRX0_251 : Cond.methodLink RX0 251 yX0_witness ∈ ab_G ∧ Cond.instanceMethod yX0_witness ∈ ab_G ∧ Cond.selects RX0 yX0_witness yX0_witness ∈ ab_G := ⟨ab_in 1510 (by decide +kernel) (by decide +kernel), ab_in 876 (by decide +kernel) (by decide +kernel), ab_in 877 (by decide +kernel) (by decide +kernel)⟩
theorem mlRX0_248 : Cond.methodLink RX0 248 yX2_tire ∈ ab_G ∧ Cond.instanceMethod yX2_tire ∈ ab_G ∧ Cond.selects RX2 yX2_tire yX2_tire ∈ ab_G := ⟨ab_in 1504 (by decide +kernel) (by decide +kernel), ab_in 1505 (by decide +kernel) (by decide +kernel), ab_in 1506 (by decide +kernel) (by decide +kernel)⟩
theorem gfRX0_220 : ab_L RX0 220 2 10 := ⟨by decide, by decide, ab_in 436 (by decide +kernel) (by decide +kernel)⟩
theorem mlRX0_223 : Cond.methodLink RX0 223 yX0_arrive ∈ ab_G ∧ Cond.instanceMethod yX0_arrive ∈ ab_G ∧ Cond.selects RX0 yX0_arrive yX0_arrive ∈ ab_G := ⟨ab_in 1359 (by decide +kernel) (by decide +kernel), ab_in 1360 (by decide +kernel) (by decide +kernel), ab_in 1361 (by decide +kernel) (by decide +kernel)⟩
theorem mlRX0_227 : Cond.methodLink RX0 227 yX0_goOver ∈ ab_G ∧ Cond.instanceMethod yX0_goOver ∈ ab_G ∧ Cond.selects RX0 yX0_goOver yX0_goOver ∈ ab_G := ⟨ab_in 1372 (by decide +kernel) (by decide +kernel), ab_in 1373 (by decide +kernel) (by decide +kernel), ab_in 1374 (by decide +kernel) (by decide +kernel)⟩
theorem mlRX0_230 : Cond.methodLink RX0 230 yX0_workAll ∈ ab_G ∧ Cond.instanceMethod yX0_workAll ∈ ab_G ∧ Cond.selects RX0 yX0_workAll yX0_workAll ∈ ab_G := ⟨ab_in 1378 (by decide +kernel) (by decide +kernel), ab_in 1379 (by decide +kernel) (by decide +kernel), ab_in 1380 (by decide +kernel) (by decide +kernel)⟩
theorem mlRX0_233 : Cond.methodLink RX0 233 yX0_shareWater ∈ ab_G ∧ Cond.instanceMethod yX0_shareWater ∈ ab_G ∧ Cond.selects RX0 yX0_shareWater yX0_shareWater ∈ ab_G := ⟨ab_in 1428 (by decide +kernel) (by decide +kernel), ab_in 1429 (by decide +kernel) (by decide +kernel), ab_in 1430 (by decide +kernel) (by decide +kernel)⟩
theorem mlRX0_236 : Cond.methodLink RX0 236 yX10_passMinute ∈ ab_G ∧ Cond.instanceMethod yX10_passMinute ∈ ab_G ∧ Cond.selects RX10 yX10_passMinute yX10_passMinute ∈ ab_G := ⟨ab_in 1437 (by decide +kernel) (by decide +kernel), ab_in 1438 (by decide +kernel) (by decide +kernel), ab_in 1439 (by decide +kernel) (by decide +kernel)⟩
theorem mlRX0_239 : Cond.methodLink RX0 239 yX0_hurtFallen ∈ ab_G ∧ Cond.instanceMethod yX0_hurtFallen ∈ ab_G ∧ Cond.selects RX0 yX0_hurtFallen yX0_hurtFallen ∈ ab_G := ⟨ab_in 1487 (by decide +kernel) (by decide +kernel), ab_in 1488 (by decide +kernel) (by decide +kernel), ab_in 1489 (by decide +kernel) (by decide +kernel)⟩
theorem mlRX0_242 : Cond.methodLink RX0 242 yX0_closeOut ∈ ab_G ∧ Cond.instanceMethod yX0_closeOut ∈ ab_G ∧ Cond.selects RX0 yX0_closeOut yX0_closeOut ∈ ab_G := ⟨ab_in 1492 (by decide +kernel) (by decide +kernel), ab_in 1493 (by decide +kernel) (by decide +kernel), ab_in 1494 (by decide +kernel) (by decide +kernel)⟩
theorem mlRX0_245 : Cond.methodLink RX0 245 yX0_sendHome ∈ ab_G ∧ Cond.instanceMethod yX0_sendHome ∈ ab_G ∧ Cond.selects RX0 yX0_sendHome yX0_sendHome ∈ ab_G := ⟨ab_in 1500 (by decide +kernel) (by decide +kernel), ab_in 1501 (by decide +kernel) (by decide +kernel), ab_in 1502 (by decide +kernel) (by decide +kernel)⟩
abbrev MX0_passMinute : ab_M := (yX0_passMinute, cX0_passMinute, 2, none)
theorem dX0_passMinute_0 : decode cX0_passMinute 0 = .ok (.aload_n 0, 1) := by decide +kernel
theorem dX0_passMinute_1 : decode cX0_passMinute 1 = .ok (.dup, 1) := by decide +kernel
theorem dX0_passMinute_2 : decode cX0_passMinute 2 = .ok (.getfield 144, 3) := by decide +kernel
theorem dX0_passMinute_5 : decode cX0_passMinute 5 = .ok (.iconst 1, 1) := by decide +kernel
theorem dX0_passMinute_6 : decode cX0_passMinute 6 = .ok (.iadd, 1) := by decide +kernel
theorem dX0_passMinute_7 : decode cX0_passMinute 7 = .ok (.putfield 144, 3) := by decide +kernel
theorem dX0_passMinute_10 : decode cX0_passMinute 10 = .ok (.iconst 0, 1) := by decide +kernel
theorem dX0_passMinute_11 : decode cX0_passMinute 11 = .ok (.istore_n 1, 1) := by decide +kernel
theorem dX0_passMinute_12 : decode cX0_passMinute 12 = .ok (.iload_n 1, 1) := by decide +kernel
theorem dX0_passMinute_13 : decode cX0_passMinute 13 = .ok (.aload_n 0, 1) := by decide +kernel
theorem dX0_passMinute_14 : decode cX0_passMinute 14 = .ok (.getfield 55, 3) := by decide +kernel
theorem dX0_passMinute_17 : decode cX0_passMinute 17 = .ok (.if_icmp .ge 61, 3) := by decide +kernel
theorem dX0_passMinute_20 : decode cX0_passMinute 20 = .ok (.aload_n 0, 1) := by decide +kernel
theorem dX0_passMinute_21 : decode cX0_passMinute 21 = .ok (.getfield 11, 3) := by decide +kernel
theorem dX0_passMinute_24 : decode cX0_passMinute 24 = .ok (.iload_n 1, 1) := by decide +kernel
theorem dX0_passMinute_25 : decode cX0_passMinute 25 = .ok (.aaload, 1) := by decide +kernel
theorem dX0_passMinute_26 : decode cX0_passMinute 26 = .ok (.getfield 75, 3) := by decide +kernel
theorem dX0_passMinute_29 : decode cX0_passMinute 29 = .ok (.iconst 1, 1) := by decide +kernel
theorem dX0_passMinute_30 : decode cX0_passMinute 30 = .ok (.if_icmp .eq 16, 3) := by decide +kernel
theorem dX0_passMinute_33 : decode cX0_passMinute 33 = .ok (.aload_n 0, 1) := by decide +kernel
theorem dX0_passMinute_34 : decode cX0_passMinute 34 = .ok (.getfield 11, 3) := by decide +kernel
theorem dX0_passMinute_37 : decode cX0_passMinute 37 = .ok (.iload_n 1, 1) := by decide +kernel
theorem dX0_passMinute_38 : decode cX0_passMinute 38 = .ok (.aaload, 1) := by decide +kernel
theorem dX0_passMinute_39 : decode cX0_passMinute 39 = .ok (.getfield 75, 3) := by decide +kernel
theorem dX0_passMinute_42 : decode cX0_passMinute 42 = .ok (.iconst 3, 1) := by decide +kernel
theorem dX0_passMinute_43 : decode cX0_passMinute 43 = .ok (.if_icmp .ne 29, 3) := by decide +kernel
theorem dX0_passMinute_46 : decode cX0_passMinute 46 = .ok (.aload_n 0, 1) := by decide +kernel
theorem dX0_passMinute_47 : decode cX0_passMinute 47 = .ok (.getfield 11, 3) := by decide +kernel
theorem dX0_passMinute_50 : decode cX0_passMinute 50 = .ok (.iload_n 1, 1) := by decide +kernel
theorem dX0_passMinute_51 : decode cX0_passMinute 51 = .ok (.aaload, 1) := by decide +kernel
theorem dX0_passMinute_52 : decode cX0_passMinute 52 = .ok (.getfield 220, 3) := by decide +kernel
theorem dX0_passMinute_55 : decode cX0_passMinute 55 = .ok (.aload_n 0, 1) := by decide +kernel
theorem dX0_passMinute_56 : decode cX0_passMinute 56 = .ok (.getfield 144, 3) := by decide +kernel
theorem dX0_passMinute_59 : decode cX0_passMinute 59 = .ok (.if_icmp .gt 13, 3) := by decide +kernel
theorem dX0_passMinute_62 : decode cX0_passMinute 62 = .ok (.aload_n 0, 1) := by decide +kernel
theorem dX0_passMinute_63 : decode cX0_passMinute 63 = .ok (.aload_n 0, 1) := by decide +kernel
theorem dX0_passMinute_64 : decode cX0_passMinute 64 = .ok (.getfield 11, 3) := by decide +kernel
theorem dX0_passMinute_67 : decode cX0_passMinute 67 = .ok (.iload_n 1, 1) := by decide +kernel
theorem dX0_passMinute_68 : decode cX0_passMinute 68 = .ok (.aaload, 1) := by decide +kernel
theorem dX0_passMinute_69 : decode cX0_passMinute 69 = .ok (.invokevirtual 223, 3) := by decide +kernel
theorem dX0_passMinute_72 : decode cX0_passMinute 72 = .ok (.iinc 1 1, 3) := by decide +kernel
theorem dX0_passMinute_75 : decode cX0_passMinute 75 = .ok (.goto (-63), 3) := by decide +kernel
theorem dX0_passMinute_78 : decode cX0_passMinute 78 = .ok (.aload_n 0, 1) := by decide +kernel
theorem dX0_passMinute_79 : decode cX0_passMinute 79 = .ok (.invokevirtual 227, 3) := by decide +kernel
theorem dX0_passMinute_82 : decode cX0_passMinute 82 = .ok (.aload_n 0, 1) := by decide +kernel
theorem dX0_passMinute_83 : decode cX0_passMinute 83 = .ok (.invokevirtual 230, 3) := by decide +kernel
theorem dX0_passMinute_86 : decode cX0_passMinute 86 = .ok (.aload_n 0, 1) := by decide +kernel
theorem dX0_passMinute_87 : decode cX0_passMinute 87 = .ok (.invokevirtual 233, 3) := by decide +kernel
theorem dX0_passMinute_90 : decode cX0_passMinute 90 = .ok (.aload_n 0, 1) := by decide +kernel
theorem dX0_passMinute_91 : decode cX0_passMinute 91 = .ok (.getfield 49, 3) := by decide +kernel
theorem dX0_passMinute_94 : decode cX0_passMinute 94 = .ok (.invokevirtual 236, 3) := by decide +kernel
theorem dX0_passMinute_97 : decode cX0_passMinute 97 = .ok (.aload_n 0, 1) := by decide +kernel
theorem dX0_passMinute_98 : decode cX0_passMinute 98 = .ok (.invokevirtual 239, 3) := by decide +kernel
theorem dX0_passMinute_101 : decode cX0_passMinute 101 = .ok (.aload_n 0, 1) := by decide +kernel
theorem dX0_passMinute_102 : decode cX0_passMinute 102 = .ok (.invokevirtual 242, 3) := by decide +kernel
theorem dX0_passMinute_105 : decode cX0_passMinute 105 = .ok (.aload_n 0, 1) := by decide +kernel
theorem dX0_passMinute_106 : decode cX0_passMinute 106 = .ok (.invokevirtual 245, 3) := by decide +kernel
theorem dX0_passMinute_109 : decode cX0_passMinute 109 = .ok (.iconst 0, 1) := by decide +kernel
theorem dX0_passMinute_110 : decode cX0_passMinute 110 = .ok (.istore_n 1, 1) := by decide +kernel
theorem dX0_passMinute_111 : decode cX0_passMinute 111 = .ok (.iload_n 1, 1) := by decide +kernel
theorem dX0_passMinute_112 : decode cX0_passMinute 112 = .ok (.aload_n 0, 1) := by decide +kernel
theorem dX0_passMinute_113 : decode cX0_passMinute 113 = .ok (.getfield 55, 3) := by decide +kernel
theorem dX0_passMinute_116 : decode cX0_passMinute 116 = .ok (.if_icmp .ge 18, 3) := by decide +kernel
theorem dX0_passMinute_119 : decode cX0_passMinute 119 = .ok (.aload_n 0, 1) := by decide +kernel
theorem dX0_passMinute_120 : decode cX0_passMinute 120 = .ok (.getfield 11, 3) := by decide +kernel
theorem dX0_passMinute_123 : decode cX0_passMinute 123 = .ok (.iload_n 1, 1) := by decide +kernel
theorem dX0_passMinute_124 : decode cX0_passMinute 124 = .ok (.aaload, 1) := by decide +kernel
theorem dX0_passMinute_125 : decode cX0_passMinute 125 = .ok (.invokevirtual 248, 3) := by decide +kernel
theorem dX0_passMinute_128 : decode cX0_passMinute 128 = .ok (.iinc 1 1, 3) := by decide +kernel
theorem dX0_passMinute_131 : decode cX0_passMinute 131 = .ok (.goto (-20), 3) := by decide +kernel
theorem dX0_passMinute_134 : decode cX0_passMinute 134 = .ok (.aload_n 0, 1) := by decide +kernel
theorem dX0_passMinute_135 : decode cX0_passMinute 135 = .ok (.invokevirtual 251, 3) := by decide +kernel
theorem dX0_passMinute_138 : decode cX0_passMinute 138 = .ok (.return_, 1) := by decide +kernel
theorem okX0_passMinute : ab_okM MX0_passMinute 0 := ⟨by decide, ⟨by decide, by decide⟩, ab_in 1358 (by decide +kernel) (by decide +kernel), ab_in 92 (by decide +kernel) (by decide +kernel), by decide +kernel, by decide⟩
set_option maxHeartbeats 4000000 in
set_option maxRecDepth 100000 in
def lX0_passMinute_111  (K : ab_X → Prop)  (L111 : Int32 → ab_X → Prop) (v1 : Int32) (x : ab_X) : Prop := (((x.1 66 3) ≤ v1 → wX0_witness x (fun x10 => K x10)) ∧ (¬ (x.1 66 3) ≤ v1 → (vp_in v1 16 ∧ wX2_tire (82 + Int32.toNatClampNeg v1) x (fun x12 => L111 (v1 + 1) x12))))
set_option maxHeartbeats 4000000 in
set_option maxRecDepth 100000 in
theorem sX0_passMinute_111 (v1 : Int32)  (x : ab_X) (K : ab_X → Prop)  (d bc bs : Nat) (hdp : 6 ≤ d)  (h : Lp2 (lX0_passMinute_111  K ) v1 x) : EW MX0_passMinute 111 [(0, .ref 66), (1, .int v1)] [] (aS x) d bc bs (liV K) := by
  refine Lp2.use (P := fun v1 x => EW MX0_passMinute 111 [(0, .ref 66), (1, .int v1)] [] (aS x) d bc bs (liV K)) (fun L111 v1 x hL111 h => ?_) v1 x h
  unfold lX0_passMinute_111 at h
  refine EW_iload_n (pc2 := 112) rfl dX0_passMinute_111 1 rfl ?_
  refine EW_aload_n (pc2 := 113) rfl dX0_passMinute_112 0 rfl ?_
  refine AW_geti ⟨gfRX0_55, rfl⟩ (pc2 := 116) rfl dX0_passMinute_113 q66 ?_
  refine EW_icmp_ge (tgt := 134) (pc2 := 119) rfl dX0_passMinute_116 (by decide) (fun q => ?_) (fun q => ?_)
  · replace h := h.1 q
    refine EW_aload_n (pc2 := 135) rfl dX0_passMinute_134 0 rfl ?_
    refine AW_invV (M' := MX0_witness) [] (rest := []) mlRX0_251 okX0_witness (pc2 := 138) rfl dX0_passMinute_135 rfl rfl (Nat.le_of_ble_eq_true rfl) (Nat.le_of_ble_eq_true rfl) (d' := 3) (by omega) q66 ⟨by decide, rfl⟩ (EW_mono (fun _ _ hr => ?_) (sX0_witness   x _ _ 0 0 (Nat.le_refl _) h))
    obtain ⟨x10, rfl, rfl, h⟩ := hr
    exact EW_vret rfl dX0_passMinute_138 ⟨_, rfl, rfl, h⟩
  · replace h := h.2 q
    refine EW_aload_n (pc2 := 120) rfl dX0_passMinute_119 0 rfl ?_
    refine AW_getr (r := 67) ⟨gfRX0_11, rfl⟩ (pc2 := 123) rfl dX0_passMinute_120 q66 rfl ?_
    refine EW_iload_n (pc2 := 124) rfl dX0_passMinute_123 1 rfl ?_
    obtain ⟨b11, h⟩ := h
    refine AW_aald6 (pc2 := 125) rfl dX0_passMinute_124 b11 ?_
    refine AW_invV (M' := MX2_tire) [] (rest := []) mlRX0_248 okX2_tire (pc2 := 128) rfl dX0_passMinute_125 rfl rfl (Nat.le_of_ble_eq_true rfl) (Nat.le_of_ble_eq_true rfl) (d' := 1) (by omega) (isW.o (isW_of b11)) ⟨by decide, rfl⟩ (EW_mono (fun _ _ hr => ?_) (sX2_tire (82 + Int32.toNatClampNeg v1) (isW_of b11) x _ _ 0 0 (Nat.le_refl _) h))
    obtain ⟨x12, rfl, rfl, h⟩ := hr
    refine EW_iinc (v1 + 1) (pc2 := 131) rfl dX0_passMinute_128 1 rfl rfl (by decide) [1, 0] [(0, .ref 66), (1, .int (v1 + 1))] rfl ?_
    refine EW_goto (tgt := 111) dX0_passMinute_131 (by decide) ?_
    exact hL111 (v1 + 1) x12 h
set_option maxHeartbeats 4000000 in
set_option maxRecDepth 100000 in
def wX0_passMinute_46 (v1 : Int32) (x : ab_X) (K : ab_X → Prop) (L12 : Int32 → ab_X → Prop) : Prop := (vp_in v1 16 ∧ (((x.1 66 12) < (x.1 (82 + Int32.toNatClampNeg v1) 10) → L12 (v1 + 1) x) ∧ (¬ (x.1 66 12) < (x.1 (82 + Int32.toNatClampNeg v1) 10) → (vp_in v1 16 ∧ wX0_arrive (82 + Int32.toNatClampNeg v1) x (fun x15 => L12 (v1 + 1) x15)))))
set_option maxHeartbeats 4000000 in
set_option maxRecDepth 100000 in
theorem sX0_passMinute_46 (v1 : Int32)  (x : ab_X) (K : ab_X → Prop) (L12 : Int32 → ab_X → Prop) (d bc bs : Nat) (hdp : 6 ≤ d) (hL12 : ∀ (v1 : Int32) (x : ab_X), L12 v1 x → EW MX0_passMinute 12 [(0, .ref 66), (1, .int v1)] [] (aS x) d bc bs (liV K)) (h : wX0_passMinute_46 v1 x K L12) : EW MX0_passMinute 46 [(0, .ref 66), (1, .int v1)] [] (aS x) d bc bs (liV K) := by
  unfold wX0_passMinute_46 at h
  refine EW_aload_n (pc2 := 47) rfl dX0_passMinute_46 0 rfl ?_
  refine AW_getr (r := 67) ⟨gfRX0_11, rfl⟩ (pc2 := 50) rfl dX0_passMinute_47 q66 rfl ?_
  refine EW_iload_n (pc2 := 51) rfl dX0_passMinute_50 1 rfl ?_
  obtain ⟨b13, h⟩ := h
  refine AW_aald6 (pc2 := 52) rfl dX0_passMinute_51 b13 ?_
  refine AW_geti ⟨gfRX0_220, rfl⟩ (pc2 := 55) rfl dX0_passMinute_52 (isW.o (isW_of b13)) ?_
  refine EW_aload_n (pc2 := 56) rfl dX0_passMinute_55 0 rfl ?_
  refine AW_geti ⟨gfRX0_144, rfl⟩ (pc2 := 59) rfl dX0_passMinute_56 q66 ?_
  refine EW_icmp_gt (tgt := 72) (pc2 := 62) rfl dX0_passMinute_59 (by decide) (fun q => ?_) (fun q => ?_)
  · replace h := h.1 q
    refine EW_iinc (v1 + 1) (pc2 := 75) rfl dX0_passMinute_72 1 rfl rfl (by decide) [1, 0] [(0, .ref 66), (1, .int (v1 + 1))] rfl ?_
    refine EW_goto (tgt := 12) dX0_passMinute_75 (by decide) ?_
    exact hL12 (v1 + 1) x h
  · replace h := h.2 q
    refine EW_aload_n (pc2 := 63) rfl dX0_passMinute_62 0 rfl ?_
    refine EW_aload_n (pc2 := 64) rfl dX0_passMinute_63 0 rfl ?_
    refine AW_getr (r := 67) ⟨gfRX0_11, rfl⟩ (pc2 := 67) rfl dX0_passMinute_64 q66 rfl ?_
    refine EW_iload_n (pc2 := 68) rfl dX0_passMinute_67 1 rfl ?_
    obtain ⟨b14, h⟩ := h
    refine AW_aald6 (pc2 := 69) rfl dX0_passMinute_68 b14 ?_
    refine AW_invV (M' := MX0_arrive) [.ref (82 + Int32.toNatClampNeg v1)] (rest := []) mlRX0_223 okX0_arrive (pc2 := 72) rfl dX0_passMinute_69 rfl rfl (Nat.le_of_ble_eq_true rfl) (Nat.le_of_ble_eq_true rfl) (d' := 4) (by omega) q66 ⟨by decide, rfl⟩ (EW_mono (fun _ _ hr => ?_) (sX0_arrive (82 + Int32.toNatClampNeg v1) (isW_of b14) x _ _ 0 0 (Nat.le_refl _) h))
    obtain ⟨x15, rfl, rfl, h⟩ := hr
    refine EW_iinc (v1 + 1) (pc2 := 75) rfl dX0_passMinute_72 1 rfl rfl (by decide) [1, 0] [(0, .ref 66), (1, .int (v1 + 1))] rfl ?_
    refine EW_goto (tgt := 12) dX0_passMinute_75 (by decide) ?_
    exact hL12 (v1 + 1) x15 h
set_option maxHeartbeats 4000000 in
set_option maxRecDepth 100000 in
def lX0_passMinute_12  (K : ab_X → Prop)  (L12 : Int32 → ab_X → Prop) (v1 : Int32) (x : ab_X) : Prop := (((x.1 66 3) ≤ v1 → wX0_goOver x (fun x1 => wX0_workAll x1 (fun x2 => wX0_shareWater x2 (fun x3 => wX10_passMinute x3 (fun x4 => wX0_hurtFallen x4 (fun x5 => wX0_closeOut x5 (fun x6 => wX0_sendHome x6 (fun x7 => Lp2 (lX0_passMinute_111 K ) 0 x7)))))))) ∧ (¬ (x.1 66 3) ≤ v1 → (vp_in v1 16 ∧ (((x.1 (82 + Int32.toNatClampNeg v1) 8) = 1 → wX0_passMinute_46 v1 x K L12) ∧ (¬ (x.1 (82 + Int32.toNatClampNeg v1) 8) = 1 → (vp_in v1 16 ∧ ((¬ (x.1 (82 + Int32.toNatClampNeg v1) 8) = 3 → L12 (v1 + 1) x) ∧ ((x.1 (82 + Int32.toNatClampNeg v1) 8) = 3 → wX0_passMinute_46 v1 x K L12))))))))
set_option maxHeartbeats 4000000 in
set_option maxRecDepth 100000 in
theorem sX0_passMinute_12 (v1 : Int32)  (x : ab_X) (K : ab_X → Prop)  (d bc bs : Nat) (hdp : 6 ≤ d)  (h : Lp2 (lX0_passMinute_12  K ) v1 x) : EW MX0_passMinute 12 [(0, .ref 66), (1, .int v1)] [] (aS x) d bc bs (liV K) := by
  refine Lp2.use (P := fun v1 x => EW MX0_passMinute 12 [(0, .ref 66), (1, .int v1)] [] (aS x) d bc bs (liV K)) (fun L12 v1 x hL12 h => ?_) v1 x h
  unfold lX0_passMinute_12 at h
  refine EW_iload_n (pc2 := 13) rfl dX0_passMinute_12 1 rfl ?_
  refine EW_aload_n (pc2 := 14) rfl dX0_passMinute_13 0 rfl ?_
  refine AW_geti ⟨gfRX0_55, rfl⟩ (pc2 := 17) rfl dX0_passMinute_14 q66 ?_
  refine EW_icmp_ge (tgt := 78) (pc2 := 20) rfl dX0_passMinute_17 (by decide) (fun q => ?_) (fun q => ?_)
  · replace h := h.1 q
    refine EW_aload_n (pc2 := 79) rfl dX0_passMinute_78 0 rfl ?_
    refine AW_invV (M' := MX0_goOver) [] (rest := []) mlRX0_227 okX0_goOver (pc2 := 82) rfl dX0_passMinute_79 rfl rfl (Nat.le_of_ble_eq_true rfl) (Nat.le_of_ble_eq_true rfl) (d' := 3) (by omega) q66 ⟨by decide, rfl⟩ (EW_mono (fun _ _ hr => ?_) (sX0_goOver   x _ _ 0 0 (Nat.le_refl _) h))
    obtain ⟨x1, rfl, rfl, h⟩ := hr
    refine EW_aload_n (pc2 := 83) rfl dX0_passMinute_82 0 rfl ?_
    refine AW_invV (M' := MX0_workAll) [] (rest := []) mlRX0_230 okX0_workAll (pc2 := 86) rfl dX0_passMinute_83 rfl rfl (Nat.le_of_ble_eq_true rfl) (Nat.le_of_ble_eq_true rfl) (d' := 5) (by omega) q66 ⟨by decide, rfl⟩ (EW_mono (fun _ _ hr => ?_) (sX0_workAll   x1 _ _ 0 0 (Nat.le_refl _) h))
    obtain ⟨x2, rfl, rfl, h⟩ := hr
    refine EW_aload_n (pc2 := 87) rfl dX0_passMinute_86 0 rfl ?_
    refine AW_invV (M' := MX0_shareWater) [] (rest := []) mlRX0_233 okX0_shareWater (pc2 := 90) rfl dX0_passMinute_87 rfl rfl (Nat.le_of_ble_eq_true rfl) (Nat.le_of_ble_eq_true rfl) (d' := 2) (by omega) q66 ⟨by decide, rfl⟩ (EW_mono (fun _ _ hr => ?_) (sX0_shareWater   x2 _ _ 0 0 (Nat.le_refl _) h))
    obtain ⟨x3, rfl, rfl, h⟩ := hr
    refine EW_aload_n (pc2 := 91) rfl dX0_passMinute_90 0 rfl ?_
    refine AW_getr (r := 9) ⟨gfRX0_49, rfl⟩ (pc2 := 94) rfl dX0_passMinute_91 q66 rfl ?_
    refine AW_invV (M' := MX10_passMinute) [] (rest := []) mlRX0_236 okX10_passMinute (pc2 := 97) rfl dX0_passMinute_94 rfl rfl (Nat.le_of_ble_eq_true rfl) (Nat.le_of_ble_eq_true rfl) (d' := 4) (by omega) q9 ⟨by decide, rfl⟩ (EW_mono (fun _ _ hr => ?_) (sX10_passMinute   x3 _ _ 0 0 (Nat.le_refl _) h))
    obtain ⟨x4, rfl, rfl, h⟩ := hr
    refine EW_aload_n (pc2 := 98) rfl dX0_passMinute_97 0 rfl ?_
    refine AW_invV (M' := MX0_hurtFallen) [] (rest := []) mlRX0_239 okX0_hurtFallen (pc2 := 101) rfl dX0_passMinute_98 rfl rfl (Nat.le_of_ble_eq_true rfl) (Nat.le_of_ble_eq_true rfl) (d' := 3) (by omega) q66 ⟨by decide, rfl⟩ (EW_mono (fun _ _ hr => ?_) (sX0_hurtFallen   x4 _ _ 0 0 (Nat.le_refl _) h))
    obtain ⟨x5, rfl, rfl, h⟩ := hr
    refine EW_aload_n (pc2 := 102) rfl dX0_passMinute_101 0 rfl ?_
    refine AW_invV (M' := MX0_closeOut) [] (rest := []) mlRX0_242 okX0_closeOut (pc2 := 105) rfl dX0_passMinute_102 rfl rfl (Nat.le_of_ble_eq_true rfl) (Nat.le_of_ble_eq_true rfl) (d' := 3) (by omega) q66 ⟨by decide, rfl⟩ (EW_mono (fun _ _ hr => ?_) (sX0_closeOut   x5 _ _ 0 0 (Nat.le_refl _) h))
    obtain ⟨x6, rfl, rfl, h⟩ := hr
    refine EW_aload_n (pc2 := 106) rfl dX0_passMinute_105 0 rfl ?_
    refine AW_invV (M' := MX0_sendHome) [] (rest := []) mlRX0_245 okX0_sendHome (pc2 := 109) rfl dX0_passMinute_106 rfl rfl (Nat.le_of_ble_eq_true rfl) (Nat.le_of_ble_eq_true rfl) (d' := 4) (by omega) q66 ⟨by decide, rfl⟩ (EW_mono (fun _ _ hr => ?_) (sX0_sendHome   x6 _ _ 0 0 (Nat.le_refl _) h))
    obtain ⟨x7, rfl, rfl, h⟩ := hr
    refine EW_iconst (pc2 := 110) (v := 0) rfl dX0_passMinute_109 (by decide) ?_
    refine EW_istore_n (pc2 := 111) rfl dX0_passMinute_110 (by decide) [1, 0] [(0, .ref 66), (1, .int 0)] rfl ?_
    exact sX0_passMinute_111 0 x7 K d bc bs hdp h
  · replace h := h.2 q
    refine EW_aload_n (pc2 := 21) rfl dX0_passMinute_20 0 rfl ?_
    refine AW_getr (r := 67) ⟨gfRX0_11, rfl⟩ (pc2 := 24) rfl dX0_passMinute_21 q66 rfl ?_
    refine EW_iload_n (pc2 := 25) rfl dX0_passMinute_24 1 rfl ?_
    obtain ⟨b8, h⟩ := h
    refine AW_aald6 (pc2 := 26) rfl dX0_passMinute_25 b8 ?_
    refine AW_geti ⟨gfRX0_75, rfl⟩ (pc2 := 29) rfl dX0_passMinute_26 (isW.o (isW_of b8)) ?_
    refine EW_iconst (pc2 := 30) (v := 1) rfl dX0_passMinute_29 (by decide) ?_
    refine EW_icmp_eq (tgt := 46) (pc2 := 33) rfl dX0_passMinute_30 (by decide) (fun q => ?_) (fun q => ?_)
    · replace h := h.1 q
      exact sX0_passMinute_46 v1 x K L12 d bc bs hdp hL12 h
    · replace h := h.2 q
      refine EW_aload_n (pc2 := 34) rfl dX0_passMinute_33 0 rfl ?_
      refine AW_getr (r := 67) ⟨gfRX0_11, rfl⟩ (pc2 := 37) rfl dX0_passMinute_34 q66 rfl ?_
      refine EW_iload_n (pc2 := 38) rfl dX0_passMinute_37 1 rfl ?_
      obtain ⟨b9, h⟩ := h
      refine AW_aald6 (pc2 := 39) rfl dX0_passMinute_38 b9 ?_
      refine AW_geti ⟨gfRX0_75, rfl⟩ (pc2 := 42) rfl dX0_passMinute_39 (isW.o (isW_of b9)) ?_
      refine EW_iconst (pc2 := 43) (v := 3) rfl dX0_passMinute_42 (by decide) ?_
      refine EW_icmp_ne (tgt := 72) (pc2 := 46) rfl dX0_passMinute_43 (by decide) (fun q => ?_) (fun q => ?_)
      · replace h := h.1 q
        refine EW_iinc (v1 + 1) (pc2 := 75) rfl dX0_passMinute_72 1 rfl rfl (by decide) [1, 0] [(0, .ref 66), (1, .int (v1 + 1))] rfl ?_
        refine EW_goto (tgt := 12) dX0_passMinute_75 (by decide) ?_
        exact hL12 (v1 + 1) x h
      · replace h := h.2 q
        exact sX0_passMinute_46 v1 x K L12 d bc bs hdp hL12 h
set_option maxHeartbeats 4000000 in
set_option maxRecDepth 100000 in
def wX0_passMinute  (x : ab_X) (K : ab_X → Prop) : Prop := Lp2 (lX0_passMinute_12 K ) 0 (wr x 66 12 ((x.1 66 12) + 1))
set_option maxHeartbeats 4000000 in
set_option maxRecDepth 100000 in
theorem sX0_passMinute   (x : ab_X) (K : ab_X → Prop) (d bc bs : Nat) (hdp : 6 ≤ d) (h : wX0_passMinute  x K) : EW MX0_passMinute 0 [(0, .ref 66)] [] (aS x) d bc bs (liV K) := by
  unfold wX0_passMinute at h
  refine EW_aload_n (pc2 := 1) rfl dX0_passMinute_0 0 rfl ?_
  refine EW_dup (pc2 := 2) rfl dX0_passMinute_1 rfl ?_
  refine AW_geti ⟨gfRX0_144, rfl⟩ (pc2 := 5) rfl dX0_passMinute_2 q66 ?_
  refine EW_iconst (pc2 := 6) (v := 1) rfl dX0_passMinute_5 (by decide) ?_
  refine EW_iadd (pc2 := 7) rfl dX0_passMinute_6 ?_
  refine AW_puti ⟨gfRX0_144, rfl, rfl⟩ (pc2 := 10) rfl dX0_passMinute_7 q66 ?_
  refine EW_iconst (pc2 := 11) (v := 0) rfl dX0_passMinute_10 (by decide) ?_
  refine EW_istore_n (pc2 := 12) rfl dX0_passMinute_11 (by decide) [1, 0] [(0, .ref 66), (1, .int 0)] rfl ?_
  exact sX0_passMinute_12 0 (wr x 66 12 ((x.1 66 12) + 1)) K d bc bs hdp h
abbrev MX0_workersIn : ab_M := (yX0_workersIn, cX0_workersIn, 4, (some .int))
theorem dX0_workersIn_0 : decode cX0_workersIn 0 = .ok (.iconst 0, 1) := by decide +kernel
theorem dX0_workersIn_1 : decode cX0_workersIn 1 = .ok (.istore_n 2, 1) := by decide +kernel
theorem dX0_workersIn_2 : decode cX0_workersIn 2 = .ok (.iconst 0, 1) := by decide +kernel
theorem dX0_workersIn_3 : decode cX0_workersIn 3 = .ok (.istore_n 3, 1) := by decide +kernel
theorem dX0_workersIn_4 : decode cX0_workersIn 4 = .ok (.iload_n 3, 1) := by decide +kernel
theorem dX0_workersIn_5 : decode cX0_workersIn 5 = .ok (.aload_n 0, 1) := by decide +kernel
theorem dX0_workersIn_6 : decode cX0_workersIn 6 = .ok (.getfield 55, 3) := by decide +kernel
theorem dX0_workersIn_9 : decode cX0_workersIn 9 = .ok (.if_icmp .ge 43, 3) := by decide +kernel
theorem dX0_workersIn_12 : decode cX0_workersIn 12 = .ok (.iload_n 2, 1) := by decide +kernel
theorem dX0_workersIn_13 : decode cX0_workersIn 13 = .ok (.aload_n 0, 1) := by decide +kernel
theorem dX0_workersIn_14 : decode cX0_workersIn 14 = .ok (.getfield 11, 3) := by decide +kernel
theorem dX0_workersIn_17 : decode cX0_workersIn 17 = .ok (.iload_n 3, 1) := by decide +kernel
theorem dX0_workersIn_18 : decode cX0_workersIn 18 = .ok (.aaload, 1) := by decide +kernel
theorem dX0_workersIn_19 : decode cX0_workersIn 19 = .ok (.getfield 75, 3) := by decide +kernel
theorem dX0_workersIn_22 : decode cX0_workersIn 22 = .ok (.iconst 2, 1) := by decide +kernel
theorem dX0_workersIn_23 : decode cX0_workersIn 23 = .ok (.if_icmp .ne 20, 3) := by decide +kernel
theorem dX0_workersIn_26 : decode cX0_workersIn 26 = .ok (.aload_n 0, 1) := by decide +kernel
theorem dX0_workersIn_27 : decode cX0_workersIn 27 = .ok (.getfield 11, 3) := by decide +kernel
theorem dX0_workersIn_30 : decode cX0_workersIn 30 = .ok (.iload_n 3, 1) := by decide +kernel
theorem dX0_workersIn_31 : decode cX0_workersIn 31 = .ok (.aaload, 1) := by decide +kernel
theorem dX0_workersIn_32 : decode cX0_workersIn 32 = .ok (.getfield 78, 3) := by decide +kernel
theorem dX0_workersIn_35 : decode cX0_workersIn 35 = .ok (.iload_n 1, 1) := by decide +kernel
theorem dX0_workersIn_36 : decode cX0_workersIn 36 = .ok (.if_icmp .ne 7, 3) := by decide +kernel
theorem dX0_workersIn_39 : decode cX0_workersIn 39 = .ok (.iconst 1, 1) := by decide +kernel
theorem dX0_workersIn_40 : decode cX0_workersIn 40 = .ok (.goto 4, 3) := by decide +kernel
theorem dX0_workersIn_43 : decode cX0_workersIn 43 = .ok (.iconst 0, 1) := by decide +kernel
theorem dX0_workersIn_44 : decode cX0_workersIn 44 = .ok (.iadd, 1) := by decide +kernel
theorem dX0_workersIn_45 : decode cX0_workersIn 45 = .ok (.istore_n 2, 1) := by decide +kernel
theorem dX0_workersIn_46 : decode cX0_workersIn 46 = .ok (.iinc 3 1, 3) := by decide +kernel
theorem dX0_workersIn_49 : decode cX0_workersIn 49 = .ok (.goto (-45), 3) := by decide +kernel
theorem dX0_workersIn_52 : decode cX0_workersIn 52 = .ok (.iload_n 2, 1) := by decide +kernel
theorem dX0_workersIn_53 : decode cX0_workersIn 53 = .ok (.ireturn, 1) := by decide +kernel
theorem okX0_workersIn : ab_okM MX0_workersIn 1 := ⟨by decide, ⟨by decide, by decide⟩, ab_in 942 (by decide +kernel) (by decide +kernel), ab_in 92 (by decide +kernel) (by decide +kernel), by decide +kernel, by decide⟩
set_option maxHeartbeats 4000000 in
set_option maxRecDepth 100000 in
def wX0_workersIn_44 (v1 : Int32) (v3 : Int32) (s0 : Int32) (s1 : Int32) (x : ab_X) (K : Int32 → Prop) (L4 : Int32 → Int32 → Prop) : Prop := L4 (s0 + s1) (v3 + 1)
set_option maxHeartbeats 4000000 in
set_option maxRecDepth 100000 in
theorem sX0_workersIn_44 (v1 : Int32) (v3 : Int32) (s0 : Int32) (s1 : Int32)  (x : ab_X) (K : Int32 → Prop) (L4 : Int32 → Int32 → Prop) (d bc bs : Nat) (hdp : 0 ≤ d) (hL4 : ∀ (v2 : Int32) (v3 : Int32), L4 v2 v3 → EW MX0_workersIn 4 [(0, .ref 66), (1, .int v1), (2, .int v2), (3, .int v3)] [] (aS x) d bc bs (liP x K)) (h : wX0_workersIn_44 v1 v3 s0 s1 x K L4) : EW MX0_workersIn 44 [(0, .ref 66), (1, .int v1), (3, .int v3)] [.int s1, .int s0] (aS x) d bc bs (liP x K) := by
  unfold wX0_workersIn_44 at h
  refine EW_iadd (pc2 := 45) rfl dX0_workersIn_44 ?_
  refine EW_istore_n (pc2 := 46) rfl dX0_workersIn_45 (by decide) [1, 2, 0, 3] [(0, .ref 66), (1, .int v1), (2, .int (s0 + s1)), (3, .int v3)] rfl ?_
  refine EW_iinc (v3 + 1) (pc2 := 49) rfl dX0_workersIn_46 3 rfl rfl (by decide) [1, 2, 3, 0] [(0, .ref 66), (1, .int v1), (2, .int (s0 + s1)), (3, .int (v3 + 1))] rfl ?_
  refine EW_goto (tgt := 4) dX0_workersIn_49 (by decide) ?_
  exact hL4 (s0 + s1) (v3 + 1) h
set_option maxHeartbeats 4000000 in
set_option maxRecDepth 100000 in
def wX0_workersIn_43 (v1 : Int32) (v3 : Int32) (s0 : Int32) (x : ab_X) (K : Int32 → Prop) (L4 : Int32 → Int32 → Prop) : Prop := wX0_workersIn_44 v1 v3 s0 0 x K L4
set_option maxHeartbeats 4000000 in
set_option maxRecDepth 100000 in
theorem sX0_workersIn_43 (v1 : Int32) (v3 : Int32) (s0 : Int32)  (x : ab_X) (K : Int32 → Prop) (L4 : Int32 → Int32 → Prop) (d bc bs : Nat) (hdp : 0 ≤ d) (hL4 : ∀ (v2 : Int32) (v3 : Int32), L4 v2 v3 → EW MX0_workersIn 4 [(0, .ref 66), (1, .int v1), (2, .int v2), (3, .int v3)] [] (aS x) d bc bs (liP x K)) (h : wX0_workersIn_43 v1 v3 s0 x K L4) : EW MX0_workersIn 43 [(0, .ref 66), (1, .int v1), (3, .int v3)] [.int s0] (aS x) d bc bs (liP x K) := by
  unfold wX0_workersIn_43 at h
  refine EW_iconst (pc2 := 44) (v := 0) rfl dX0_workersIn_43 (by decide) ?_
  exact sX0_workersIn_44 v1 v3 s0 0 x K L4 d bc bs hdp hL4 h
set_option maxHeartbeats 4000000 in
set_option maxRecDepth 100000 in
def lX0_workersIn_4 (v1 : Int32) (x : ab_X) (K : Int32 → Prop)  (L4 : Int32 → Int32 → Prop) (v2 : Int32) (v3 : Int32) : Prop := (((x.1 66 3) ≤ v3 → K v2) ∧ (¬ (x.1 66 3) ≤ v3 → (vp_in v3 16 ∧ ((¬ (x.1 (82 + Int32.toNatClampNeg v3) 8) = 2 → wX0_workersIn_43 v1 v3 v2 x K L4) ∧ ((x.1 (82 + Int32.toNatClampNeg v3) 8) = 2 → (vp_in v3 16 ∧ ((¬ (x.1 (82 + Int32.toNatClampNeg v3) 12) = v1 → wX0_workersIn_43 v1 v3 v2 x K L4) ∧ ((x.1 (82 + Int32.toNatClampNeg v3) 12) = v1 → wX0_workersIn_44 v1 v3 v2 1 x K L4))))))))
set_option maxHeartbeats 4000000 in
set_option maxRecDepth 100000 in
theorem sX0_workersIn_4 (v1 : Int32) (v2 : Int32) (v3 : Int32)  (x : ab_X) (K : Int32 → Prop)  (d bc bs : Nat) (hdp : 0 ≤ d)  (h : Lp2 (lX0_workersIn_4 v1 x K ) v2 v3) : EW MX0_workersIn 4 [(0, .ref 66), (1, .int v1), (2, .int v2), (3, .int v3)] [] (aS x) d bc bs (liP x K) := by
  refine Lp2.use (P := fun v2 v3 => EW MX0_workersIn 4 [(0, .ref 66), (1, .int v1), (2, .int v2), (3, .int v3)] [] (aS x) d bc bs (liP x K)) (fun L4 v2 v3 hL4 h => ?_) v2 v3 h
  unfold lX0_workersIn_4 at h
  refine EW_iload_n (pc2 := 5) rfl dX0_workersIn_4 3 rfl ?_
  refine EW_aload_n (pc2 := 6) rfl dX0_workersIn_5 0 rfl ?_
  refine AW_geti ⟨gfRX0_55, rfl⟩ (pc2 := 9) rfl dX0_workersIn_6 q66 ?_
  refine EW_icmp_ge (tgt := 52) (pc2 := 12) rfl dX0_workersIn_9 (by decide) (fun q => ?_) (fun q => ?_)
  · replace h := h.1 q
    refine EW_iload_n (pc2 := 53) rfl dX0_workersIn_52 2 rfl ?_
    exact AW_iret rfl dX0_workersIn_53 ⟨_, rfl, rfl, h⟩
  · replace h := h.2 q
    refine EW_iload_n (pc2 := 13) rfl dX0_workersIn_12 2 rfl ?_
    refine EW_aload_n (pc2 := 14) rfl dX0_workersIn_13 0 rfl ?_
    refine AW_getr (r := 67) ⟨gfRX0_11, rfl⟩ (pc2 := 17) rfl dX0_workersIn_14 q66 rfl ?_
    refine EW_iload_n (pc2 := 18) rfl dX0_workersIn_17 3 rfl ?_
    obtain ⟨b1, h⟩ := h
    refine AW_aald6 (pc2 := 19) rfl dX0_workersIn_18 b1 ?_
    refine AW_geti ⟨gfRX0_75, rfl⟩ (pc2 := 22) rfl dX0_workersIn_19 (isW.o (isW_of b1)) ?_
    refine EW_iconst (pc2 := 23) (v := 2) rfl dX0_workersIn_22 (by decide) ?_
    refine EW_icmp_ne (tgt := 43) (pc2 := 26) rfl dX0_workersIn_23 (by decide) (fun q => ?_) (fun q => ?_)
    · replace h := h.1 q
      refine EW_ls [0, 1, 3] rfl ?_
      exact sX0_workersIn_43 v1 v3 v2 x K L4 d bc bs hdp hL4 h
    · replace h := h.2 q
      refine EW_aload_n (pc2 := 27) rfl dX0_workersIn_26 0 rfl ?_
      refine AW_getr (r := 67) ⟨gfRX0_11, rfl⟩ (pc2 := 30) rfl dX0_workersIn_27 q66 rfl ?_
      refine EW_iload_n (pc2 := 31) rfl dX0_workersIn_30 3 rfl ?_
      obtain ⟨b2, h⟩ := h
      refine AW_aald6 (pc2 := 32) rfl dX0_workersIn_31 b2 ?_
      refine AW_geti ⟨gfRX0_78, rfl⟩ (pc2 := 35) rfl dX0_workersIn_32 (isW.o (isW_of b2)) ?_
      refine EW_iload_n (pc2 := 36) rfl dX0_workersIn_35 1 rfl ?_
      refine EW_icmp_ne (tgt := 43) (pc2 := 39) rfl dX0_workersIn_36 (by decide) (fun q => ?_) (fun q => ?_)
      · replace h := h.1 q
        refine EW_ls [0, 1, 3] rfl ?_
        exact sX0_workersIn_43 v1 v3 v2 x K L4 d bc bs hdp hL4 h
      · replace h := h.2 q
        refine EW_iconst (pc2 := 40) (v := 1) rfl dX0_workersIn_39 (by decide) ?_
        refine EW_goto (tgt := 44) dX0_workersIn_40 (by decide) ?_
        refine EW_ls [0, 1, 3] rfl ?_
        exact sX0_workersIn_44 v1 v3 v2 1 x K L4 d bc bs hdp hL4 h
set_option maxHeartbeats 4000000 in
set_option maxRecDepth 100000 in
def wX0_workersIn (v1 : Int32) (x : ab_X) (K : Int32 → Prop) : Prop := Lp2 (lX0_workersIn_4 v1 x K ) 0 0
set_option maxHeartbeats 4000000 in
set_option maxRecDepth 100000 in
theorem sX0_workersIn (v1 : Int32)  (x : ab_X) (K : Int32 → Prop) (d bc bs : Nat) (hdp : 0 ≤ d) (h : wX0_workersIn v1 x K) : EW MX0_workersIn 0 [(0, .ref 66), (1, .int v1)] [] (aS x) d bc bs (liP x K) := by
  unfold wX0_workersIn at h
  refine EW_iconst (pc2 := 1) (v := 0) rfl dX0_workersIn_0 (by decide) ?_
  refine EW_istore_n (pc2 := 2) rfl dX0_workersIn_1 (by decide) [1, 2, 0] [(0, .ref 66), (1, .int v1), (2, .int 0)] rfl ?_
  refine EW_iconst (pc2 := 3) (v := 0) rfl dX0_workersIn_2 (by decide) ?_
  refine EW_istore_n (pc2 := 4) rfl dX0_workersIn_3 (by decide) [1, 2, 3, 0] [(0, .ref 66), (1, .int v1), (2, .int 0), (3, .int 0)] rfl ?_
  exact sX0_workersIn_4 v1 0 0 x K d bc bs hdp h
theorem gfRX10_65 : ab_L RX10 65 4 10 := ⟨by decide, by decide, ab_in 252 (by decide +kernel) (by decide +kernel)⟩
theorem gfRX10_68 : ab_L RX10 68 4 11 := ⟨by decide, by decide, ab_in 255 (by decide +kernel) (by decide +kernel)⟩
abbrev MX10_add : ab_M := (yX10_add, cX10_add, 4, (some (.object "CityBrigade$House")))
theorem dX10_add_0 : decode cX10_add 0 = .ok (.aload_n 0, 1) := by decide +kernel
theorem dX10_add_1 : decode cX10_add 1 = .ok (.getfield 11, 3) := by decide +kernel
theorem dX10_add_4 : decode cX10_add 4 = .ok (.aload_n 0, 1) := by decide +kernel
theorem dX10_add_5 : decode cX10_add 5 = .ok (.getfield 44, 3) := by decide +kernel
theorem dX10_add_8 : decode cX10_add 8 = .ok (.aaload, 1) := by decide +kernel
theorem dX10_add_9 : decode cX10_add 9 = .ok (.astore_n 2, 1) := by decide +kernel
theorem dX10_add_10 : decode cX10_add 10 = .ok (.aload_n 2, 1) := by decide +kernel
theorem dX10_add_11 : decode cX10_add 11 = .ok (.iload_n 1, 1) := by decide +kernel
theorem dX10_add_12 : decode cX10_add 12 = .ok (.putfield 62, 3) := by decide +kernel
theorem dX10_add_15 : decode cX10_add 15 = .ok (.iconst 0, 1) := by decide +kernel
theorem dX10_add_16 : decode cX10_add 16 = .ok (.istore_n 3, 1) := by decide +kernel
theorem dX10_add_17 : decode cX10_add 17 = .ok (.iload_n 3, 1) := by decide +kernel
theorem dX10_add_18 : decode cX10_add 18 = .ok (.aload_n 0, 1) := by decide +kernel
theorem dX10_add_19 : decode cX10_add 19 = .ok (.getfield 44, 3) := by decide +kernel
theorem dX10_add_22 : decode cX10_add 22 = .ok (.if_icmp .ge 27, 3) := by decide +kernel
theorem dX10_add_25 : decode cX10_add 25 = .ok (.aload_n 0, 1) := by decide +kernel
theorem dX10_add_26 : decode cX10_add 26 = .ok (.getfield 11, 3) := by decide +kernel
theorem dX10_add_29 : decode cX10_add 29 = .ok (.iload_n 3, 1) := by decide +kernel
theorem dX10_add_30 : decode cX10_add 30 = .ok (.aaload, 1) := by decide +kernel
theorem dX10_add_31 : decode cX10_add 31 = .ok (.getfield 62, 3) := by decide +kernel
theorem dX10_add_34 : decode cX10_add 34 = .ok (.iload_n 1, 1) := by decide +kernel
theorem dX10_add_35 : decode cX10_add 35 = .ok (.if_icmp .ne 8, 3) := by decide +kernel
theorem dX10_add_38 : decode cX10_add 38 = .ok (.aload_n 2, 1) := by decide +kernel
theorem dX10_add_39 : decode cX10_add 39 = .ok (.iload_n 3, 1) := by decide +kernel
theorem dX10_add_40 : decode cX10_add 40 = .ok (.putfield 65, 3) := by decide +kernel
theorem dX10_add_43 : decode cX10_add 43 = .ok (.iinc 3 1, 3) := by decide +kernel
theorem dX10_add_46 : decode cX10_add 46 = .ok (.goto (-29), 3) := by decide +kernel
theorem dX10_add_49 : decode cX10_add 49 = .ok (.aload_n 0, 1) := by decide +kernel
theorem dX10_add_50 : decode cX10_add 50 = .ok (.aload_n 2, 1) := by decide +kernel
theorem dX10_add_51 : decode cX10_add 51 = .ok (.getfield 65, 3) := by decide +kernel
theorem dX10_add_54 : decode cX10_add 54 = .ok (.invokevirtual 52, 3) := by decide +kernel
theorem dX10_add_57 : decode cX10_add 57 = .ok (.ifCond .eq 19, 3) := by decide +kernel
theorem dX10_add_60 : decode cX10_add 60 = .ok (.aload_n 0, 1) := by decide +kernel
theorem dX10_add_61 : decode cX10_add 61 = .ok (.getfield 11, 3) := by decide +kernel
theorem dX10_add_64 : decode cX10_add 64 = .ok (.aload_n 2, 1) := by decide +kernel
theorem dX10_add_65 : decode cX10_add 65 = .ok (.getfield 65, 3) := by decide +kernel
theorem dX10_add_68 : decode cX10_add 68 = .ok (.aaload, 1) := by decide +kernel
theorem dX10_add_69 : decode cX10_add 69 = .ok (.aload_n 0, 1) := by decide +kernel
theorem dX10_add_70 : decode cX10_add 70 = .ok (.getfield 44, 3) := by decide +kernel
theorem dX10_add_73 : decode cX10_add 73 = .ok (.putfield 68, 3) := by decide +kernel
theorem dX10_add_76 : decode cX10_add 76 = .ok (.aload_n 0, 1) := by decide +kernel
theorem dX10_add_77 : decode cX10_add 77 = .ok (.dup, 1) := by decide +kernel
theorem dX10_add_78 : decode cX10_add 78 = .ok (.getfield 44, 3) := by decide +kernel
theorem dX10_add_81 : decode cX10_add 81 = .ok (.iconst 1, 1) := by decide +kernel
theorem dX10_add_82 : decode cX10_add 82 = .ok (.iadd, 1) := by decide +kernel
theorem dX10_add_83 : decode cX10_add 83 = .ok (.putfield 44, 3) := by decide +kernel
theorem dX10_add_86 : decode cX10_add 86 = .ok (.aload_n 2, 1) := by decide +kernel
theorem dX10_add_87 : decode cX10_add 87 = .ok (.areturn, 1) := by decide +kernel
theorem okX10_add : ab_okM MX10_add 1 := ⟨by decide, ⟨by decide, by decide⟩, ab_in 832 (by decide +kernel) (by decide +kernel), ab_in 89 (by decide +kernel) (by decide +kernel), by decide +kernel, by decide⟩
set_option maxHeartbeats 4000000 in
set_option maxRecDepth 100000 in
def wX10_add_76 (v2 : Nat) (x : ab_X) (K : Nat → ab_X → Prop)  : Prop := K v2 (wr x 9 2 ((x.1 9 2) + 1))
set_option maxHeartbeats 4000000 in
set_option maxRecDepth 100000 in
theorem sX10_add_76 (v2 : Nat) (hv2 : isH v2) (x : ab_X) (K : Nat → ab_X → Prop)  (d bc bs : Nat) (hdp : 2 ≤ d)  (h : wX10_add_76 v2 x K ) : EW MX10_add 76 [(0, .ref 9), (2, .ref v2)] [] (aS x) d bc bs (liR K) := by
  unfold wX10_add_76 at h
  refine EW_aload_n (pc2 := 77) rfl dX10_add_76 0 rfl ?_
  refine EW_dup (pc2 := 78) rfl dX10_add_77 rfl ?_
  refine AW_geti ⟨gfRX10_44, rfl⟩ (pc2 := 81) rfl dX10_add_78 q9 ?_
  refine EW_iconst (pc2 := 82) (v := 1) rfl dX10_add_81 (by decide) ?_
  refine EW_iadd (pc2 := 83) rfl dX10_add_82 ?_
  refine AW_puti ⟨gfRX10_44, rfl, rfl⟩ (pc2 := 86) rfl dX10_add_83 q9 ?_
  refine EW_aload_n (pc2 := 87) rfl dX10_add_86 1 rfl ?_
  exact EW_aret rfl (Or.inl ⟨_, rfl⟩) dX10_add_87 ⟨_, _, rfl, rfl, h⟩
set_option maxHeartbeats 4000000 in
set_option maxRecDepth 100000 in
def lX10_add_17 (v1 : Int32) (v2 : Nat) (K : Nat → ab_X → Prop)  (L17 : Int32 → ab_X → Prop) (v3 : Int32) (x : ab_X) : Prop := (((x.1 9 2) ≤ v3 → wX10_has (x.1 v2 10) x (fun r2 => ((r2 = 0 → wX10_add_76 v2 x K) ∧ (¬ r2 = 0 → (vp_in (x.1 v2 10) 12 ∧ wX10_add_76 v2 (wr x (30 + 3 * Int32.toNatClampNeg (x.1 v2 10)) 11 (x.1 9 2)) K))))) ∧ (¬ (x.1 9 2) ≤ v3 → (vp_in v3 12 ∧ ((¬ (x.1 (30 + 3 * Int32.toNatClampNeg v3) 1) = v1 → L17 (v3 + 1) x) ∧ ((x.1 (30 + 3 * Int32.toNatClampNeg v3) 1) = v1 → L17 (v3 + 1) (wr x v2 10 v3))))))
set_option maxHeartbeats 4000000 in
set_option maxRecDepth 100000 in
theorem sX10_add_17 (v1 : Int32) (v2 : Nat) (v3 : Int32) (hv2 : isH v2) (x : ab_X) (K : Nat → ab_X → Prop)  (d bc bs : Nat) (hdp : 2 ≤ d)  (h : Lp2 (lX10_add_17 v1 v2 K ) v3 x) : EW MX10_add 17 [(0, .ref 9), (1, .int v1), (2, .ref v2), (3, .int v3)] [] (aS x) d bc bs (liR K) := by
  refine Lp2.use (P := fun v3 x => EW MX10_add 17 [(0, .ref 9), (1, .int v1), (2, .ref v2), (3, .int v3)] [] (aS x) d bc bs (liR K)) (fun L17 v3 x hL17 h => ?_) v3 x h
  unfold lX10_add_17 at h
  refine EW_iload_n (pc2 := 18) rfl dX10_add_17 3 rfl ?_
  refine EW_aload_n (pc2 := 19) rfl dX10_add_18 0 rfl ?_
  refine AW_geti ⟨gfRX10_44, rfl⟩ (pc2 := 22) rfl dX10_add_19 q9 ?_
  refine EW_icmp_ge (tgt := 49) (pc2 := 25) rfl dX10_add_22 (by decide) (fun q => ?_) (fun q => ?_)
  · replace h := h.1 q
    refine EW_aload_n (pc2 := 50) rfl dX10_add_49 0 rfl ?_
    refine EW_aload_n (pc2 := 51) rfl dX10_add_50 2 rfl ?_
    refine AW_geti ⟨gfRX10_65, rfl⟩ (pc2 := 54) rfl dX10_add_51 (isH.o hv2) ?_
    refine AW_invV (M' := MX10_has) [.int (x.1 v2 10)] (rest := []) mlRX10_52 okX10_has (pc2 := 57) rfl dX10_add_54 rfl rfl (Nat.le_of_ble_eq_true rfl) (Nat.le_of_ble_eq_true rfl) (d' := 1) (by omega) q9 ⟨by decide, rfl⟩ (EW_mono (fun _ _ hr => ?_) (sX10_has (x.1 v2 10)  x _ _ 0 0 (Nat.le_refl _) h))
    obtain ⟨r2, rfl, rfl, h⟩ := hr
    refine EW_if_eq (tgt := 76) (pc2 := 60) rfl dX10_add_57 (by decide) (fun q => ?_) (fun q => ?_)
    · replace h := h.1 q
      refine EW_ls [0, 2] rfl ?_
      exact sX10_add_76 v2 hv2 x K d bc bs hdp h
    · replace h := h.2 q
      refine EW_aload_n (pc2 := 61) rfl dX10_add_60 0 rfl ?_
      refine AW_getr (r := 10) ⟨gfRX10_11, rfl⟩ (pc2 := 64) rfl dX10_add_61 q9 rfl ?_
      refine EW_aload_n (pc2 := 65) rfl dX10_add_64 2 rfl ?_
      refine AW_geti ⟨gfRX10_65, rfl⟩ (pc2 := 68) rfl dX10_add_65 (isH.o hv2) ?_
      obtain ⟨b3, h⟩ := h
      refine AW_aald5 (pc2 := 69) rfl dX10_add_68 b3 ?_
      refine EW_aload_n (pc2 := 70) rfl dX10_add_69 0 rfl ?_
      refine AW_geti ⟨gfRX10_44, rfl⟩ (pc2 := 73) rfl dX10_add_70 q9 ?_
      refine AW_puti ⟨gfRX10_68, rfl, rfl⟩ (pc2 := 76) rfl dX10_add_73 (isH.o (isH_of b3)) ?_
      refine EW_ls [0, 2] rfl ?_
      exact sX10_add_76 v2 hv2 (wr x (30 + 3 * Int32.toNatClampNeg (x.1 v2 10)) 11 (x.1 9 2)) K d bc bs hdp h
  · replace h := h.2 q
    refine EW_aload_n (pc2 := 26) rfl dX10_add_25 0 rfl ?_
    refine AW_getr (r := 10) ⟨gfRX10_11, rfl⟩ (pc2 := 29) rfl dX10_add_26 q9 rfl ?_
    refine EW_iload_n (pc2 := 30) rfl dX10_add_29 3 rfl ?_
    obtain ⟨b4, h⟩ := h
    refine AW_aald5 (pc2 := 31) rfl dX10_add_30 b4 ?_
    refine AW_geti ⟨gfRX10_62, rfl⟩ (pc2 := 34) rfl dX10_add_31 (isH.o (isH_of b4)) ?_
    refine EW_iload_n (pc2 := 35) rfl dX10_add_34 1 rfl ?_
    refine EW_icmp_ne (tgt := 43) (pc2 := 38) rfl dX10_add_35 (by decide) (fun q => ?_) (fun q => ?_)
    · replace h := h.1 q
      refine EW_iinc (v3 + 1) (pc2 := 46) rfl dX10_add_43 3 rfl rfl (by decide) [1, 2, 3, 0] [(0, .ref 9), (1, .int v1), (2, .ref v2), (3, .int (v3 + 1))] rfl ?_
      refine EW_goto (tgt := 17) dX10_add_46 (by decide) ?_
      exact hL17 (v3 + 1) x h
    · replace h := h.2 q
      refine EW_aload_n (pc2 := 39) rfl dX10_add_38 2 rfl ?_
      refine EW_iload_n (pc2 := 40) rfl dX10_add_39 3 rfl ?_
      refine AW_puti ⟨gfRX10_65, rfl, rfl⟩ (pc2 := 43) rfl dX10_add_40 (isH.o hv2) ?_
      refine EW_iinc (v3 + 1) (pc2 := 46) rfl dX10_add_43 3 rfl rfl (by decide) [1, 2, 3, 0] [(0, .ref 9), (1, .int v1), (2, .ref v2), (3, .int (v3 + 1))] rfl ?_
      refine EW_goto (tgt := 17) dX10_add_46 (by decide) ?_
      exact hL17 (v3 + 1) (wr x v2 10 v3) h
set_option maxHeartbeats 4000000 in
set_option maxRecDepth 100000 in
def wX10_add (v1 : Int32) (x : ab_X) (K : Nat → ab_X → Prop) : Prop := (vp_in (x.1 9 2) 12 ∧ Lp2 (lX10_add_17 v1 (30 + 3 * Int32.toNatClampNeg (x.1 9 2)) K ) 0 (wr x (30 + 3 * Int32.toNatClampNeg (x.1 9 2)) 1 v1))
set_option maxHeartbeats 4000000 in
set_option maxRecDepth 100000 in
theorem sX10_add (v1 : Int32)  (x : ab_X) (K : Nat → ab_X → Prop) (d bc bs : Nat) (hdp : 2 ≤ d) (h : wX10_add v1 x K) : EW MX10_add 0 [(0, .ref 9), (1, .int v1)] [] (aS x) d bc bs (liR K) := by
  unfold wX10_add at h
  refine EW_aload_n (pc2 := 1) rfl dX10_add_0 0 rfl ?_
  refine AW_getr (r := 10) ⟨gfRX10_11, rfl⟩ (pc2 := 4) rfl dX10_add_1 q9 rfl ?_
  refine EW_aload_n (pc2 := 5) rfl dX10_add_4 0 rfl ?_
  refine AW_geti ⟨gfRX10_44, rfl⟩ (pc2 := 8) rfl dX10_add_5 q9 ?_
  obtain ⟨b1, h⟩ := h
  refine AW_aald5 (pc2 := 9) rfl dX10_add_8 b1 ?_
  refine EW_astore_n (pc2 := 10) rfl dX10_add_9 (by decide) [1, 2, 0] [(0, .ref 9), (1, .int v1), (2, .ref (30 + 3 * Int32.toNatClampNeg (x.1 9 2)))] rfl ?_
  refine EW_aload_n (pc2 := 11) rfl dX10_add_10 2 rfl ?_
  refine EW_iload_n (pc2 := 12) rfl dX10_add_11 1 rfl ?_
  refine AW_puti ⟨gfRX10_62, rfl, rfl⟩ (pc2 := 15) rfl dX10_add_12 (isH.o (isH_of b1)) ?_
  refine EW_iconst (pc2 := 16) (v := 0) rfl dX10_add_15 (by decide) ?_
  refine EW_istore_n (pc2 := 17) rfl dX10_add_16 (by decide) [1, 2, 3, 0] [(0, .ref 9), (1, .int v1), (2, .ref (30 + 3 * Int32.toNatClampNeg (x.1 9 2))), (3, .int 0)] rfl ?_
  exact sX10_add_17 v1 (30 + 3 * Int32.toNatClampNeg (x.1 9 2)) 0 (isH_of b1) (wr x (30 + 3 * Int32.toNatClampNeg (x.1 9 2)) 1 v1) K d bc bs hdp h
theorem gfRX10_34 : ab_L RX10 34 10 8 := ⟨by decide, by decide, ab_in 326 (by decide +kernel) (by decide +kernel)⟩
abbrev MX10_addHead : ab_M := (yX10_addHead, cX10_addHead, 3, (some .int))
theorem dX10_addHead_0 : decode cX10_addHead 0 = .ok (.aload_n 0, 1) := by decide +kernel
theorem dX10_addHead_1 : decode cX10_addHead 1 = .ok (.getfield 74, 3) := by decide +kernel
theorem dX10_addHead_4 : decode cX10_addHead 4 = .ok (.bipush 20, 2) := by decide +kernel
theorem dX10_addHead_6 : decode cX10_addHead 6 = .ok (.if_icmp .lt 5, 3) := by decide +kernel
theorem dX10_addHead_9 : decode cX10_addHead 9 = .ok (.iconst (-1), 1) := by decide +kernel
theorem dX10_addHead_10 : decode cX10_addHead 10 = .ok (.ireturn, 1) := by decide +kernel
theorem dX10_addHead_11 : decode cX10_addHead 11 = .ok (.aload_n 0, 1) := by decide +kernel
theorem dX10_addHead_12 : decode cX10_addHead 12 = .ok (.getfield 31, 3) := by decide +kernel
theorem dX10_addHead_15 : decode cX10_addHead 15 = .ok (.aload_n 0, 1) := by decide +kernel
theorem dX10_addHead_16 : decode cX10_addHead 16 = .ok (.getfield 74, 3) := by decide +kernel
theorem dX10_addHead_19 : decode cX10_addHead 19 = .ok (.iload_n 1, 1) := by decide +kernel
theorem dX10_addHead_20 : decode cX10_addHead 20 = .ok (.iastore, 1) := by decide +kernel
theorem dX10_addHead_21 : decode cX10_addHead 21 = .ok (.aload_n 0, 1) := by decide +kernel
theorem dX10_addHead_22 : decode cX10_addHead 22 = .ok (.getfield 34, 3) := by decide +kernel
theorem dX10_addHead_25 : decode cX10_addHead 25 = .ok (.aload_n 0, 1) := by decide +kernel
theorem dX10_addHead_26 : decode cX10_addHead 26 = .ok (.getfield 74, 3) := by decide +kernel
theorem dX10_addHead_29 : decode cX10_addHead 29 = .ok (.iload_n 2, 1) := by decide +kernel
theorem dX10_addHead_30 : decode cX10_addHead 30 = .ok (.iastore, 1) := by decide +kernel
theorem dX10_addHead_31 : decode cX10_addHead 31 = .ok (.aload_n 0, 1) := by decide +kernel
theorem dX10_addHead_32 : decode cX10_addHead 32 = .ok (.dup, 1) := by decide +kernel
theorem dX10_addHead_33 : decode cX10_addHead 33 = .ok (.getfield 74, 3) := by decide +kernel
theorem dX10_addHead_36 : decode cX10_addHead 36 = .ok (.iconst 1, 1) := by decide +kernel
theorem dX10_addHead_37 : decode cX10_addHead 37 = .ok (.iadd, 1) := by decide +kernel
theorem dX10_addHead_38 : decode cX10_addHead 38 = .ok (.putfield 74, 3) := by decide +kernel
theorem dX10_addHead_41 : decode cX10_addHead 41 = .ok (.aload_n 0, 1) := by decide +kernel
theorem dX10_addHead_42 : decode cX10_addHead 42 = .ok (.getfield 74, 3) := by decide +kernel
theorem dX10_addHead_45 : decode cX10_addHead 45 = .ok (.iconst 1, 1) := by decide +kernel
theorem dX10_addHead_46 : decode cX10_addHead 46 = .ok (.isub, 1) := by decide +kernel
theorem dX10_addHead_47 : decode cX10_addHead 47 = .ok (.ireturn, 1) := by decide +kernel
theorem okX10_addHead : ab_okM MX10_addHead 2 := ⟨by decide, ⟨by decide, by decide⟩, ab_in 958 (by decide +kernel) (by decide +kernel), ab_in 89 (by decide +kernel) (by decide +kernel), by decide +kernel, by decide⟩
set_option maxHeartbeats 4000000 in
set_option maxRecDepth 100000 in
def wX10_addHead (v1 : Int32) (v2 : Int32) (x : ab_X) (K : Int32 → ab_X → Prop) : Prop := (((x.1 9 9) < 20 → (vp_in (x.1 9 9) 20 ∧ vp_in ((wr x 28 (Int32.toNatClampNeg (x.1 9 9)) v1).1 9 9) 20 ∧ K (((wr (wr (wr x 28 (Int32.toNatClampNeg (x.1 9 9)) v1) 29 (Int32.toNatClampNeg ((wr x 28 (Int32.toNatClampNeg (x.1 9 9)) v1).1 9 9)) v2) 9 9 (((wr (wr x 28 (Int32.toNatClampNeg (x.1 9 9)) v1) 29 (Int32.toNatClampNeg ((wr x 28 (Int32.toNatClampNeg (x.1 9 9)) v1).1 9 9)) v2).1 9 9) + 1)).1 9 9) - 1) (wr (wr (wr x 28 (Int32.toNatClampNeg (x.1 9 9)) v1) 29 (Int32.toNatClampNeg ((wr x 28 (Int32.toNatClampNeg (x.1 9 9)) v1).1 9 9)) v2) 9 9 (((wr (wr x 28 (Int32.toNatClampNeg (x.1 9 9)) v1) 29 (Int32.toNatClampNeg ((wr x 28 (Int32.toNatClampNeg (x.1 9 9)) v1).1 9 9)) v2).1 9 9) + 1)))) ∧ (¬ (x.1 9 9) < 20 → K (-1) x))
set_option maxHeartbeats 4000000 in
set_option maxRecDepth 100000 in
theorem sX10_addHead (v1 : Int32) (v2 : Int32)  (x : ab_X) (K : Int32 → ab_X → Prop) (d bc bs : Nat) (hdp : 0 ≤ d) (h : wX10_addHead v1 v2 x K) : EW MX10_addHead 0 [(0, .ref 9), (1, .int v1), (2, .int v2)] [] (aS x) d bc bs (liI K) := by
  unfold wX10_addHead at h
  refine EW_aload_n (pc2 := 1) rfl dX10_addHead_0 0 rfl ?_
  refine AW_geti ⟨gfRX10_74, rfl⟩ (pc2 := 4) rfl dX10_addHead_1 q9 ?_
  refine EW_bipush (pc2 := 6) (v := 20) rfl dX10_addHead_4 (by decide) ?_
  refine EW_icmp_lt (tgt := 11) (pc2 := 9) rfl dX10_addHead_6 (by decide) (fun q => ?_) (fun q => ?_)
  · replace h := h.1 q
    refine EW_aload_n (pc2 := 12) rfl dX10_addHead_11 0 rfl ?_
    refine AW_getr (r := 28) ⟨gfRX10_31, rfl⟩ (pc2 := 15) rfl dX10_addHead_12 q9 rfl ?_
    refine EW_aload_n (pc2 := 16) rfl dX10_addHead_15 0 rfl ?_
    refine AW_geti ⟨gfRX10_74, rfl⟩ (pc2 := 19) rfl dX10_addHead_16 q9 ?_
    refine EW_iload_n (pc2 := 20) rfl dX10_addHead_19 1 rfl ?_
    obtain ⟨b1, h⟩ := h
    refine AW_iast (pc2 := 21) rfl dX10_addHead_20 q28 b1 ?_
    refine EW_aload_n (pc2 := 22) rfl dX10_addHead_21 0 rfl ?_
    refine AW_getr (r := 29) ⟨gfRX10_34, rfl⟩ (pc2 := 25) rfl dX10_addHead_22 q9 rfl ?_
    refine EW_aload_n (pc2 := 26) rfl dX10_addHead_25 0 rfl ?_
    refine AW_geti ⟨gfRX10_74, rfl⟩ (pc2 := 29) rfl dX10_addHead_26 q9 ?_
    refine EW_iload_n (pc2 := 30) rfl dX10_addHead_29 2 rfl ?_
    obtain ⟨b2, h⟩ := h
    refine AW_iast (pc2 := 31) rfl dX10_addHead_30 q29 b2 ?_
    refine EW_aload_n (pc2 := 32) rfl dX10_addHead_31 0 rfl ?_
    refine EW_dup (pc2 := 33) rfl dX10_addHead_32 rfl ?_
    refine AW_geti ⟨gfRX10_74, rfl⟩ (pc2 := 36) rfl dX10_addHead_33 q9 ?_
    refine EW_iconst (pc2 := 37) (v := 1) rfl dX10_addHead_36 (by decide) ?_
    refine EW_iadd (pc2 := 38) rfl dX10_addHead_37 ?_
    refine AW_puti ⟨gfRX10_74, rfl, rfl⟩ (pc2 := 41) rfl dX10_addHead_38 q9 ?_
    refine EW_aload_n (pc2 := 42) rfl dX10_addHead_41 0 rfl ?_
    refine AW_geti ⟨gfRX10_74, rfl⟩ (pc2 := 45) rfl dX10_addHead_42 q9 ?_
    refine EW_iconst (pc2 := 46) (v := 1) rfl dX10_addHead_45 (by decide) ?_
    refine EW_isub (pc2 := 47) rfl dX10_addHead_46 ?_
    exact AW_iret rfl dX10_addHead_47 ⟨_, _, rfl, rfl, h⟩
  · replace h := h.2 q
    refine EW_iconst (pc2 := 10) (v := (-1)) rfl dX10_addHead_9 (by decide) ?_
    exact AW_iret rfl dX10_addHead_10 ⟨_, _, rfl, rfl, h⟩
theorem gfRX10_71 : ab_L RX10 71 10 6 := ⟨by decide, by decide, ab_in 323 (by decide +kernel) (by decide +kernel)⟩
theorem gfRX10_27 : ab_L RX10 27 10 5 := ⟨by decide, by decide, ab_in 321 (by decide +kernel) (by decide +kernel)⟩
abbrev MX10_addMain : ab_M := (yX10_addMain, cX10_addMain, 2, (some .int))
theorem dX10_addMain_0 : decode cX10_addMain 0 = .ok (.aload_n 0, 1) := by decide +kernel
theorem dX10_addMain_1 : decode cX10_addMain 1 = .ok (.getfield 71, 3) := by decide +kernel
theorem dX10_addMain_4 : decode cX10_addMain 4 = .ok (.bipush 6, 2) := by decide +kernel
theorem dX10_addMain_6 : decode cX10_addMain 6 = .ok (.if_icmp .lt 5, 3) := by decide +kernel
theorem dX10_addMain_9 : decode cX10_addMain 9 = .ok (.iconst (-1), 1) := by decide +kernel
theorem dX10_addMain_10 : decode cX10_addMain 10 = .ok (.ireturn, 1) := by decide +kernel
theorem dX10_addMain_11 : decode cX10_addMain 11 = .ok (.aload_n 0, 1) := by decide +kernel
theorem dX10_addMain_12 : decode cX10_addMain 12 = .ok (.getfield 27, 3) := by decide +kernel
theorem dX10_addMain_15 : decode cX10_addMain 15 = .ok (.aload_n 0, 1) := by decide +kernel
theorem dX10_addMain_16 : decode cX10_addMain 16 = .ok (.getfield 71, 3) := by decide +kernel
theorem dX10_addMain_19 : decode cX10_addMain 19 = .ok (.iload_n 1, 1) := by decide +kernel
theorem dX10_addMain_20 : decode cX10_addMain 20 = .ok (.iastore, 1) := by decide +kernel
theorem dX10_addMain_21 : decode cX10_addMain 21 = .ok (.aload_n 0, 1) := by decide +kernel
theorem dX10_addMain_22 : decode cX10_addMain 22 = .ok (.dup, 1) := by decide +kernel
theorem dX10_addMain_23 : decode cX10_addMain 23 = .ok (.getfield 71, 3) := by decide +kernel
theorem dX10_addMain_26 : decode cX10_addMain 26 = .ok (.iconst 1, 1) := by decide +kernel
theorem dX10_addMain_27 : decode cX10_addMain 27 = .ok (.iadd, 1) := by decide +kernel
theorem dX10_addMain_28 : decode cX10_addMain 28 = .ok (.putfield 71, 3) := by decide +kernel
theorem dX10_addMain_31 : decode cX10_addMain 31 = .ok (.aload_n 0, 1) := by decide +kernel
theorem dX10_addMain_32 : decode cX10_addMain 32 = .ok (.getfield 71, 3) := by decide +kernel
theorem dX10_addMain_35 : decode cX10_addMain 35 = .ok (.iconst 1, 1) := by decide +kernel
theorem dX10_addMain_36 : decode cX10_addMain 36 = .ok (.isub, 1) := by decide +kernel
theorem dX10_addMain_37 : decode cX10_addMain 37 = .ok (.ireturn, 1) := by decide +kernel
theorem okX10_addMain : ab_okM MX10_addMain 1 := ⟨by decide, ⟨by decide, by decide⟩, ab_in 950 (by decide +kernel) (by decide +kernel), ab_in 89 (by decide +kernel) (by decide +kernel), by decide +kernel, by decide⟩
set_option maxHeartbeats 4000000 in
set_option maxRecDepth 100000 in
def wX10_addMain (v1 : Int32) (x : ab_X) (K : Int32 → ab_X → Prop) : Prop := (((x.1 9 6) < 6 → (vp_in (x.1 9 6) 6 ∧ K (((wr (wr x 27 (Int32.toNatClampNeg (x.1 9 6)) v1) 9 6 (((wr x 27 (Int32.toNatClampNeg (x.1 9 6)) v1).1 9 6) + 1)).1 9 6) - 1) (wr (wr x 27 (Int32.toNatClampNeg (x.1 9 6)) v1) 9 6 (((wr x 27 (Int32.toNatClampNeg (x.1 9 6)) v1).1 9 6) + 1)))) ∧ (¬ (x.1 9 6) < 6 → K (-1) x))
set_option maxHeartbeats 4000000 in
set_option maxRecDepth 100000 in
theorem sX10_addMain (v1 : Int32)  (x : ab_X) (K : Int32 → ab_X → Prop) (d bc bs : Nat) (hdp : 0 ≤ d) (h : wX10_addMain v1 x K) : EW MX10_addMain 0 [(0, .ref 9), (1, .int v1)] [] (aS x) d bc bs (liI K) := by
  unfold wX10_addMain at h
  refine EW_aload_n (pc2 := 1) rfl dX10_addMain_0 0 rfl ?_
  refine AW_geti ⟨gfRX10_71, rfl⟩ (pc2 := 4) rfl dX10_addMain_1 q9 ?_
  refine EW_bipush (pc2 := 6) (v := 6) rfl dX10_addMain_4 (by decide) ?_
  refine EW_icmp_lt (tgt := 11) (pc2 := 9) rfl dX10_addMain_6 (by decide) (fun q => ?_) (fun q => ?_)
  · replace h := h.1 q
    refine EW_aload_n (pc2 := 12) rfl dX10_addMain_11 0 rfl ?_
    refine AW_getr (r := 27) ⟨gfRX10_27, rfl⟩ (pc2 := 15) rfl dX10_addMain_12 q9 rfl ?_
    refine EW_aload_n (pc2 := 16) rfl dX10_addMain_15 0 rfl ?_
    refine AW_geti ⟨gfRX10_71, rfl⟩ (pc2 := 19) rfl dX10_addMain_16 q9 ?_
    refine EW_iload_n (pc2 := 20) rfl dX10_addMain_19 1 rfl ?_
    obtain ⟨b1, h⟩ := h
    refine AW_iast (pc2 := 21) rfl dX10_addMain_20 q27 b1 ?_
    refine EW_aload_n (pc2 := 22) rfl dX10_addMain_21 0 rfl ?_
    refine EW_dup (pc2 := 23) rfl dX10_addMain_22 rfl ?_
    refine AW_geti ⟨gfRX10_71, rfl⟩ (pc2 := 26) rfl dX10_addMain_23 q9 ?_
    refine EW_iconst (pc2 := 27) (v := 1) rfl dX10_addMain_26 (by decide) ?_
    refine EW_iadd (pc2 := 28) rfl dX10_addMain_27 ?_
    refine AW_puti ⟨gfRX10_71, rfl, rfl⟩ (pc2 := 31) rfl dX10_addMain_28 q9 ?_
    refine EW_aload_n (pc2 := 32) rfl dX10_addMain_31 0 rfl ?_
    refine AW_geti ⟨gfRX10_71, rfl⟩ (pc2 := 35) rfl dX10_addMain_32 q9 ?_
    refine EW_iconst (pc2 := 36) (v := 1) rfl dX10_addMain_35 (by decide) ?_
    refine EW_isub (pc2 := 37) rfl dX10_addMain_36 ?_
    exact AW_iret rfl dX10_addMain_37 ⟨_, _, rfl, rfl, h⟩
  · replace h := h.2 q
    refine EW_iconst (pc2 := 10) (v := (-1)) rfl dX10_addMain_9 (by decide) ?_
    exact AW_iret rfl dX10_addMain_10 ⟨_, _, rfl, rfl, h⟩
