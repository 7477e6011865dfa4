theorem gfRX11_278 : ab_L RX11 278 2 9 := ⟨by decide, by decide, ab_in 433 (by decide +kernel) (by decide +kernel)⟩
theorem mlRX11_281 : Cond.methodLink RX11 281 yX0_turnHome ∈ ab_G ∧ Cond.instanceMethod yX0_turnHome ∈ ab_G ∧ Cond.selects RX0 yX0_turnHome yX0_turnHome ∈ ab_G := ⟨ab_in 1005 (by decide +kernel) (by decide +kernel), ab_in 1006 (by decide +kernel) (by decide +kernel), ab_in 1007 (by decide +kernel) (by decide +kernel)⟩
abbrev MX11_recall : ab_M := (yX11_recall, cX11_recall, 3, (some .boolean))
theorem dX11_recall_0 : decode cX11_recall 0 = .ok (.aload_n 0, 1) := by decide +kernel
theorem dX11_recall_1 : decode cX11_recall 1 = .ok (.getfield 30, 3) := by decide +kernel
theorem dX11_recall_4 : decode cX11_recall 4 = .ok (.iload_n 1, 1) := by decide +kernel
theorem dX11_recall_5 : decode cX11_recall 5 = .ok (.invokevirtual 256, 3) := by decide +kernel
theorem dX11_recall_8 : decode cX11_recall 8 = .ok (.ifCond .ne 5, 3) := by decide +kernel
theorem dX11_recall_11 : decode cX11_recall 11 = .ok (.iconst 0, 1) := by decide +kernel
theorem dX11_recall_12 : decode cX11_recall 12 = .ok (.ireturn, 1) := by decide +kernel
theorem dX11_recall_13 : decode cX11_recall 13 = .ok (.aload_n 0, 1) := by decide +kernel
theorem dX11_recall_14 : decode cX11_recall 14 = .ok (.getfield 30, 3) := by decide +kernel
theorem dX11_recall_17 : decode cX11_recall 17 = .ok (.getfield 241, 3) := by decide +kernel
theorem dX11_recall_20 : decode cX11_recall 20 = .ok (.iload_n 1, 1) := by decide +kernel
theorem dX11_recall_21 : decode cX11_recall 21 = .ok (.aaload, 1) := by decide +kernel
theorem dX11_recall_22 : decode cX11_recall 22 = .ok (.astore_n 2, 1) := by decide +kernel
theorem dX11_recall_23 : decode cX11_recall 23 = .ok (.aload_n 2, 1) := by decide +kernel
theorem dX11_recall_24 : decode cX11_recall 24 = .ok (.getfield 257, 3) := by decide +kernel
theorem dX11_recall_27 : decode cX11_recall 27 = .ok (.ifCond .ne 14, 3) := by decide +kernel
theorem dX11_recall_30 : decode cX11_recall 30 = .ok (.aload_n 2, 1) := by decide +kernel
theorem dX11_recall_31 : decode cX11_recall 31 = .ok (.getfield 278, 3) := by decide +kernel
theorem dX11_recall_34 : decode cX11_recall 34 = .ok (.aload_n 2, 1) := by decide +kernel
theorem dX11_recall_35 : decode cX11_recall 35 = .ok (.getfield 272, 3) := by decide +kernel
theorem dX11_recall_38 : decode cX11_recall 38 = .ok (.if_icmp .ne 5, 3) := by decide +kernel
theorem dX11_recall_41 : decode cX11_recall 41 = .ok (.iconst 0, 1) := by decide +kernel
theorem dX11_recall_42 : decode cX11_recall 42 = .ok (.ireturn, 1) := by decide +kernel
theorem dX11_recall_43 : decode cX11_recall 43 = .ok (.aload_n 0, 1) := by decide +kernel
theorem dX11_recall_44 : decode cX11_recall 44 = .ok (.getfield 30, 3) := by decide +kernel
theorem dX11_recall_47 : decode cX11_recall 47 = .ok (.aload_n 2, 1) := by decide +kernel
theorem dX11_recall_48 : decode cX11_recall 48 = .ok (.invokevirtual 281, 3) := by decide +kernel
theorem dX11_recall_51 : decode cX11_recall 51 = .ok (.iconst 1, 1) := by decide +kernel
theorem dX11_recall_52 : decode cX11_recall 52 = .ok (.ireturn, 1) := by decide +kernel
theorem okX11_recall : ab_okM MX11_recall 1 := ⟨by decide, ⟨by decide, by decide⟩, ab_in 1004 (by decide +kernel) (by decide +kernel), ab_in 86 (by decide +kernel) (by decide +kernel), by decide +kernel, by decide⟩
set_option maxHeartbeats 4000000 in
set_option maxRecDepth 100000 in
def wX11_recall (v1 : Int32) (x : ab_X) (K : Int32 → ab_X → Prop) : Prop := wX0_has v1 x (fun r1 => ((¬ r1 = 0 → (vp_in v1 16 ∧ ((¬ (x.1 (82 + Int32.toNatClampNeg v1) 8) = 0 → K 0 x) ∧ ((x.1 (82 + Int32.toNatClampNeg v1) 8) = 0 → ((¬ (x.1 (82 + Int32.toNatClampNeg v1) 9) = (x.1 (82 + Int32.toNatClampNeg v1) 1) → wX0_turnHome (82 + Int32.toNatClampNeg v1) x (fun x3 => K 1 x3)) ∧ ((x.1 (82 + Int32.toNatClampNeg v1) 9) = (x.1 (82 + Int32.toNatClampNeg v1) 1) → K 0 x)))))) ∧ (r1 = 0 → K 0 x)))
set_option maxHeartbeats 4000000 in
set_option maxRecDepth 100000 in
theorem sX11_recall (v1 : Int32)  (x : ab_X) (K : Int32 → ab_X → Prop) (d bc bs : Nat) (hdp : 4 ≤ d) (h : wX11_recall v1 x K) : EW MX11_recall 0 [(0, .ref 0), (1, .int v1)] [] (aS x) d bc bs (liI K) := by
  unfold wX11_recall at h
  refine EW_aload_n (pc2 := 1) rfl dX11_recall_0 0 rfl ?_
  refine AW_getr (r := 66) ⟨gfRX11_30, rfl⟩ (pc2 := 4) rfl dX11_recall_1 q0 rfl ?_
  refine EW_iload_n (pc2 := 5) rfl dX11_recall_4 1 rfl ?_
  refine AW_invV (M' := MX0_has) [.int v1] (rest := []) mlRX11_256 okX0_has (pc2 := 8) rfl dX11_recall_5 rfl rfl (Nat.le_of_ble_eq_true rfl) (Nat.le_of_ble_eq_true rfl) (d' := 1) (by omega) q66 ⟨by decide, rfl⟩ (EW_mono (fun _ _ hr => ?_) (sX0_has v1  x _ _ 0 0 (Nat.le_refl _) h))
  obtain ⟨r1, rfl, rfl, h⟩ := hr
  refine EW_if_ne (tgt := 13) (pc2 := 11) rfl dX11_recall_8 (by decide) (fun q => ?_) (fun q => ?_)
  · replace h := h.1 q
    refine EW_aload_n (pc2 := 14) rfl dX11_recall_13 0 rfl ?_
    refine AW_getr (r := 66) ⟨gfRX11_30, rfl⟩ (pc2 := 17) rfl dX11_recall_14 q0 rfl ?_
    refine AW_getr (r := 67) ⟨gfRX11_241, rfl⟩ (pc2 := 20) rfl dX11_recall_17 q66 rfl ?_
    refine EW_iload_n (pc2 := 21) rfl dX11_recall_20 1 rfl ?_
    obtain ⟨b2, h⟩ := h
    refine AW_aald6 (pc2 := 22) rfl dX11_recall_21 b2 ?_
    refine EW_astore_n (pc2 := 23) rfl dX11_recall_22 (by decide) [1, 2, 0] [(0, .ref 0), (1, .int v1), (2, .ref (82 + Int32.toNatClampNeg v1))] rfl ?_
    refine EW_aload_n (pc2 := 24) rfl dX11_recall_23 2 rfl ?_
    refine AW_geti ⟨gfRX11_257, rfl⟩ (pc2 := 27) rfl dX11_recall_24 (isW.o (isW_of b2)) ?_
    refine EW_if_ne (tgt := 41) (pc2 := 30) rfl dX11_recall_27 (by decide) (fun q => ?_) (fun q => ?_)
    · replace h := h.1 q
      refine EW_iconst (pc2 := 42) (v := 0) rfl dX11_recall_41 (by decide) ?_
      exact AW_zret rfl isB0 dX11_recall_42 ⟨_, _, rfl, rfl, h⟩
    · replace h := h.2 q
      refine EW_aload_n (pc2 := 31) rfl dX11_recall_30 2 rfl ?_
      refine AW_geti ⟨gfRX11_278, rfl⟩ (pc2 := 34) rfl dX11_recall_31 (isW.o (isW_of b2)) ?_
      refine EW_aload_n (pc2 := 35) rfl dX11_recall_34 2 rfl ?_
      refine AW_geti ⟨gfRX11_272, rfl⟩ (pc2 := 38) rfl dX11_recall_35 (isW.o (isW_of b2)) ?_
      refine EW_icmp_ne (tgt := 43) (pc2 := 41) rfl dX11_recall_38 (by decide) (fun q => ?_) (fun q => ?_)
      · replace h := h.1 q
        refine EW_aload_n (pc2 := 44) rfl dX11_recall_43 0 rfl ?_
        refine AW_getr (r := 66) ⟨gfRX11_30, rfl⟩ (pc2 := 47) rfl dX11_recall_44 q0 rfl ?_
        refine EW_aload_n (pc2 := 48) rfl dX11_recall_47 2 rfl ?_
        refine AW_invV (M' := MX0_turnHome) [.ref (82 + Int32.toNatClampNeg v1)] (rest := []) mlRX11_281 okX0_turnHome (pc2 := 51) rfl dX11_recall_48 rfl rfl (Nat.le_of_ble_eq_true rfl) (Nat.le_of_ble_eq_true rfl) (d' := 3) (by omega) q66 ⟨by decide, rfl⟩ (EW_mono (fun _ _ hr => ?_) (sX0_turnHome (82 + Int32.toNatClampNeg v1) (isW_of b2) x _ _ 0 0 (Nat.le_refl _) h))
        obtain ⟨x3, rfl, rfl, h⟩ := hr
        refine EW_iconst (pc2 := 52) (v := 1) rfl dX11_recall_51 (by decide) ?_
        exact AW_zret rfl isB1 dX11_recall_52 ⟨_, _, rfl, rfl, h⟩
      · replace h := h.2 q
        refine EW_iconst (pc2 := 42) (v := 0) rfl dX11_recall_41 (by decide) ?_
        exact AW_zret rfl isB0 dX11_recall_42 ⟨_, _, rfl, rfl, h⟩
  · replace h := h.2 q
    refine EW_iconst (pc2 := 12) (v := 0) rfl dX11_recall_11 (by decide) ?_
    exact AW_zret rfl isB0 dX11_recall_12 ⟨_, _, rfl, rfl, h⟩
theorem gfRX11_187 : ab_L RX11 187 3 0 := ⟨by decide, by decide, ab_in 176 (by decide +kernel) (by decide +kernel)⟩
theorem gfRX11_190 : ab_L RX11 190 3 1 := ⟨by decide, by decide, ab_in 179 (by decide +kernel) (by decide +kernel)⟩
theorem mlRX11_193 : Cond.methodLink RX11 193 yX3_burns ∈ ab_G ∧ Cond.instanceMethod yX3_burns ∈ ab_G ∧ Cond.selects RX3 yX3_burns yX3_burns ∈ ab_G := ⟨ab_in 915 (by decide +kernel) (by decide +kernel), ab_in 888 (by decide +kernel) (by decide +kernel), ab_in 889 (by decide +kernel) (by decide +kernel)⟩
abbrev MX11_room : ab_M := (yX11_room, cX11_room, 5, (some .int))
theorem dX11_room_0 : decode cX11_room 0 = .ok (.aload_n 0, 1) := by decide +kernel
theorem dX11_room_1 : decode cX11_room 1 = .ok (.getfield 21, 3) := by decide +kernel
theorem dX11_room_4 : decode cX11_room 4 = .ok (.iload_n 1, 1) := by decide +kernel
theorem dX11_room_5 : decode cX11_room 5 = .ok (.iload_n 2, 1) := by decide +kernel
theorem dX11_room_6 : decode cX11_room 6 = .ok (.invokevirtual 173, 3) := by decide +kernel
theorem dX11_room_9 : decode cX11_room 9 = .ok (.ifCond .ne 5, 3) := by decide +kernel
theorem dX11_room_12 : decode cX11_room 12 = .ok (.iconst (-1), 1) := by decide +kernel
theorem dX11_room_13 : decode cX11_room 13 = .ok (.ireturn, 1) := by decide +kernel
theorem dX11_room_14 : decode cX11_room 14 = .ok (.aload_n 0, 1) := by decide +kernel
theorem dX11_room_15 : decode cX11_room 15 = .ok (.getfield 21, 3) := by decide +kernel
theorem dX11_room_18 : decode cX11_room 18 = .ok (.getfield 127, 3) := by decide +kernel
theorem dX11_room_21 : decode cX11_room 21 = .ok (.iload_n 1, 1) := by decide +kernel
theorem dX11_room_22 : decode cX11_room 22 = .ok (.aaload, 1) := by decide +kernel
theorem dX11_room_23 : decode cX11_room 23 = .ok (.astore 4, 2) := by decide +kernel
theorem dX11_room_25 : decode cX11_room 25 = .ok (.iload_n 3, 1) := by decide +kernel
theorem dX11_room_26 : decode cX11_room 26 = .ok (.tableswitch 87 0 2 #[26, 44, 62], 26) := by decide +kernel
theorem dX11_room_52 : decode cX11_room 52 = .ok (.aload_n 0, 1) := by decide +kernel
theorem dX11_room_53 : decode cX11_room 53 = .ok (.getfield 21, 3) := by decide +kernel
theorem dX11_room_56 : decode cX11_room 56 = .ok (.getfield 150, 3) := by decide +kernel
theorem dX11_room_59 : decode cX11_room 59 = .ok (.getfield 187, 3) := by decide +kernel
theorem dX11_room_62 : decode cX11_room 62 = .ok (.aload 4, 2) := by decide +kernel
theorem dX11_room_64 : decode cX11_room 64 = .ok (.iload_n 2, 1) := by decide +kernel
theorem dX11_room_65 : decode cX11_room 65 = .ok (.invokevirtual 180, 3) := by decide +kernel
theorem dX11_room_68 : decode cX11_room 68 = .ok (.iaload, 1) := by decide +kernel
theorem dX11_room_69 : decode cX11_room 69 = .ok (.ireturn, 1) := by decide +kernel
theorem dX11_room_70 : decode cX11_room 70 = .ok (.aload_n 0, 1) := by decide +kernel
theorem dX11_room_71 : decode cX11_room 71 = .ok (.getfield 21, 3) := by decide +kernel
theorem dX11_room_74 : decode cX11_room 74 = .ok (.getfield 150, 3) := by decide +kernel
theorem dX11_room_77 : decode cX11_room 77 = .ok (.getfield 190, 3) := by decide +kernel
theorem dX11_room_80 : decode cX11_room 80 = .ok (.aload 4, 2) := by decide +kernel
theorem dX11_room_82 : decode cX11_room 82 = .ok (.iload_n 2, 1) := by decide +kernel
theorem dX11_room_83 : decode cX11_room 83 = .ok (.invokevirtual 180, 3) := by decide +kernel
theorem dX11_room_86 : decode cX11_room 86 = .ok (.iaload, 1) := by decide +kernel
theorem dX11_room_87 : decode cX11_room 87 = .ok (.ireturn, 1) := by decide +kernel
theorem dX11_room_88 : decode cX11_room 88 = .ok (.aload_n 0, 1) := by decide +kernel
theorem dX11_room_89 : decode cX11_room 89 = .ok (.getfield 21, 3) := by decide +kernel
theorem dX11_room_92 : decode cX11_room 92 = .ok (.getfield 150, 3) := by decide +kernel
theorem dX11_room_95 : decode cX11_room 95 = .ok (.aload 4, 2) := by decide +kernel
theorem dX11_room_97 : decode cX11_room 97 = .ok (.iload_n 2, 1) := by decide +kernel
theorem dX11_room_98 : decode cX11_room 98 = .ok (.invokevirtual 180, 3) := by decide +kernel
theorem dX11_room_101 : decode cX11_room 101 = .ok (.invokevirtual 193, 3) := by decide +kernel
theorem dX11_room_104 : decode cX11_room 104 = .ok (.ifCond .eq 7, 3) := by decide +kernel
theorem dX11_room_107 : decode cX11_room 107 = .ok (.iconst 1, 1) := by decide +kernel
theorem dX11_room_108 : decode cX11_room 108 = .ok (.goto 4, 3) := by decide +kernel
theorem dX11_room_111 : decode cX11_room 111 = .ok (.iconst 0, 1) := by decide +kernel
theorem dX11_room_112 : decode cX11_room 112 = .ok (.ireturn, 1) := by decide +kernel
theorem dX11_room_113 : decode cX11_room 113 = .ok (.iconst (-1), 1) := by decide +kernel
theorem dX11_room_114 : decode cX11_room 114 = .ok (.ireturn, 1) := by decide +kernel
theorem okX11_room : ab_okM MX11_room 3 := ⟨by decide, ⟨by decide, by decide⟩, ab_in 914 (by decide +kernel) (by decide +kernel), ab_in 86 (by decide +kernel) (by decide +kernel), by decide +kernel, by decide⟩
set_option maxHeartbeats 4000000 in
set_option maxRecDepth 100000 in
def wX11_room (v1 : Int32) (v2 : Int32) (v3 : Int32) (x : ab_X) (K : Int32 → Prop) : Prop := wX10_hasRoom v1 v2 x (fun r1 => ((¬ r1 = 0 → (vp_in v1 12 ∧ (((v3.toInt < 0 ∨ 2 < v3.toInt) → K (-1)) ∧ (v3 = 0 → wX4_place (30 + 3 * Int32.toNatClampNeg v1) v2 x (fun r3 => (vp_in r3 288 ∧ K (x.1 12 (Int32.toNatClampNeg r3))))) ∧ (v3 = 1 → wX4_place (30 + 3 * Int32.toNatClampNeg v1) v2 x (fun r5 => (vp_in r5 288 ∧ K (x.1 13 (Int32.toNatClampNeg r5))))) ∧ (v3 = 2 → wX4_place (30 + 3 * Int32.toNatClampNeg v1) v2 x (fun r7 => wX3_burns 11 r7 x (fun r8 => ((r8 = 0 → K 0) ∧ (¬ r8 = 0 → K 1)))))))) ∧ (r1 = 0 → K (-1))))
set_option maxHeartbeats 4000000 in
set_option maxRecDepth 100000 in
theorem sX11_room (v1 : Int32) (v2 : Int32) (v3 : Int32)  (x : ab_X) (K : Int32 → Prop) (d bc bs : Nat) (hdp : 3 ≤ d) (h : wX11_room v1 v2 v3 x K) : EW MX11_room 0 [(0, .ref 0), (1, .int v1), (2, .int v2), (3, .int v3)] [] (aS x) d bc bs (liP x K) := by
  unfold wX11_room at h
  refine EW_aload_n (pc2 := 1) rfl dX11_room_0 0 rfl ?_
  refine AW_getr (r := 9) ⟨gfRX11_21, rfl⟩ (pc2 := 4) rfl dX11_room_1 q0 rfl ?_
  refine EW_iload_n (pc2 := 5) rfl dX11_room_4 1 rfl ?_
  refine EW_iload_n (pc2 := 6) rfl dX11_room_5 2 rfl ?_
  refine AW_invV (M' := MX10_hasRoom) [.int v1, .int v2] (rest := []) mlRX11_173 okX10_hasRoom (pc2 := 9) rfl dX11_room_6 rfl rfl (Nat.le_of_ble_eq_true rfl) (Nat.le_of_ble_eq_true rfl) (d' := 2) (by omega) q9 ⟨by decide, rfl⟩ (EW_mono (fun _ _ hr => ?_) (sX10_hasRoom v1 v2  x _ _ 0 0 (Nat.le_refl _) h))
  obtain ⟨r1, rfl, rfl, h⟩ := hr
  refine EW_if_ne (tgt := 14) (pc2 := 12) rfl dX11_room_9 (by decide) (fun q => ?_) (fun q => ?_)
  · replace h := h.1 q
    refine EW_aload_n (pc2 := 15) rfl dX11_room_14 0 rfl ?_
    refine AW_getr (r := 9) ⟨gfRX11_21, rfl⟩ (pc2 := 18) rfl dX11_room_15 q0 rfl ?_
    refine AW_getr (r := 10) ⟨gfRX11_127, rfl⟩ (pc2 := 21) rfl dX11_room_18 q9 rfl ?_
    refine EW_iload_n (pc2 := 22) rfl dX11_room_21 1 rfl ?_
    obtain ⟨b2, h⟩ := h
    refine AW_aald5 (pc2 := 23) rfl dX11_room_22 b2 ?_
    refine EW_astore (pc2 := 25) rfl dX11_room_23 (by decide) [1, 2, 3, 4, 0] [(0, .ref 0), (1, .int v1), (2, .int v2), (3, .int v3), (4, .ref (30 + 3 * Int32.toNatClampNeg v1))] rfl ?_
    refine EW_iload_n (pc2 := 26) rfl dX11_room_25 3 rfl ?_
    by_cases qo : Int32.toInt v3 < 0 ∨ 2 < Int32.toInt v3
    · replace h := h.1 qo
      refine EW_tabOut (tgt := 113) dX11_room_26 qo (by decide) ?_
      refine EW_iconst (pc2 := 114) (v := (-1)) rfl dX11_room_113 (by decide) ?_
      exact AW_iret rfl dX11_room_114 ⟨_, rfl, rfl, h⟩
    · obtain ⟨kk, hkk, qk⟩ := sw_in 0 2 (by decide) qo
      match kk, hkk, qk with
      | 0, _, qk =>
        replace h := h.2.1 qk
        refine EW_tabIn (off := 26) (tgt := 52) dX11_room_26 (by rw [qk]; decide) (by rw [qk]; decide) (by rw [qk]; decide) (by decide) ?_
        refine EW_aload_n (pc2 := 53) rfl dX11_room_52 0 rfl ?_
        refine AW_getr (r := 9) ⟨gfRX11_21, rfl⟩ (pc2 := 56) rfl dX11_room_53 q0 rfl ?_
        refine AW_getr (r := 11) ⟨gfRX11_150, rfl⟩ (pc2 := 59) rfl dX11_room_56 q9 rfl ?_
        refine AW_getr (r := 12) ⟨gfRX11_187, rfl⟩ (pc2 := 62) rfl dX11_room_59 q11 rfl ?_
        refine EW_aload (pc2 := 64) rfl dX11_room_62 4 rfl ?_
        refine EW_iload_n (pc2 := 65) rfl dX11_room_64 2 rfl ?_
        refine AW_invV (M' := MX4_place) [.int v2] (rest := [.ref 12]) mlRX11_180 okX4_place (pc2 := 68) rfl dX11_room_65 rfl rfl (Nat.le_of_ble_eq_true rfl) (Nat.le_of_ble_eq_true rfl) (d' := 0) (by omega) (isH.o (isH_of b2)) ⟨by decide, rfl⟩ (EW_mono (fun _ _ hr => ?_) (sX4_place (30 + 3 * Int32.toNatClampNeg v1) v2 (isH_of b2) x _ _ 0 0 (Nat.le_refl _) h))
        obtain ⟨r3, rfl, rfl, h⟩ := hr
        obtain ⟨b4, h⟩ := h
        refine AW_iald (pc2 := 69) rfl dX11_room_68 q12 b4 ?_
        exact AW_iret rfl dX11_room_69 ⟨_, rfl, rfl, h⟩
      | 1, _, qk =>
        replace h := h.2.2.1 qk
        refine EW_tabIn (off := 44) (tgt := 70) dX11_room_26 (by rw [qk]; decide) (by rw [qk]; decide) (by rw [qk]; decide) (by decide) ?_
        refine EW_aload_n (pc2 := 71) rfl dX11_room_70 0 rfl ?_
        refine AW_getr (r := 9) ⟨gfRX11_21, rfl⟩ (pc2 := 74) rfl dX11_room_71 q0 rfl ?_
        refine AW_getr (r := 11) ⟨gfRX11_150, rfl⟩ (pc2 := 77) rfl dX11_room_74 q9 rfl ?_
        refine AW_getr (r := 13) ⟨gfRX11_190, rfl⟩ (pc2 := 80) rfl dX11_room_77 q11 rfl ?_
        refine EW_aload (pc2 := 82) rfl dX11_room_80 4 rfl ?_
        refine EW_iload_n (pc2 := 83) rfl dX11_room_82 2 rfl ?_
        refine AW_invV (M' := MX4_place) [.int v2] (rest := [.ref 13]) mlRX11_180 okX4_place (pc2 := 86) rfl dX11_room_83 rfl rfl (Nat.le_of_ble_eq_true rfl) (Nat.le_of_ble_eq_true rfl) (d' := 0) (by omega) (isH.o (isH_of b2)) ⟨by decide, rfl⟩ (EW_mono (fun _ _ hr => ?_) (sX4_place (30 + 3 * Int32.toNatClampNeg v1) v2 (isH_of b2) x _ _ 0 0 (Nat.le_refl _) h))
        obtain ⟨r5, rfl, rfl, h⟩ := hr
        obtain ⟨b6, h⟩ := h
        refine AW_iald (pc2 := 87) rfl dX11_room_86 q13 b6 ?_
        exact AW_iret rfl dX11_room_87 ⟨_, rfl, rfl, h⟩
      | 2, _, qk =>
        replace h := h.2.2.2 qk
        refine EW_tabIn (off := 62) (tgt := 88) dX11_room_26 (by rw [qk]; decide) (by rw [qk]; decide) (by rw [qk]; decide) (by decide) ?_
        refine EW_aload_n (pc2 := 89) rfl dX11_room_88 0 rfl ?_
        refine AW_getr (r := 9) ⟨gfRX11_21, rfl⟩ (pc2 := 92) rfl dX11_room_89 q0 rfl ?_
        refine AW_getr (r := 11) ⟨gfRX11_150, rfl⟩ (pc2 := 95) rfl dX11_room_92 q9 rfl ?_
        refine EW_aload (pc2 := 97) rfl dX11_room_95 4 rfl ?_
        refine EW_iload_n (pc2 := 98) rfl dX11_room_97 2 rfl ?_
        refine AW_invV (M' := MX4_place) [.int v2] (rest := [.ref 11]) mlRX11_180 okX4_place (pc2 := 101) rfl dX11_room_98 rfl rfl (Nat.le_of_ble_eq_true rfl) (Nat.le_of_ble_eq_true rfl) (d' := 0) (by omega) (isH.o (isH_of b2)) ⟨by decide, rfl⟩ (EW_mono (fun _ _ hr => ?_) (sX4_place (30 + 3 * Int32.toNatClampNeg v1) v2 (isH_of b2) x _ _ 0 0 (Nat.le_refl _) h))
        obtain ⟨r7, rfl, rfl, h⟩ := hr
        refine AW_invV (M' := MX3_burns) [.int r7] (rest := []) mlRX11_193 okX3_burns (pc2 := 104) rfl dX11_room_101 rfl rfl (Nat.le_of_ble_eq_true rfl) (Nat.le_of_ble_eq_true rfl) (d' := 0) (by omega) q11 ⟨by decide, rfl⟩ (EW_mono (fun _ _ hr => ?_) (sX3_burns 11 r7 (Or.inl rfl : isF 11) x _ _ 0 0 (Nat.le_refl _) h))
        obtain ⟨r8, rfl, rfl, h⟩ := hr
        refine EW_if_eq (tgt := 111) (pc2 := 107) rfl dX11_room_104 (by decide) (fun q => ?_) (fun q => ?_)
        · replace h := h.1 q
          refine EW_iconst (pc2 := 112) (v := 0) rfl dX11_room_111 (by decide) ?_
          exact AW_iret rfl dX11_room_112 ⟨_, rfl, rfl, h⟩
        · replace h := h.2 q
          refine EW_iconst (pc2 := 108) (v := 1) rfl dX11_room_107 (by decide) ?_
          refine EW_goto (tgt := 112) dX11_room_108 (by decide) ?_
          exact AW_iret rfl dX11_room_112 ⟨_, rfl, rfl, h⟩
      | n9 + 3, hkk, _ => exact absurd hkk (by omega)
  · replace h := h.2 q
    refine EW_iconst (pc2 := 13) (v := (-1)) rfl dX11_room_12 (by decide) ?_
    exact AW_iret rfl dX11_room_13 ⟨_, rfl, rfl, h⟩
theorem gfRX7_40 : ab_L RX7 40 7 1 := ⟨by decide, by decide, ab_in 672 (by decide +kernel) (by decide +kernel)⟩
theorem gfRX7_79 : ab_L RX7 79 10 1 := ⟨by decide, by decide, ab_in 309 (by decide +kernel) (by decide +kernel)⟩
theorem gfRX7_9 : ab_L RX7 9 7 3 := ⟨by decide, by decide, ab_in 674 (by decide +kernel) (by decide +kernel)⟩
theorem gfRX7_83 : ab_L RX7 83 4 1 := ⟨by decide, by decide, ab_in 217 (by decide +kernel) (by decide +kernel)⟩
abbrev MX7_cornerOf : ab_M := (yX7_cornerOf, cX7_cornerOf, 2, (some .int))
theorem dX7_cornerOf_0 : decode cX7_cornerOf 0 = .ok (.aload_n 0, 1) := by decide +kernel
theorem dX7_cornerOf_1 : decode cX7_cornerOf 1 = .ok (.getfield 40, 3) := by decide +kernel
theorem dX7_cornerOf_4 : decode cX7_cornerOf 4 = .ok (.getfield 79, 3) := by decide +kernel
theorem dX7_cornerOf_7 : decode cX7_cornerOf 7 = .ok (.aload_n 0, 1) := by decide +kernel
theorem dX7_cornerOf_8 : decode cX7_cornerOf 8 = .ok (.getfield 9, 3) := by decide +kernel
theorem dX7_cornerOf_11 : decode cX7_cornerOf 11 = .ok (.iload_n 1, 1) := by decide +kernel
theorem dX7_cornerOf_12 : decode cX7_cornerOf 12 = .ok (.iaload, 1) := by decide +kernel
theorem dX7_cornerOf_13 : decode cX7_cornerOf 13 = .ok (.aaload, 1) := by decide +kernel
theorem dX7_cornerOf_14 : decode cX7_cornerOf 14 = .ok (.getfield 83, 3) := by decide +kernel
theorem dX7_cornerOf_17 : decode cX7_cornerOf 17 = .ok (.ireturn, 1) := by decide +kernel
theorem okX7_cornerOf : ab_okM MX7_cornerOf 1 := ⟨by decide, ⟨by decide, by decide⟩, ab_in 1617 (by decide +kernel) (by decide +kernel), ab_in 98 (by decide +kernel) (by decide +kernel), by decide +kernel, by decide⟩
set_option maxHeartbeats 4000000 in
set_option maxRecDepth 100000 in
def wX7_cornerOf (v1 : Int32) (x : ab_X) (K : Int32 → Prop) : Prop := (vp_in v1 8 ∧ vp_in (x.1 235 (Int32.toNatClampNeg v1)) 12 ∧ K (x.1 (30 + 3 * Int32.toNatClampNeg (x.1 235 (Int32.toNatClampNeg v1))) 1))
set_option maxHeartbeats 4000000 in
set_option maxRecDepth 100000 in
theorem sX7_cornerOf (v1 : Int32)  (x : ab_X) (K : Int32 → Prop) (d bc bs : Nat) (hdp : 0 ≤ d) (h : wX7_cornerOf v1 x K) : EW MX7_cornerOf 0 [(0, .ref 234), (1, .int v1)] [] (aS x) d bc bs (liP x K) := by
  unfold wX7_cornerOf at h
  refine EW_aload_n (pc2 := 1) rfl dX7_cornerOf_0 0 rfl ?_
  refine AW_getr (r := 9) ⟨gfRX7_40, rfl⟩ (pc2 := 4) rfl dX7_cornerOf_1 q234 rfl ?_
  refine AW_getr (r := 10) ⟨gfRX7_79, rfl⟩ (pc2 := 7) rfl dX7_cornerOf_4 q9 rfl ?_
  refine EW_aload_n (pc2 := 8) rfl dX7_cornerOf_7 0 rfl ?_
  refine AW_getr (r := 235) ⟨gfRX7_9, rfl⟩ (pc2 := 11) rfl dX7_cornerOf_8 q234 rfl ?_
  refine EW_iload_n (pc2 := 12) rfl dX7_cornerOf_11 1 rfl ?_
  obtain ⟨b1, h⟩ := h
  refine AW_iald (pc2 := 13) rfl dX7_cornerOf_12 q235 b1 ?_
  obtain ⟨b2, h⟩ := h
  refine AW_aald5 (pc2 := 14) rfl dX7_cornerOf_13 b2 ?_
  refine AW_geti ⟨gfRX7_83, rfl⟩ (pc2 := 17) rfl dX7_cornerOf_14 (isH.o (isH_of b2)) ?_
  exact AW_iret rfl dX7_cornerOf_17 ⟨_, rfl, rfl, h⟩
theorem gfRX7_24 : ab_L RX7 24 7 9 := ⟨by decide, by decide, ab_in 680 (by decide +kernel) (by decide +kernel)⟩
theorem gfRX7_21 : ab_L RX7 21 7 7 := ⟨by decide, by decide, ab_in 678 (by decide +kernel) (by decide +kernel)⟩
abbrev MX7_through : ab_M := (yX7_through, cX7_through, 4, (some .int))
theorem dX7_through_0 : decode cX7_through 0 = .ok (.aload_n 0, 1) := by decide +kernel
theorem dX7_through_1 : decode cX7_through 1 = .ok (.getfield 24, 3) := by decide +kernel
theorem dX7_through_4 : decode cX7_through 4 = .ok (.iload_n 2, 1) := by decide +kernel
theorem dX7_through_5 : decode cX7_through 5 = .ok (.bipush 8, 2) := by decide +kernel
theorem dX7_through_7 : decode cX7_through 7 = .ok (.imul, 1) := by decide +kernel
theorem dX7_through_8 : decode cX7_through 8 = .ok (.iload_n 3, 1) := by decide +kernel
theorem dX7_through_9 : decode cX7_through 9 = .ok (.iadd, 1) := by decide +kernel
theorem dX7_through_10 : decode cX7_through 10 = .ok (.iaload, 1) := by decide +kernel
theorem dX7_through_11 : decode cX7_through 11 = .ok (.aload_n 0, 1) := by decide +kernel
theorem dX7_through_12 : decode cX7_through 12 = .ok (.getfield 21, 3) := by decide +kernel
theorem dX7_through_15 : decode cX7_through 15 = .ok (.iload_n 1, 1) := by decide +kernel
theorem dX7_through_16 : decode cX7_through 16 = .ok (.iconst 1, 1) := by decide +kernel
theorem dX7_through_17 : decode cX7_through 17 = .ok (.iload_n 3, 1) := by decide +kernel
theorem dX7_through_18 : decode cX7_through 18 = .ok (.ishl, 1) := by decide +kernel
theorem dX7_through_19 : decode cX7_through 19 = .ok (.iconst (-1), 1) := by decide +kernel
theorem dX7_through_20 : decode cX7_through 20 = .ok (.ixor, 1) := by decide +kernel
theorem dX7_through_21 : decode cX7_through 21 = .ok (.iand, 1) := by decide +kernel
theorem dX7_through_22 : decode cX7_through 22 = .ok (.bipush 8, 2) := by decide +kernel
theorem dX7_through_24 : decode cX7_through 24 = .ok (.imul, 1) := by decide +kernel
theorem dX7_through_25 : decode cX7_through 25 = .ok (.iload_n 3, 1) := by decide +kernel
theorem dX7_through_26 : decode cX7_through 26 = .ok (.iadd, 1) := by decide +kernel
theorem dX7_through_27 : decode cX7_through 27 = .ok (.iaload, 1) := by decide +kernel
theorem dX7_through_28 : decode cX7_through 28 = .ok (.iadd, 1) := by decide +kernel
theorem dX7_through_29 : decode cX7_through 29 = .ok (.ireturn, 1) := by decide +kernel
theorem okX7_through : ab_okM MX7_through 3 := ⟨by decide, ⟨by decide, by decide⟩, ab_in 1625 (by decide +kernel) (by decide +kernel), ab_in 98 (by decide +kernel) (by decide +kernel), by decide +kernel, by decide⟩
set_option maxHeartbeats 4000000 in
set_option maxRecDepth 100000 in
def wX7_through (v1 : Int32) (v2 : Int32) (v3 : Int32) (x : ab_X) (K : Int32 → Prop) : Prop := (vp_in ((v2 * 8) + v3) 72 ∧ vp_in (((v1 &&& ((1 <<< (v3 &&& 31)) ^^^ (-1))) * 8) + v3) 2048 ∧ K ((x.1 239 (Int32.toNatClampNeg ((v2 * 8) + v3))) + (x.1 238 (Int32.toNatClampNeg (((v1 &&& ((1 <<< (v3 &&& 31)) ^^^ (-1))) * 8) + v3)))))
set_option maxHeartbeats 4000000 in
set_option maxRecDepth 100000 in
theorem sX7_through (v1 : Int32) (v2 : Int32) (v3 : Int32)  (x : ab_X) (K : Int32 → Prop) (d bc bs : Nat) (hdp : 0 ≤ d) (h : wX7_through v1 v2 v3 x K) : EW MX7_through 0 [(0, .ref 234), (1, .int v1), (2, .int v2), (3, .int v3)] [] (aS x) d bc bs (liP x K) := by
  unfold wX7_through at h
  refine EW_aload_n (pc2 := 1) rfl dX7_through_0 0 rfl ?_
  refine AW_getr (r := 239) ⟨gfRX7_24, rfl⟩ (pc2 := 4) rfl dX7_through_1 q234 rfl ?_
  refine EW_iload_n (pc2 := 5) rfl dX7_through_4 2 rfl ?_
  refine EW_bipush (pc2 := 7) (v := 8) rfl dX7_through_5 (by decide) ?_
  refine EW_imul (pc2 := 8) rfl dX7_through_7 ?_
  refine EW_iload_n (pc2 := 9) rfl dX7_through_8 3 rfl ?_
  refine EW_iadd (pc2 := 10) rfl dX7_through_9 ?_
  obtain ⟨b1, h⟩ := h
  refine AW_iald (pc2 := 11) rfl dX7_through_10 q239 b1 ?_
  refine EW_aload_n (pc2 := 12) rfl dX7_through_11 0 rfl ?_
  refine AW_getr (r := 238) ⟨gfRX7_21, rfl⟩ (pc2 := 15) rfl dX7_through_12 q234 rfl ?_
  refine EW_iload_n (pc2 := 16) rfl dX7_through_15 1 rfl ?_
  refine EW_iconst (pc2 := 17) (v := 1) rfl dX7_through_16 (by decide) ?_
  refine EW_iload_n (pc2 := 18) rfl dX7_through_17 3 rfl ?_
  refine EW_ishl (pc2 := 19) rfl dX7_through_18 ?_
  refine EW_iconst (pc2 := 20) (v := (-1)) rfl dX7_through_19 (by decide) ?_
  refine EW_ixor (pc2 := 21) rfl dX7_through_20 ?_
  refine EW_iand (pc2 := 22) rfl dX7_through_21 ?_
  refine EW_bipush (pc2 := 24) (v := 8) rfl dX7_through_22 (by decide) ?_
  refine EW_imul (pc2 := 25) rfl dX7_through_24 ?_
  refine EW_iload_n (pc2 := 26) rfl dX7_through_25 3 rfl ?_
  refine EW_iadd (pc2 := 27) rfl dX7_through_26 ?_
  obtain ⟨b2, h⟩ := h
  refine AW_iald (pc2 := 28) rfl dX7_through_27 q238 b2 ?_
  refine EW_iadd (pc2 := 29) rfl dX7_through_28 ?_
  exact AW_iret rfl dX7_through_29 ⟨_, rfl, rfl, h⟩
theorem gfRX7_71 : ab_L RX7 71 7 5 := ⟨by decide, by decide, ab_in 676 (by decide +kernel) (by decide +kernel)⟩
theorem mlRX7_112 : Cond.methodLink RX7 112 yX7_through ∈ ab_G ∧ Cond.instanceMethod yX7_through ∈ ab_G ∧ Cond.selects RX7 yX7_through yX7_through ∈ ab_G := ⟨ab_in 1622 (by decide +kernel) (by decide +kernel), ab_in 1623 (by decide +kernel) (by decide +kernel), ab_in 1624 (by decide +kernel) (by decide +kernel)⟩
theorem mmRX7_103 : Cond.methodLink RX7 103 Lib.Math.min.name ∈ ab_G ∧ Cond.static Lib.Math.min.name ∈ ab_G ∧ Cond.initialized "java/lang/Math" ∈ ab_G ∧ Cond.code Lib.Math.min.name Lib.Math.min.code 2 (some .int) ∈ ab_G := ⟨ab_in 1605 (by decide +kernel) (by decide +kernel), ab_in 787 (by decide +kernel) (by decide +kernel), ab_in 100 (by decide +kernel) (by decide +kernel), ab_in 788 (by decide +kernel) (by decide +kernel)⟩
theorem cnRX7_94 : Cond.constant RX7 94 1000000 ∈ ab_G := ab_in 1602 (by decide +kernel) (by decide +kernel)
theorem mlRX7_108 : Cond.methodLink RX7 108 yX7_cornerOf ∈ ab_G ∧ Cond.instanceMethod yX7_cornerOf ∈ ab_G ∧ Cond.selects RX7 yX7_cornerOf yX7_cornerOf ∈ ab_G := ⟨ab_in 1614 (by decide +kernel) (by decide +kernel), ab_in 1615 (by decide +kernel) (by decide +kernel), ab_in 1616 (by decide +kernel) (by decide +kernel)⟩
theorem gfRX7_48 : ab_L RX7 48 7 8 := ⟨by decide, by decide, ab_in 679 (by decide +kernel) (by decide +kernel)⟩
abbrev MX7_fillRest : ab_M := (yX7_fillRest, cX7_fillRest, 5, none)
theorem dX7_fillRest_0 : decode cX7_fillRest 0 = .ok (.iconst 0, 1) := by decide +kernel
theorem dX7_fillRest_1 : decode cX7_fillRest 1 = .ok (.istore_n 1, 1) := by decide +kernel
theorem dX7_fillRest_2 : decode cX7_fillRest 2 = .ok (.iload_n 1, 1) := by decide +kernel
theorem dX7_fillRest_3 : decode cX7_fillRest 3 = .ok (.iconst 1, 1) := by decide +kernel
theorem dX7_fillRest_4 : decode cX7_fillRest 4 = .ok (.aload_n 0, 1) := by decide +kernel
theorem dX7_fillRest_5 : decode cX7_fillRest 5 = .ok (.getfield 71, 3) := by decide +kernel
theorem dX7_fillRest_8 : decode cX7_fillRest 8 = .ok (.ishl, 1) := by decide +kernel
theorem dX7_fillRest_9 : decode cX7_fillRest 9 = .ok (.if_icmp .ge 104, 3) := by decide +kernel
theorem dX7_fillRest_12 : decode cX7_fillRest 12 = .ok (.iconst 0, 1) := by decide +kernel
theorem dX7_fillRest_13 : decode cX7_fillRest 13 = .ok (.istore_n 2, 1) := by decide +kernel
theorem dX7_fillRest_14 : decode cX7_fillRest 14 = .ok (.iload_n 2, 1) := by decide +kernel
theorem dX7_fillRest_15 : decode cX7_fillRest 15 = .ok (.aload_n 0, 1) := by decide +kernel
theorem dX7_fillRest_16 : decode cX7_fillRest 16 = .ok (.getfield 71, 3) := by decide +kernel
theorem dX7_fillRest_19 : decode cX7_fillRest 19 = .ok (.if_icmp .ge 88, 3) := by decide +kernel
theorem dX7_fillRest_22 : decode cX7_fillRest 22 = .ok (.iload_n 1, 1) := by decide +kernel
theorem dX7_fillRest_23 : decode cX7_fillRest 23 = .ok (.ifCond .ne 22, 3) := by decide +kernel
theorem dX7_fillRest_26 : decode cX7_fillRest 26 = .ok (.aload_n 0, 1) := by decide +kernel
theorem dX7_fillRest_27 : decode cX7_fillRest 27 = .ok (.getfield 36, 3) := by decide +kernel
theorem dX7_fillRest_30 : decode cX7_fillRest 30 = .ok (.aload_n 0, 1) := by decide +kernel
theorem dX7_fillRest_31 : decode cX7_fillRest 31 = .ok (.iload_n 2, 1) := by decide +kernel
theorem dX7_fillRest_32 : decode cX7_fillRest 32 = .ok (.invokevirtual 108, 3) := by decide +kernel
theorem dX7_fillRest_35 : decode cX7_fillRest 35 = .ok (.aload_n 0, 1) := by decide +kernel
theorem dX7_fillRest_36 : decode cX7_fillRest 36 = .ok (.getfield 48, 3) := by decide +kernel
theorem dX7_fillRest_39 : decode cX7_fillRest 39 = .ok (.invokevirtual 88, 3) := by decide +kernel
theorem dX7_fillRest_42 : decode cX7_fillRest 42 = .ok (.goto 5, 3) := by decide +kernel
theorem dX7_fillRest_45 : decode cX7_fillRest 45 = .ok (.ldc 94, 2) := by decide +kernel
theorem dX7_fillRest_47 : decode cX7_fillRest 47 = .ok (.istore_n 3, 1) := by decide +kernel
theorem dX7_fillRest_48 : decode cX7_fillRest 48 = .ok (.iconst 0, 1) := by decide +kernel
theorem dX7_fillRest_49 : decode cX7_fillRest 49 = .ok (.istore 4, 2) := by decide +kernel
theorem dX7_fillRest_51 : decode cX7_fillRest 51 = .ok (.iload 4, 2) := by decide +kernel
theorem dX7_fillRest_53 : decode cX7_fillRest 53 = .ok (.aload_n 0, 1) := by decide +kernel
theorem dX7_fillRest_54 : decode cX7_fillRest 54 = .ok (.getfield 71, 3) := by decide +kernel
theorem dX7_fillRest_57 : decode cX7_fillRest 57 = .ok (.if_icmp .ge 32, 3) := by decide +kernel
theorem dX7_fillRest_60 : decode cX7_fillRest 60 = .ok (.iload_n 1, 1) := by decide +kernel
theorem dX7_fillRest_61 : decode cX7_fillRest 61 = .ok (.iload 4, 2) := by decide +kernel
theorem dX7_fillRest_63 : decode cX7_fillRest 63 = .ok (.ishr, 1) := by decide +kernel
theorem dX7_fillRest_64 : decode cX7_fillRest 64 = .ok (.iconst 1, 1) := by decide +kernel
theorem dX7_fillRest_65 : decode cX7_fillRest 65 = .ok (.iand, 1) := by decide +kernel
theorem dX7_fillRest_66 : decode cX7_fillRest 66 = .ok (.iconst 1, 1) := by decide +kernel
theorem dX7_fillRest_67 : decode cX7_fillRest 67 = .ok (.if_icmp .ne 16, 3) := by decide +kernel
theorem dX7_fillRest_70 : decode cX7_fillRest 70 = .ok (.iload_n 3, 1) := by decide +kernel
theorem dX7_fillRest_71 : decode cX7_fillRest 71 = .ok (.aload_n 0, 1) := by decide +kernel
theorem dX7_fillRest_72 : decode cX7_fillRest 72 = .ok (.iload_n 1, 1) := by decide +kernel
theorem dX7_fillRest_73 : decode cX7_fillRest 73 = .ok (.iload_n 2, 1) := by decide +kernel
theorem dX7_fillRest_74 : decode cX7_fillRest 74 = .ok (.iload 4, 2) := by decide +kernel
theorem dX7_fillRest_76 : decode cX7_fillRest 76 = .ok (.invokevirtual 112, 3) := by decide +kernel
theorem dX7_fillRest_79 : decode cX7_fillRest 79 = .ok (.invokestatic 103, 3) := by decide +kernel
theorem dX7_fillRest_82 : decode cX7_fillRest 82 = .ok (.istore_n 3, 1) := by decide +kernel
theorem dX7_fillRest_83 : decode cX7_fillRest 83 = .ok (.iinc 4 1, 3) := by decide +kernel
theorem dX7_fillRest_86 : decode cX7_fillRest 86 = .ok (.goto (-35), 3) := by decide +kernel
theorem dX7_fillRest_89 : decode cX7_fillRest 89 = .ok (.aload_n 0, 1) := by decide +kernel
theorem dX7_fillRest_90 : decode cX7_fillRest 90 = .ok (.getfield 21, 3) := by decide +kernel
theorem dX7_fillRest_93 : decode cX7_fillRest 93 = .ok (.iload_n 1, 1) := by decide +kernel
theorem dX7_fillRest_94 : decode cX7_fillRest 94 = .ok (.bipush 8, 2) := by decide +kernel
theorem dX7_fillRest_96 : decode cX7_fillRest 96 = .ok (.imul, 1) := by decide +kernel
theorem dX7_fillRest_97 : decode cX7_fillRest 97 = .ok (.iload_n 2, 1) := by decide +kernel
theorem dX7_fillRest_98 : decode cX7_fillRest 98 = .ok (.iadd, 1) := by decide +kernel
theorem dX7_fillRest_99 : decode cX7_fillRest 99 = .ok (.iload_n 3, 1) := by decide +kernel
theorem dX7_fillRest_100 : decode cX7_fillRest 100 = .ok (.iastore, 1) := by decide +kernel
theorem dX7_fillRest_101 : decode cX7_fillRest 101 = .ok (.iinc 2 1, 3) := by decide +kernel
theorem dX7_fillRest_104 : decode cX7_fillRest 104 = .ok (.goto (-90), 3) := by decide +kernel
theorem dX7_fillRest_107 : decode cX7_fillRest 107 = .ok (.iinc 1 1, 3) := by decide +kernel
theorem dX7_fillRest_110 : decode cX7_fillRest 110 = .ok (.goto (-108), 3) := by decide +kernel
theorem dX7_fillRest_113 : decode cX7_fillRest 113 = .ok (.return_, 1) := by decide +kernel
theorem okX7_fillRest : ab_okM MX7_fillRest 0 := ⟨by decide, ⟨by decide, by decide⟩, ab_in 1621 (by decide +kernel) (by decide +kernel), ab_in 98 (by decide +kernel) (by decide +kernel), by decide +kernel, by decide⟩
set_option maxHeartbeats 4000000 in
set_option maxRecDepth 100000 in
def lX7_fillRest_51 (v1 : Int32) (v2 : Int32) (x : ab_X) (K : ab_X → Prop) (L2 : Int32 → ab_X → Prop) (L14 : Int32 → ab_X → Prop) (L51 : Int32 → Int32 → Prop) (v3 : Int32) (v4 : Int32) : Prop := (((x.1 234 5) ≤ v4 → (vp_in ((v1 * 8) + v2) 2048 ∧ L14 (v2 + 1) (wr x 238 (Int32.toNatClampNeg ((v1 * 8) + v2)) v3))) ∧ (¬ (x.1 234 5) ≤ v4 → ((¬ ((v1 >>> (v4 &&& 31)) &&& 1) = 1 → L51 v3 (v4 + 1)) ∧ (((v1 >>> (v4 &&& 31)) &&& 1) = 1 → wX7_through v1 v2 v4 x (fun r4 => L51 (imin v3 r4) (v4 + 1))))))
set_option maxHeartbeats 4000000 in
set_option maxRecDepth 100000 in
theorem sX7_fillRest_51 (v1 : Int32) (v2 : Int32) (v3 : Int32) (v4 : Int32)  (x : ab_X) (K : ab_X → Prop) (L2 : Int32 → ab_X → Prop) (L14 : Int32 → ab_X → Prop) (d bc bs : Nat) (hdp : 2 ≤ d) (hL2 : ∀ (v1 : Int32) (x : ab_X), L2 v1 x → EW MX7_fillRest 2 [(0, .ref 234), (1, .int v1)] [] (aS x) d bc bs (liV K)) (hL14 : ∀ (v2 : Int32) (x : ab_X), L14 v2 x → EW MX7_fillRest 14 [(0, .ref 234), (1, .int v1), (2, .int v2)] [] (aS x) d bc bs (liV K)) (h : Lp2 (lX7_fillRest_51 v1 v2 x K L2 L14) v3 v4) : EW MX7_fillRest 51 [(0, .ref 234), (1, .int v1), (2, .int v2), (3, .int v3), (4, .int v4)] [] (aS x) d bc bs (liV K) := by
  refine Lp2.use (P := fun v3 v4 => EW MX7_fillRest 51 [(0, .ref 234), (1, .int v1), (2, .int v2), (3, .int v3), (4, .int v4)] [] (aS x) d bc bs (liV K)) (fun L51 v3 v4 hL51 h => ?_) v3 v4 h
  unfold lX7_fillRest_51 at h
  refine EW_iload (pc2 := 53) rfl dX7_fillRest_51 4 rfl ?_
  refine EW_aload_n (pc2 := 54) rfl dX7_fillRest_53 0 rfl ?_
  refine AW_geti ⟨gfRX7_71, rfl⟩ (pc2 := 57) rfl dX7_fillRest_54 q234 ?_
  refine EW_icmp_ge (tgt := 89) (pc2 := 60) rfl dX7_fillRest_57 (by decide) (fun q => ?_) (fun q => ?_)
  · replace h := h.1 q
    refine EW_aload_n (pc2 := 90) rfl dX7_fillRest_89 0 rfl ?_
    refine AW_getr (r := 238) ⟨gfRX7_21, rfl⟩ (pc2 := 93) rfl dX7_fillRest_90 q234 rfl ?_
    refine EW_iload_n (pc2 := 94) rfl dX7_fillRest_93 1 rfl ?_
    refine EW_bipush (pc2 := 96) (v := 8) rfl dX7_fillRest_94 (by decide) ?_
    refine EW_imul (pc2 := 97) rfl dX7_fillRest_96 ?_
    refine EW_iload_n (pc2 := 98) rfl dX7_fillRest_97 2 rfl ?_
    refine EW_iadd (pc2 := 99) rfl dX7_fillRest_98 ?_
    refine EW_iload_n (pc2 := 100) rfl dX7_fillRest_99 3 rfl ?_
    obtain ⟨b3, h⟩ := h
    refine AW_iast (pc2 := 101) rfl dX7_fillRest_100 q238 b3 ?_
    refine EW_iinc (v2 + 1) (pc2 := 104) rfl dX7_fillRest_101 2 rfl rfl (by decide) [1, 2, 0, 3, 4] [(0, .ref 234), (1, .int v1), (2, .int (v2 + 1)), (3, .int v3), (4, .int v4)] rfl ?_
    refine EW_goto (tgt := 14) dX7_fillRest_104 (by decide) ?_
    refine EW_ls [0, 1, 2] rfl ?_
    exact hL14 (v2 + 1) (wr x 238 (Int32.toNatClampNeg ((v1 * 8) + v2)) v3) h
  · replace h := h.2 q
    refine EW_iload_n (pc2 := 61) rfl dX7_fillRest_60 1 rfl ?_
    refine EW_iload (pc2 := 63) rfl dX7_fillRest_61 4 rfl ?_
    refine EW_ishr (pc2 := 64) rfl dX7_fillRest_63 ?_
    refine EW_iconst (pc2 := 65) (v := 1) rfl dX7_fillRest_64 (by decide) ?_
    refine EW_iand (pc2 := 66) rfl dX7_fillRest_65 ?_
    refine EW_iconst (pc2 := 67) (v := 1) rfl dX7_fillRest_66 (by decide) ?_
    refine EW_icmp_ne (tgt := 83) (pc2 := 70) rfl dX7_fillRest_67 (by decide) (fun q => ?_) (fun q => ?_)
    · replace h := h.1 q
      refine EW_iinc (v4 + 1) (pc2 := 86) rfl dX7_fillRest_83 4 rfl rfl (by decide) [1, 2, 3, 4, 0] [(0, .ref 234), (1, .int v1), (2, .int v2), (3, .int v3), (4, .int (v4 + 1))] rfl ?_
      refine EW_goto (tgt := 51) dX7_fillRest_86 (by decide) ?_
      exact hL51 v3 (v4 + 1) h
    · replace h := h.2 q
      refine EW_iload_n (pc2 := 71) rfl dX7_fillRest_70 3 rfl ?_
      refine EW_aload_n (pc2 := 72) rfl dX7_fillRest_71 0 rfl ?_
      refine EW_iload_n (pc2 := 73) rfl dX7_fillRest_72 1 rfl ?_
      refine EW_iload_n (pc2 := 74) rfl dX7_fillRest_73 2 rfl ?_
      refine EW_iload (pc2 := 76) rfl dX7_fillRest_74 4 rfl ?_
      refine AW_invV (M' := MX7_through) [.int v1, .int v2, .int v4] (rest := [.int v3]) mlRX7_112 okX7_through (pc2 := 79) rfl dX7_fillRest_76 rfl rfl (Nat.le_of_ble_eq_true rfl) (Nat.le_of_ble_eq_true rfl) (d' := 0) (by omega) q234 ⟨by decide, rfl⟩ (EW_mono (fun _ _ hr => ?_) (sX7_through v1 v2 v4  x _ _ 0 0 (Nat.le_refl _) h))
      obtain ⟨r4, rfl, rfl, h⟩ := hr
      refine AW_mmin mmRX7_103 (pc2 := 82) rfl dX7_fillRest_79 (Nat.le_of_ble_eq_true rfl) (by omega) ?_
      refine EW_istore_n (pc2 := 83) rfl dX7_fillRest_82 (by decide) [1, 2, 3, 0, 4] [(0, .ref 234), (1, .int v1), (2, .int v2), (3, .int (imin v3 r4)), (4, .int v4)] rfl ?_
      refine EW_iinc (v4 + 1) (pc2 := 86) rfl dX7_fillRest_83 4 rfl rfl (by decide) [1, 2, 3, 4, 0] [(0, .ref 234), (1, .int v1), (2, .int v2), (3, .int (imin v3 r4)), (4, .int (v4 + 1))] rfl ?_
      refine EW_goto (tgt := 51) dX7_fillRest_86 (by decide) ?_
      exact hL51 (imin v3 r4) (v4 + 1) h
set_option maxHeartbeats 4000000 in
set_option maxRecDepth 100000 in
def lX7_fillRest_14 (v1 : Int32) (K : ab_X → Prop) (L2 : Int32 → ab_X → Prop) (L14 : Int32 → ab_X → Prop) (v2 : Int32) (x : ab_X) : Prop := (((x.1 234 5) ≤ v2 → L2 (v1 + 1) x) ∧ (¬ (x.1 234 5) ≤ v2 → ((¬ v1 = 0 → Lp2 (lX7_fillRest_51 v1 v2 x K L2 L14) 1000000 0) ∧ (v1 = 0 → wX7_cornerOf v2 x (fun r1 => wX6_walk r1 (x.1 234 8) x (fun r2 => Lp2 (lX7_fillRest_51 v1 v2 x K L2 L14) r2 0))))))
set_option maxHeartbeats 4000000 in
set_option maxRecDepth 100000 in
theorem sX7_fillRest_14 (v1 : Int32) (v2 : Int32)  (x : ab_X) (K : ab_X → Prop) (L2 : Int32 → ab_X → Prop) (d bc bs : Nat) (hdp : 2 ≤ d) (hL2 : ∀ (v1 : Int32) (x : ab_X), L2 v1 x → EW MX7_fillRest 2 [(0, .ref 234), (1, .int v1)] [] (aS x) d bc bs (liV K)) (h : Lp2 (lX7_fillRest_14 v1 K L2) v2 x) : EW MX7_fillRest 14 [(0, .ref 234), (1, .int v1), (2, .int v2)] [] (aS x) d bc bs (liV K) := by
  refine Lp2.use (P := fun v2 x => EW MX7_fillRest 14 [(0, .ref 234), (1, .int v1), (2, .int v2)] [] (aS x) d bc bs (liV K)) (fun L14 v2 x hL14 h => ?_) v2 x h
  unfold lX7_fillRest_14 at h
  refine EW_iload_n (pc2 := 15) rfl dX7_fillRest_14 2 rfl ?_
  refine EW_aload_n (pc2 := 16) rfl dX7_fillRest_15 0 rfl ?_
  refine AW_geti ⟨gfRX7_71, rfl⟩ (pc2 := 19) rfl dX7_fillRest_16 q234 ?_
  refine EW_icmp_ge (tgt := 107) (pc2 := 22) rfl dX7_fillRest_19 (by decide) (fun q => ?_) (fun q => ?_)
  · replace h := h.1 q
    refine EW_iinc (v1 + 1) (pc2 := 110) rfl dX7_fillRest_107 1 rfl rfl (by decide) [1, 0, 2] [(0, .ref 234), (1, .int (v1 + 1)), (2, .int v2)] rfl ?_
    refine EW_goto (tgt := 2) dX7_fillRest_110 (by decide) ?_
    refine EW_ls [0, 1] rfl ?_
    exact hL2 (v1 + 1) x h
  · replace h := h.2 q
    refine EW_iload_n (pc2 := 23) rfl dX7_fillRest_22 1 rfl ?_
    refine EW_if_ne (tgt := 45) (pc2 := 26) rfl dX7_fillRest_23 (by decide) (fun q => ?_) (fun q => ?_)
    · replace h := h.1 q
      refine EW_ldc cnRX7_94 (pc2 := 47) rfl dX7_fillRest_45 ?_
      refine EW_istore_n (pc2 := 48) rfl dX7_fillRest_47 (by decide) [1, 2, 3, 0] [(0, .ref 234), (1, .int v1), (2, .int v2), (3, .int 1000000)] rfl ?_
      refine EW_iconst (pc2 := 49) (v := 0) rfl dX7_fillRest_48 (by decide) ?_
      refine EW_istore (pc2 := 51) rfl dX7_fillRest_49 (by decide) [1, 2, 3, 4, 0] [(0, .ref 234), (1, .int v1), (2, .int v2), (3, .int 1000000), (4, .int 0)] rfl ?_
      exact sX7_fillRest_51 v1 v2 1000000 0 x K L2 L14 d bc bs hdp hL2 hL14 h
    · replace h := h.2 q
      refine EW_aload_n (pc2 := 27) rfl dX7_fillRest_26 0 rfl ?_
      refine AW_getr (r := 1) ⟨gfRX7_36, rfl⟩ (pc2 := 30) rfl dX7_fillRest_27 q234 rfl ?_
      refine EW_aload_n (pc2 := 31) rfl dX7_fillRest_30 0 rfl ?_
      refine EW_iload_n (pc2 := 32) rfl dX7_fillRest_31 2 rfl ?_
      refine AW_invV (M' := MX7_cornerOf) [.int v2] (rest := [.ref 1]) mlRX7_108 okX7_cornerOf (pc2 := 35) rfl dX7_fillRest_32 rfl rfl (Nat.le_of_ble_eq_true rfl) (Nat.le_of_ble_eq_true rfl) (d' := 0) (by omega) q234 ⟨by decide, rfl⟩ (EW_mono (fun _ _ hr => ?_) (sX7_cornerOf v2  x _ _ 0 0 (Nat.le_refl _) h))
      obtain ⟨r1, rfl, rfl, h⟩ := hr
      refine EW_aload_n (pc2 := 36) rfl dX7_fillRest_35 0 rfl ?_
      refine AW_geti ⟨gfRX7_48, rfl⟩ (pc2 := 39) rfl dX7_fillRest_36 q234 ?_
      refine AW_invV (M' := MX6_walk) [.int r1, .int (x.1 234 8)] (rest := []) mlRX7_88 okX6_walk (pc2 := 42) rfl dX7_fillRest_39 rfl rfl (Nat.le_of_ble_eq_true rfl) (Nat.le_of_ble_eq_true rfl) (d' := 1) (by omega) q1 ⟨by decide, rfl⟩ (EW_mono (fun _ _ hr => ?_) (sX6_walk r1 (x.1 234 8)  x _ _ 0 0 (Nat.le_refl _) h))
      obtain ⟨r2, rfl, rfl, h⟩ := hr
      refine EW_goto (tgt := 47) dX7_fillRest_42 (by decide) ?_
      refine EW_istore_n (pc2 := 48) rfl dX7_fillRest_47 (by decide) [1, 2, 3, 0] [(0, .ref 234), (1, .int v1), (2, .int v2), (3, .int r2)] rfl ?_
      refine EW_iconst (pc2 := 49) (v := 0) rfl dX7_fillRest_48 (by decide) ?_
      refine EW_istore (pc2 := 51) rfl dX7_fillRest_49 (by decide) [1, 2, 3, 4, 0] [(0, .ref 234), (1, .int v1), (2, .int v2), (3, .int r2), (4, .int 0)] rfl ?_
      exact sX7_fillRest_51 v1 v2 r2 0 x K L2 L14 d bc bs hdp hL2 hL14 h
set_option maxHeartbeats 4000000 in
set_option maxRecDepth 100000 in
def lX7_fillRest_2  (K : ab_X → Prop)  (L2 : Int32 → ab_X → Prop) (v1 : Int32) (x : ab_X) : Prop := (((1 <<< ((x.1 234 5) &&& 31)) ≤ v1 → K x) ∧ (¬ (1 <<< ((x.1 234 5) &&& 31)) ≤ v1 → Lp2 (lX7_fillRest_14 v1 K L2) 0 x))
set_option maxHeartbeats 4000000 in
set_option maxRecDepth 100000 in
theorem sX7_fillRest_2 (v1 : Int32)  (x : ab_X) (K : ab_X → Prop)  (d bc bs : Nat) (hdp : 2 ≤ d)  (h : Lp2 (lX7_fillRest_2  K ) v1 x) : EW MX7_fillRest 2 [(0, .ref 234), (1, .int v1)] [] (aS x) d bc bs (liV K) := by
  refine Lp2.use (P := fun v1 x => EW MX7_fillRest 2 [(0, .ref 234), (1, .int v1)] [] (aS x) d bc bs (liV K)) (fun L2 v1 x hL2 h => ?_) v1 x h
  unfold lX7_fillRest_2 at h
  refine EW_iload_n (pc2 := 3) rfl dX7_fillRest_2 1 rfl ?_
  refine EW_iconst (pc2 := 4) (v := 1) rfl dX7_fillRest_3 (by decide) ?_
  refine EW_aload_n (pc2 := 5) rfl dX7_fillRest_4 0 rfl ?_
  refine AW_geti ⟨gfRX7_71, rfl⟩ (pc2 := 8) rfl dX7_fillRest_5 q234 ?_
  refine EW_ishl (pc2 := 9) rfl dX7_fillRest_8 ?_
  refine EW_icmp_ge (tgt := 113) (pc2 := 12) rfl dX7_fillRest_9 (by decide) (fun q => ?_) (fun q => ?_)
  · replace h := h.1 q
    exact EW_vret rfl dX7_fillRest_113 ⟨_, rfl, rfl, h⟩
  · replace h := h.2 q
    refine EW_iconst (pc2 := 13) (v := 0) rfl dX7_fillRest_12 (by decide) ?_
    refine EW_istore_n (pc2 := 14) rfl dX7_fillRest_13 (by decide) [1, 2, 0] [(0, .ref 234), (1, .int v1), (2, .int 0)] rfl ?_
    exact sX7_fillRest_14 v1 0 x K L2 d bc bs hdp hL2 h
set_option maxHeartbeats 4000000 in
set_option maxRecDepth 100000 in
def wX7_fillRest  (x : ab_X) (K : ab_X → Prop) : Prop := Lp2 (lX7_fillRest_2 K ) 0 x
set_option maxHeartbeats 4000000 in
set_option maxRecDepth 100000 in
theorem sX7_fillRest   (x : ab_X) (K : ab_X → Prop) (d bc bs : Nat) (hdp : 2 ≤ d) (h : wX7_fillRest  x K) : EW MX7_fillRest 0 [(0, .ref 234)] [] (aS x) d bc bs (liV K) := by
  unfold wX7_fillRest at h
  refine EW_iconst (pc2 := 1) (v := 0) rfl dX7_fillRest_0 (by decide) ?_
  refine EW_istore_n (pc2 := 2) rfl dX7_fillRest_1 (by decide) [1, 0] [(0, .ref 234), (1, .int 0)] rfl ?_
  exact sX7_fillRest_2 0 x K d bc bs hdp h
abbrev MX7_fillSteps : ab_M := (yX7_fillSteps, cX7_fillSteps, 3, none)
theorem dX7_fillSteps_0 : decode cX7_fillSteps 0 = .ok (.iconst 0, 1) := by decide +kernel
theorem dX7_fillSteps_1 : decode cX7_fillSteps 1 = .ok (.istore_n 1, 1) := by decide +kernel
theorem dX7_fillSteps_2 : decode cX7_fillSteps 2 = .ok (.iload_n 1, 1) := by decide +kernel
theorem dX7_fillSteps_3 : decode cX7_fillSteps 3 = .ok (.aload_n 0, 1) := by decide +kernel
theorem dX7_fillSteps_4 : decode cX7_fillSteps 4 = .ok (.getfield 71, 3) := by decide +kernel
theorem dX7_fillSteps_7 : decode cX7_fillSteps 7 = .ok (.if_icmp .ge 84, 3) := by decide +kernel
theorem dX7_fillSteps_10 : decode cX7_fillSteps 10 = .ok (.iconst 0, 1) := by decide +kernel
theorem dX7_fillSteps_11 : decode cX7_fillSteps 11 = .ok (.istore_n 2, 1) := by decide +kernel
theorem dX7_fillSteps_12 : decode cX7_fillSteps 12 = .ok (.iload_n 2, 1) := by decide +kernel
theorem dX7_fillSteps_13 : decode cX7_fillSteps 13 = .ok (.aload_n 0, 1) := by decide +kernel
theorem dX7_fillSteps_14 : decode cX7_fillSteps 14 = .ok (.getfield 71, 3) := by decide +kernel
theorem dX7_fillSteps_17 : decode cX7_fillSteps 17 = .ok (.if_icmp .ge 40, 3) := by decide +kernel
theorem dX7_fillSteps_20 : decode cX7_fillSteps 20 = .ok (.aload_n 0, 1) := by decide +kernel
theorem dX7_fillSteps_21 : decode cX7_fillSteps 21 = .ok (.getfield 24, 3) := by decide +kernel
theorem dX7_fillSteps_24 : decode cX7_fillSteps 24 = .ok (.iload_n 2, 1) := by decide +kernel
theorem dX7_fillSteps_25 : decode cX7_fillSteps 25 = .ok (.bipush 8, 2) := by decide +kernel
theorem dX7_fillSteps_27 : decode cX7_fillSteps 27 = .ok (.imul, 1) := by decide +kernel
theorem dX7_fillSteps_28 : decode cX7_fillSteps 28 = .ok (.iload_n 1, 1) := by decide +kernel
theorem dX7_fillSteps_29 : decode cX7_fillSteps 29 = .ok (.iadd, 1) := by decide +kernel
theorem dX7_fillSteps_30 : decode cX7_fillSteps 30 = .ok (.aload_n 0, 1) := by decide +kernel
theorem dX7_fillSteps_31 : decode cX7_fillSteps 31 = .ok (.getfield 36, 3) := by decide +kernel
theorem dX7_fillSteps_34 : decode cX7_fillSteps 34 = .ok (.aload_n 0, 1) := by decide +kernel
theorem dX7_fillSteps_35 : decode cX7_fillSteps 35 = .ok (.iload_n 2, 1) := by decide +kernel
theorem dX7_fillSteps_36 : decode cX7_fillSteps 36 = .ok (.invokevirtual 108, 3) := by decide +kernel
theorem dX7_fillSteps_39 : decode cX7_fillSteps 39 = .ok (.aload_n 0, 1) := by decide +kernel
theorem dX7_fillSteps_40 : decode cX7_fillSteps 40 = .ok (.iload_n 1, 1) := by decide +kernel
theorem dX7_fillSteps_41 : decode cX7_fillSteps 41 = .ok (.invokevirtual 108, 3) := by decide +kernel
theorem dX7_fillSteps_44 : decode cX7_fillSteps 44 = .ok (.invokevirtual 88, 3) := by decide +kernel
theorem dX7_fillSteps_47 : decode cX7_fillSteps 47 = .ok (.bipush 10, 2) := by decide +kernel
theorem dX7_fillSteps_49 : decode cX7_fillSteps 49 = .ok (.iadd, 1) := by decide +kernel
theorem dX7_fillSteps_50 : decode cX7_fillSteps 50 = .ok (.iastore, 1) := by decide +kernel
theorem dX7_fillSteps_51 : decode cX7_fillSteps 51 = .ok (.iinc 2 1, 3) := by decide +kernel
theorem dX7_fillSteps_54 : decode cX7_fillSteps 54 = .ok (.goto (-42), 3) := by decide +kernel
theorem dX7_fillSteps_57 : decode cX7_fillSteps 57 = .ok (.aload_n 0, 1) := by decide +kernel
theorem dX7_fillSteps_58 : decode cX7_fillSteps 58 = .ok (.getfield 24, 3) := by decide +kernel
theorem dX7_fillSteps_61 : decode cX7_fillSteps 61 = .ok (.bipush 64, 2) := by decide +kernel
theorem dX7_fillSteps_63 : decode cX7_fillSteps 63 = .ok (.iload_n 1, 1) := by decide +kernel
theorem dX7_fillSteps_64 : decode cX7_fillSteps 64 = .ok (.iadd, 1) := by decide +kernel
theorem dX7_fillSteps_65 : decode cX7_fillSteps 65 = .ok (.aload_n 0, 1) := by decide +kernel
theorem dX7_fillSteps_66 : decode cX7_fillSteps 66 = .ok (.getfield 36, 3) := by decide +kernel
theorem dX7_fillSteps_69 : decode cX7_fillSteps 69 = .ok (.aload_n 0, 1) := by decide +kernel
theorem dX7_fillSteps_70 : decode cX7_fillSteps 70 = .ok (.getfield 48, 3) := by decide +kernel
theorem dX7_fillSteps_73 : decode cX7_fillSteps 73 = .ok (.aload_n 0, 1) := by decide +kernel
theorem dX7_fillSteps_74 : decode cX7_fillSteps 74 = .ok (.iload_n 1, 1) := by decide +kernel
theorem dX7_fillSteps_75 : decode cX7_fillSteps 75 = .ok (.invokevirtual 108, 3) := by decide +kernel
theorem dX7_fillSteps_78 : decode cX7_fillSteps 78 = .ok (.invokevirtual 88, 3) := by decide +kernel
theorem dX7_fillSteps_81 : decode cX7_fillSteps 81 = .ok (.bipush 10, 2) := by decide +kernel
theorem dX7_fillSteps_83 : decode cX7_fillSteps 83 = .ok (.iadd, 1) := by decide +kernel
theorem dX7_fillSteps_84 : decode cX7_fillSteps 84 = .ok (.iastore, 1) := by decide +kernel
theorem dX7_fillSteps_85 : decode cX7_fillSteps 85 = .ok (.iinc 1 1, 3) := by decide +kernel
theorem dX7_fillSteps_88 : decode cX7_fillSteps 88 = .ok (.goto (-86), 3) := by decide +kernel
theorem dX7_fillSteps_91 : decode cX7_fillSteps 91 = .ok (.return_, 1) := by decide +kernel
theorem okX7_fillSteps : ab_okM MX7_fillSteps 0 := ⟨by decide, ⟨by decide, by decide⟩, ab_in 1613 (by decide +kernel) (by decide +kernel), ab_in 98 (by decide +kernel) (by decide +kernel), by decide +kernel, by decide⟩
set_option maxHeartbeats 4000000 in
set_option maxRecDepth 100000 in
def lX7_fillSteps_12 (v1 : Int32) (K : ab_X → Prop) (L2 : Int32 → ab_X → Prop) (L12 : Int32 → ab_X → Prop) (v2 : Int32) (x : ab_X) : Prop := (((x.1 234 5) ≤ v2 → wX7_cornerOf v1 x (fun r1 => wX6_walk (x.1 234 8) r1 x (fun r2 => (vp_in (64 + v1) 72 ∧ L2 (v1 + 1) (wr x 239 (Int32.toNatClampNeg (64 + v1)) (r2 + 10)))))) ∧ (¬ (x.1 234 5) ≤ v2 → wX7_cornerOf v2 x (fun r4 => wX7_cornerOf v1 x (fun r5 => wX6_walk r4 r5 x (fun r6 => (vp_in ((v2 * 8) + v1) 72 ∧ L12 (v2 + 1) (wr x 239 (Int32.toNatClampNeg ((v2 * 8) + v1)) (r6 + 10))))))))
set_option maxHeartbeats 4000000 in
set_option maxRecDepth 100000 in
theorem sX7_fillSteps_12 (v1 : Int32) (v2 : Int32)  (x : ab_X) (K : ab_X → Prop) (L2 : Int32 → ab_X → Prop) (d bc bs : Nat) (hdp : 2 ≤ d) (hL2 : ∀ (v1 : Int32) (x : ab_X), L2 v1 x → EW MX7_fillSteps 2 [(0, .ref 234), (1, .int v1)] [] (aS x) d bc bs (liV K)) (h : Lp2 (lX7_fillSteps_12 v1 K L2) v2 x) : EW MX7_fillSteps 12 [(0, .ref 234), (1, .int v1), (2, .int v2)] [] (aS x) d bc bs (liV K) := by
  refine Lp2.use (P := fun v2 x => EW MX7_fillSteps 12 [(0, .ref 234), (1, .int v1), (2, .int v2)] [] (aS x) d bc bs (liV K)) (fun L12 v2 x hL12 h => ?_) v2 x h
  unfold lX7_fillSteps_12 at h
  refine EW_iload_n (pc2 := 13) rfl dX7_fillSteps_12 2 rfl ?_
  refine EW_aload_n (pc2 := 14) rfl dX7_fillSteps_13 0 rfl ?_
  refine AW_geti ⟨gfRX7_71, rfl⟩ (pc2 := 17) rfl dX7_fillSteps_14 q234 ?_
  refine EW_icmp_ge (tgt := 57) (pc2 := 20) rfl dX7_fillSteps_17 (by decide) (fun q => ?_) (fun q => ?_)
  · replace h := h.1 q
    refine EW_aload_n (pc2 := 58) rfl dX7_fillSteps_57 0 rfl ?_
    refine AW_getr (r := 239) ⟨gfRX7_24, rfl⟩ (pc2 := 61) rfl dX7_fillSteps_58 q234 rfl ?_
    refine EW_bipush (pc2 := 63) (v := 64) rfl dX7_fillSteps_61 (by decide) ?_
    refine EW_iload_n (pc2 := 64) rfl dX7_fillSteps_63 1 rfl ?_
    refine EW_iadd (pc2 := 65) rfl dX7_fillSteps_64 ?_
    refine EW_aload_n (pc2 := 66) rfl dX7_fillSteps_65 0 rfl ?_
    refine AW_getr (r := 1) ⟨gfRX7_36, rfl⟩ (pc2 := 69) rfl dX7_fillSteps_66 q234 rfl ?_
    refine EW_aload_n (pc2 := 70) rfl dX7_fillSteps_69 0 rfl ?_
    refine AW_geti ⟨gfRX7_48, rfl⟩ (pc2 := 73) rfl dX7_fillSteps_70 q234 ?_
    refine EW_aload_n (pc2 := 74) rfl dX7_fillSteps_73 0 rfl ?_
    refine EW_iload_n (pc2 := 75) rfl dX7_fillSteps_74 1 rfl ?_
    refine AW_invV (M' := MX7_cornerOf) [.int v1] (rest := [.int (x.1 234 8), .ref 1, .int (64 + v1), .ref 239]) mlRX7_108 okX7_cornerOf (pc2 := 78) rfl dX7_fillSteps_75 rfl rfl (Nat.le_of_ble_eq_true rfl) (Nat.le_of_ble_eq_true rfl) (d' := 0) (by omega) q234 ⟨by decide, rfl⟩ (EW_mono (fun _ _ hr => ?_) (sX7_cornerOf v1  x _ _ 0 0 (Nat.le_refl _) h))
    obtain ⟨r1, rfl, rfl, h⟩ := hr
    refine AW_invV (M' := MX6_walk) [.int (x.1 234 8), .int r1] (rest := [.int (64 + v1), .ref 239]) mlRX7_88 okX6_walk (pc2 := 81) rfl dX7_fillSteps_78 rfl rfl (Nat.le_of_ble_eq_true rfl) (Nat.le_of_ble_eq_true rfl) (d' := 1) (by omega) q1 ⟨by decide, rfl⟩ (EW_mono (fun _ _ hr => ?_) (sX6_walk (x.1 234 8) r1  x _ _ 0 0 (Nat.le_refl _) h))
    obtain ⟨r2, rfl, rfl, h⟩ := hr
    refine EW_bipush (pc2 := 83) (v := 10) rfl dX7_fillSteps_81 (by decide) ?_
    refine EW_iadd (pc2 := 84) rfl dX7_fillSteps_83 ?_
    obtain ⟨b3, h⟩ := h
    refine AW_iast (pc2 := 85) rfl dX7_fillSteps_84 q239 b3 ?_
    refine EW_iinc (v1 + 1) (pc2 := 88) rfl dX7_fillSteps_85 1 rfl rfl (by decide) [1, 0, 2] [(0, .ref 234), (1, .int (v1 + 1)), (2, .int v2)] rfl ?_
    refine EW_goto (tgt := 2) dX7_fillSteps_88 (by decide) ?_
    refine EW_ls [0, 1] rfl ?_
    exact hL2 (v1 + 1) (wr x 239 (Int32.toNatClampNeg (64 + v1)) (r2 + 10)) h
  · replace h := h.2 q
    refine EW_aload_n (pc2 := 21) rfl dX7_fillSteps_20 0 rfl ?_
    refine AW_getr (r := 239) ⟨gfRX7_24, rfl⟩ (pc2 := 24) rfl dX7_fillSteps_21 q234 rfl ?_
    refine EW_iload_n (pc2 := 25) rfl dX7_fillSteps_24 2 rfl ?_
    refine EW_bipush (pc2 := 27) (v := 8) rfl dX7_fillSteps_25 (by decide) ?_
    refine EW_imul (pc2 := 28) rfl dX7_fillSteps_27 ?_
    refine EW_iload_n (pc2 := 29) rfl dX7_fillSteps_28 1 rfl ?_
    refine EW_iadd (pc2 := 30) rfl dX7_fillSteps_29 ?_
    refine EW_aload_n (pc2 := 31) rfl dX7_fillSteps_30 0 rfl ?_
    refine AW_getr (r := 1) ⟨gfRX7_36, rfl⟩ (pc2 := 34) rfl dX7_fillSteps_31 q234 rfl ?_
    refine EW_aload_n (pc2 := 35) rfl dX7_fillSteps_34 0 rfl ?_
    refine EW_iload_n (pc2 := 36) rfl dX7_fillSteps_35 2 rfl ?_
    refine AW_invV (M' := MX7_cornerOf) [.int v2] (rest := [.ref 1, .int ((v2 * 8) + v1), .ref 239]) mlRX7_108 okX7_cornerOf (pc2 := 39) rfl dX7_fillSteps_36 rfl rfl (Nat.le_of_ble_eq_true rfl) (Nat.le_of_ble_eq_true rfl) (d' := 0) (by omega) q234 ⟨by decide, rfl⟩ (EW_mono (fun _ _ hr => ?_) (sX7_cornerOf v2  x _ _ 0 0 (Nat.le_refl _) h))
    obtain ⟨r4, rfl, rfl, h⟩ := hr
    refine EW_aload_n (pc2 := 40) rfl dX7_fillSteps_39 0 rfl ?_
    refine EW_iload_n (pc2 := 41) rfl dX7_fillSteps_40 1 rfl ?_
    refine AW_invV (M' := MX7_cornerOf) [.int v1] (rest := [.int r4, .ref 1, .int ((v2 * 8) + v1), .ref 239]) mlRX7_108 okX7_cornerOf (pc2 := 44) rfl dX7_fillSteps_41 rfl rfl (Nat.le_of_ble_eq_true rfl) (Nat.le_of_ble_eq_true rfl) (d' := 0) (by omega) q234 ⟨by decide, rfl⟩ (EW_mono (fun _ _ hr => ?_) (sX7_cornerOf v1  x _ _ 0 0 (Nat.le_refl _) h))
    obtain ⟨r5, rfl, rfl, h⟩ := hr
    refine AW_invV (M' := MX6_walk) [.int r4, .int r5] (rest := [.int ((v2 * 8) + v1), .ref 239]) mlRX7_88 okX6_walk (pc2 := 47) rfl dX7_fillSteps_44 rfl rfl (Nat.le_of_ble_eq_true rfl) (Nat.le_of_ble_eq_true rfl) (d' := 1) (by omega) q1 ⟨by decide, rfl⟩ (EW_mono (fun _ _ hr => ?_) (sX6_walk r4 r5  x _ _ 0 0 (Nat.le_refl _) h))
    obtain ⟨r6, rfl, rfl, h⟩ := hr
    refine EW_bipush (pc2 := 49) (v := 10) rfl dX7_fillSteps_47 (by decide) ?_
    refine EW_iadd (pc2 := 50) rfl dX7_fillSteps_49 ?_
    obtain ⟨b7, h⟩ := h
    refine AW_iast (pc2 := 51) rfl dX7_fillSteps_50 q239 b7 ?_
    refine EW_iinc (v2 + 1) (pc2 := 54) rfl dX7_fillSteps_51 2 rfl rfl (by decide) [1, 2, 0] [(0, .ref 234), (1, .int v1), (2, .int (v2 + 1))] rfl ?_
    refine EW_goto (tgt := 12) dX7_fillSteps_54 (by decide) ?_
    exact hL12 (v2 + 1) (wr x 239 (Int32.toNatClampNeg ((v2 * 8) + v1)) (r6 + 10)) h
set_option maxHeartbeats 4000000 in
set_option maxRecDepth 100000 in
def lX7_fillSteps_2  (K : ab_X → Prop)  (L2 : Int32 → ab_X → Prop) (v1 : Int32) (x : ab_X) : Prop := (((x.1 234 5) ≤ v1 → K x) ∧ (¬ (x.1 234 5) ≤ v1 → Lp2 (lX7_fillSteps_12 v1 K L2) 0 x))
set_option maxHeartbeats 4000000 in
set_option maxRecDepth 100000 in
theorem sX7_fillSteps_2 (v1 : Int32)  (x : ab_X) (K : ab_X → Prop)  (d bc bs : Nat) (hdp : 2 ≤ d)  (h : Lp2 (lX7_fillSteps_2  K ) v1 x) : EW MX7_fillSteps 2 [(0, .ref 234), (1, .int v1)] [] (aS x) d bc bs (liV K) := by
  refine Lp2.use (P := fun v1 x => EW MX7_fillSteps 2 [(0, .ref 234), (1, .int v1)] [] (aS x) d bc bs (liV K)) (fun L2 v1 x hL2 h => ?_) v1 x h
  unfold lX7_fillSteps_2 at h
  refine EW_iload_n (pc2 := 3) rfl dX7_fillSteps_2 1 rfl ?_
  refine EW_aload_n (pc2 := 4) rfl dX7_fillSteps_3 0 rfl ?_
  refine AW_geti ⟨gfRX7_71, rfl⟩ (pc2 := 7) rfl dX7_fillSteps_4 q234 ?_
  refine EW_icmp_ge (tgt := 91) (pc2 := 10) rfl dX7_fillSteps_7 (by decide) (fun q => ?_) (fun q => ?_)
  · replace h := h.1 q
    exact EW_vret rfl dX7_fillSteps_91 ⟨_, rfl, rfl, h⟩
  · replace h := h.2 q
    refine EW_iconst (pc2 := 11) (v := 0) rfl dX7_fillSteps_10 (by decide) ?_
    refine EW_istore_n (pc2 := 12) rfl dX7_fillSteps_11 (by decide) [1, 2, 0] [(0, .ref 234), (1, .int v1), (2, .int 0)] rfl ?_
    exact sX7_fillSteps_12 v1 0 x K L2 d bc bs hdp hL2 h
set_option maxHeartbeats 4000000 in
set_option maxRecDepth 100000 in
def wX7_fillSteps  (x : ab_X) (K : ab_X → Prop) : Prop := Lp2 (lX7_fillSteps_2 K ) 0 x
set_option maxHeartbeats 4000000 in
set_option maxRecDepth 100000 in
theorem sX7_fillSteps   (x : ab_X) (K : ab_X → Prop) (d bc bs : Nat) (hdp : 2 ≤ d) (h : wX7_fillSteps  x K) : EW MX7_fillSteps 0 [(0, .ref 234)] [] (aS x) d bc bs (liV K) := by
  unfold wX7_fillSteps at h
  refine EW_iconst (pc2 := 1) (v := 0) rfl dX7_fillSteps_0 (by decide) ?_
  refine EW_istore_n (pc2 := 2) rfl dX7_fillSteps_1 (by decide) [1, 0] [(0, .ref 234), (1, .int 0)] rfl ?_
  exact sX7_fillSteps_2 0 x K d bc bs hdp h
