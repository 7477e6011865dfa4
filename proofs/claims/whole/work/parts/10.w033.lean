theorem mlRX7_164 : Cond.methodLink RX7 164 yX7_choose ∈ ab_G ∧ Cond.instanceMethod yX7_choose ∈ ab_G ∧ Cond.selects RX7 yX7_choose yX7_choose ∈ ab_G := ⟨ab_in 1659 (by decide +kernel) (by decide +kernel), ab_in 1661 (by decide +kernel) (by decide +kernel), ab_in 8 (by decide +kernel) (by decide +kernel)⟩
theorem mlRX7_168 : Cond.methodLink RX7 168 yX7_weigh ∈ ab_G ∧ Cond.instanceMethod yX7_weigh ∈ ab_G ∧ Cond.selects RX7 yX7_weigh yX7_weigh ∈ ab_G := ⟨ab_in 1663 (by decide +kernel) (by decide +kernel), ab_in 1664 (by decide +kernel) (by decide +kernel), ab_in 1665 (by decide +kernel) (by decide +kernel)⟩
abbrev MX7_choose : ab_M := (yX7_choose, cX7_choose, 5, none)
theorem dX7_choose_0 : decode cX7_choose 0 = .ok (.iload_n 1, 1) := by decide +kernel
theorem dX7_choose_1 : decode cX7_choose 1 = .ok (.ifCond .gt 9, 3) := by decide +kernel
theorem dX7_choose_4 : decode cX7_choose 4 = .ok (.aload_n 0, 1) := by decide +kernel
theorem dX7_choose_5 : decode cX7_choose 5 = .ok (.iload_n 3, 1) := by decide +kernel
theorem dX7_choose_6 : decode cX7_choose 6 = .ok (.invokevirtual 168, 3) := by decide +kernel
theorem dX7_choose_9 : decode cX7_choose 9 = .ok (.return_, 1) := by decide +kernel
theorem dX7_choose_10 : decode cX7_choose 10 = .ok (.iload_n 2, 1) := by decide +kernel
theorem dX7_choose_11 : decode cX7_choose 11 = .ok (.istore 4, 2) := by decide +kernel
theorem dX7_choose_13 : decode cX7_choose 13 = .ok (.iload 4, 2) := by decide +kernel
theorem dX7_choose_15 : decode cX7_choose 15 = .ok (.bipush 20, 2) := by decide +kernel
theorem dX7_choose_17 : decode cX7_choose 17 = .ok (.iload_n 1, 1) := by decide +kernel
theorem dX7_choose_18 : decode cX7_choose 18 = .ok (.isub, 1) := by decide +kernel
theorem dX7_choose_19 : decode cX7_choose 19 = .ok (.if_icmp .gt 26, 3) := by decide +kernel
theorem dX7_choose_22 : decode cX7_choose 22 = .ok (.aload_n 0, 1) := by decide +kernel
theorem dX7_choose_23 : decode cX7_choose 23 = .ok (.iload_n 1, 1) := by decide +kernel
theorem dX7_choose_24 : decode cX7_choose 24 = .ok (.iconst 1, 1) := by decide +kernel
theorem dX7_choose_25 : decode cX7_choose 25 = .ok (.isub, 1) := by decide +kernel
theorem dX7_choose_26 : decode cX7_choose 26 = .ok (.iload 4, 2) := by decide +kernel
theorem dX7_choose_28 : decode cX7_choose 28 = .ok (.iconst 1, 1) := by decide +kernel
theorem dX7_choose_29 : decode cX7_choose 29 = .ok (.iadd, 1) := by decide +kernel
theorem dX7_choose_30 : decode cX7_choose 30 = .ok (.iload_n 3, 1) := by decide +kernel
theorem dX7_choose_31 : decode cX7_choose 31 = .ok (.iconst 1, 1) := by decide +kernel
theorem dX7_choose_32 : decode cX7_choose 32 = .ok (.iload 4, 2) := by decide +kernel
theorem dX7_choose_34 : decode cX7_choose 34 = .ok (.ishl, 1) := by decide +kernel
theorem dX7_choose_35 : decode cX7_choose 35 = .ok (.ior, 1) := by decide +kernel
theorem dX7_choose_36 : decode cX7_choose 36 = .ok (.invokevirtual 164, 3) := by decide +kernel
theorem dX7_choose_39 : decode cX7_choose 39 = .ok (.iinc 4 1, 3) := by decide +kernel
theorem dX7_choose_42 : decode cX7_choose 42 = .ok (.goto (-29), 3) := by decide +kernel
theorem dX7_choose_45 : decode cX7_choose 45 = .ok (.return_, 1) := by decide +kernel
theorem okX7_choose : ab_okM MX7_choose 3 := ⟨by decide, ⟨by decide, by decide⟩, ab_in 1662 (by decide +kernel) (by decide +kernel), ab_in 98 (by decide +kernel) (by decide +kernel), by decide +kernel, by decide⟩
set_option maxHeartbeats 4000000 in
set_option maxRecDepth 100000 in
def lX7_choose_13 (RX7_choose : Int32 → Int32 → Int32 → ab_X → (ab_X → Prop) → Prop) (v1 : Int32) (v3 : Int32) (K : ab_X → Prop)  (L13 : Int32 → ab_X → Prop) (v4 : Int32) (x : ab_X) : Prop := (((20 - v1) < v4 → K x) ∧ (¬ (20 - v1) < v4 → RX7_choose (v1 - 1) (v4 + 1) (v3 ||| (1 <<< (v4 &&& 31))) x (fun x2 => L13 (v4 + 1) x2)))
set_option maxHeartbeats 4000000 in
set_option maxRecDepth 100000 in
theorem sX7_choose_13 (RX7_choose : Int32 → Int32 → Int32 → ab_X → (ab_X → Prop) → Prop) (v1 : Int32) (v3 : Int32) (v4 : Int32)  (x : ab_X) (K : ab_X → Prop)  (d bc bs : Nat) (hdp : 3 ≤ d) (dr : Nat) (hRX7_choose : ∀ (v1 : Int32) (v2 : Int32) (v3 : Int32)  (x : ab_X) (K : ab_X → Prop), RX7_choose v1 v2 v3 x K → EW MX7_choose 0 [(0, .ref 234), (1, .int v1), (2, .int v2), (3, .int v3)] [] (aS x) dr 0 0 (liV K)) (hdr : dr + 1 ≤ d)  (h : Lp2 (lX7_choose_13 RX7_choose v1 v3 K ) v4 x) : EW MX7_choose 13 [(0, .ref 234), (1, .int v1), (3, .int v3), (4, .int v4)] [] (aS x) d bc bs (liV K) := by
  refine Lp2.use (P := fun v4 x => EW MX7_choose 13 [(0, .ref 234), (1, .int v1), (3, .int v3), (4, .int v4)] [] (aS x) d bc bs (liV K)) (fun L13 v4 x hL13 h => ?_) v4 x h
  unfold lX7_choose_13 at h
  refine EW_iload (pc2 := 15) rfl dX7_choose_13 3 rfl ?_
  refine EW_bipush (pc2 := 17) (v := 20) rfl dX7_choose_15 (by decide) ?_
  refine EW_iload_n (pc2 := 18) rfl dX7_choose_17 1 rfl ?_
  refine EW_isub (pc2 := 19) rfl dX7_choose_18 ?_
  refine EW_icmp_gt (tgt := 45) (pc2 := 22) rfl dX7_choose_19 (by decide) (fun q => ?_) (fun q => ?_)
  · replace h := h.1 q
    exact EW_vret rfl dX7_choose_45 ⟨_, rfl, rfl, h⟩
  · replace h := h.2 q
    refine EW_aload_n (pc2 := 23) rfl dX7_choose_22 0 rfl ?_
    refine EW_iload_n (pc2 := 24) rfl dX7_choose_23 1 rfl ?_
    refine EW_iconst (pc2 := 25) (v := 1) rfl dX7_choose_24 (by decide) ?_
    refine EW_isub (pc2 := 26) rfl dX7_choose_25 ?_
    refine EW_iload (pc2 := 28) rfl dX7_choose_26 3 rfl ?_
    refine EW_iconst (pc2 := 29) (v := 1) rfl dX7_choose_28 (by decide) ?_
    refine EW_iadd (pc2 := 30) rfl dX7_choose_29 ?_
    refine EW_iload_n (pc2 := 31) rfl dX7_choose_30 2 rfl ?_
    refine EW_iconst (pc2 := 32) (v := 1) rfl dX7_choose_31 (by decide) ?_
    refine EW_iload (pc2 := 34) rfl dX7_choose_32 3 rfl ?_
    refine EW_ishl (pc2 := 35) rfl dX7_choose_34 ?_
    refine EW_ior (pc2 := 36) rfl dX7_choose_35 ?_
    refine AW_invV (M' := MX7_choose) [.int (v1 - 1), .int (v4 + 1), .int (v3 ||| (1 <<< (v4 &&& 31)))] (rest := []) mlRX7_164 okX7_choose (pc2 := 39) rfl dX7_choose_36 rfl rfl (Nat.le_of_ble_eq_true rfl) (Nat.le_of_ble_eq_true rfl) (d' := dr) (by omega) q234 ⟨by decide, rfl⟩ (EW_mono (fun _ _ hr => ?_) (hRX7_choose (v1 - 1) (v4 + 1) (v3 ||| (1 <<< (v4 &&& 31)))  x _  h))
    obtain ⟨x2, rfl, rfl, h⟩ := hr
    refine EW_iinc (v4 + 1) (pc2 := 42) rfl dX7_choose_39 3 rfl rfl (by decide) [1, 2, 3, 0] [(0, .ref 234), (1, .int v1), (3, .int v3), (4, .int (v4 + 1))] rfl ?_
    refine EW_goto (tgt := 13) dX7_choose_42 (by decide) ?_
    exact hL13 (v4 + 1) x2 h
set_option maxHeartbeats 4000000 in
set_option maxRecDepth 100000 in
def bX7_choose (RX7_choose : Int32 → Int32 → Int32 → ab_X → (ab_X → Prop) → Prop) (v1 : Int32) (v2 : Int32) (v3 : Int32) (x : ab_X) (K : ab_X → Prop) : Prop := ((0 < v1 → Lp2 (lX7_choose_13 RX7_choose v1 v3 K ) v2 x) ∧ (¬ 0 < v1 → wX7_weigh v3 x (fun x1 => K x1)))
set_option maxHeartbeats 4000000 in
set_option maxRecDepth 100000 in
theorem bsX7_choose (RX7_choose : Int32 → Int32 → Int32 → ab_X → (ab_X → Prop) → Prop) (v1 : Int32) (v2 : Int32) (v3 : Int32)  (x : ab_X) (K : ab_X → Prop) (d bc bs : Nat) (hdp : 3 ≤ d) (dr : Nat) (hRX7_choose : ∀ (v1 : Int32) (v2 : Int32) (v3 : Int32)  (x : ab_X) (K : ab_X → Prop), RX7_choose v1 v2 v3 x K → EW MX7_choose 0 [(0, .ref 234), (1, .int v1), (2, .int v2), (3, .int v3)] [] (aS x) dr 0 0 (liV K)) (hdr : dr + 1 ≤ d) (h : bX7_choose RX7_choose v1 v2 v3 x K) : EW MX7_choose 0 [(0, .ref 234), (1, .int v1), (2, .int v2), (3, .int v3)] [] (aS x) d bc bs (liV K) := by
  unfold bX7_choose at h
  refine EW_iload_n (pc2 := 1) rfl dX7_choose_0 1 rfl ?_
  refine EW_if_gt (tgt := 10) (pc2 := 4) rfl dX7_choose_1 (by decide) (fun q => ?_) (fun q => ?_)
  · replace h := h.1 q
    refine EW_iload_n (pc2 := 11) rfl dX7_choose_10 2 rfl ?_
    refine EW_istore (pc2 := 13) rfl dX7_choose_11 (by decide) [1, 2, 3, 4, 0] [(0, .ref 234), (1, .int v1), (2, .int v2), (3, .int v3), (4, .int v2)] rfl ?_
    refine EW_ls [0, 1, 3, 4] rfl ?_
    exact sX7_choose_13 RX7_choose v1 v3 v2 x K d bc bs hdp dr hRX7_choose hdr h
  · replace h := h.2 q
    refine EW_aload_n (pc2 := 5) rfl dX7_choose_4 0 rfl ?_
    refine EW_iload_n (pc2 := 6) rfl dX7_choose_5 3 rfl ?_
    refine AW_invV (M' := MX7_weigh) [.int v3] (rest := []) mlRX7_168 okX7_weigh (pc2 := 9) rfl dX7_choose_6 rfl rfl (Nat.le_of_ble_eq_true rfl) (Nat.le_of_ble_eq_true rfl) (d' := 2) (by omega) q234 ⟨by decide, rfl⟩ (EW_mono (fun _ _ hr => ?_) (sX7_weigh v3  x _ _ 0 0 (Nat.le_refl _) h))
    obtain ⟨x1, rfl, rfl, h⟩ := hr
    exact EW_vret rfl dX7_choose_9 ⟨_, rfl, rfl, h⟩
def famX7_choose : Nat → (Int32 → Int32 → Int32 → ab_X → (ab_X → Prop) → Prop)
  | 0 => ((fun v1 v2 v3 x K => False))
  | n + 1 => ((fun v1 v2 v3 x K => bX7_choose (famX7_choose n) v1 v2 v3 x K))
set_option maxHeartbeats 4000000 in
theorem famX7_chooseS : ∀ n, (∀ (v1 : Int32) (v2 : Int32) (v3 : Int32)  (x : ab_X) (K : ab_X → Prop), (famX7_choose n) v1 v2 v3 x K → EW MX7_choose 0 [(0, .ref 234), (1, .int v1), (2, .int v2), (3, .int v3)] [] (aS x) (3 + n) 0 0 (liV K)) := by
  intro n
  induction n with
  | zero => exact fun v1 v2 v3  x K h => False.elim h
  | succ n ih =>
    have i0 := ih
    exact fun v1 v2 v3  x K h => bsX7_choose _ v1 v2 v3  x K (3 + (n + 1)) 0 0 (by omega) (3 + n) i0 (by omega) h
def wX7_choose (v1 : Int32) (v2 : Int32) (v3 : Int32) (x : ab_X) (K : ab_X → Prop) : Prop := ∃ n, n ≤ 100 ∧ (famX7_choose n) v1 v2 v3 x K
theorem sX7_choose (v1 : Int32) (v2 : Int32) (v3 : Int32)  (x : ab_X) (K : ab_X → Prop) (d bc bs : Nat) (hdp : 104 ≤ d) (h : wX7_choose v1 v2 v3 x K) : EW MX7_choose 0 [(0, .ref 234), (1, .int v1), (2, .int v2), (3, .int v3)] [] (aS x) d bc bs (liV K) := by
  obtain ⟨n, hn, h⟩ := h
  cases n with
  | zero => exact False.elim h
  | succ n =>
    have i0 := famX7_chooseS n
    exact bsX7_choose _ v1 v2 v3  x K d bc bs (by omega) (3 + n) i0 (by omega) h
theorem gfRX7_146 : ab_L RX7 146 0 5 := ⟨by decide, by decide, ab_in 553 (by decide +kernel) (by decide +kernel)⟩
theorem gfRX7_151 : ab_L RX7 151 0 4 := ⟨by decide, by decide, ab_in 550 (by decide +kernel) (by decide +kernel)⟩
theorem gfRX7_155 : ab_L RX7 155 1 0 := ⟨by decide, by decide, ab_in 506 (by decide +kernel) (by decide +kernel)⟩
theorem mlRX7_137 : Cond.methodLink RX7 137 yX7_findNear ∈ ab_G ∧ Cond.instanceMethod yX7_findNear ∈ ab_G ∧ Cond.selects RX7 yX7_findNear yX7_findNear ∈ ab_G := ⟨ab_in 1654 (by decide +kernel) (by decide +kernel), ab_in 1655 (by decide +kernel) (by decide +kernel), ab_in 1656 (by decide +kernel) (by decide +kernel)⟩
theorem mlRX7_140 : Cond.methodLink RX7 140 yJ7_fill_53178 ∈ ab_G ∧ Cond.static yJ7_fill_53178 ∈ ab_G := ⟨ab_in 1658 (by decide +kernel) (by decide +kernel), ab_in 128 (by decide +kernel) (by decide +kernel)⟩
abbrev MX7_makePlan : ab_M := (yX7_makePlan, cX7_makePlan, 5, none)
theorem dX7_makePlan_0 : decode cX7_makePlan 0 = .ok (.aload_n 0, 1) := by decide +kernel
theorem dX7_makePlan_1 : decode cX7_makePlan 1 = .ok (.iload_n 2, 1) := by decide +kernel
theorem dX7_makePlan_2 : decode cX7_makePlan 2 = .ok (.invokevirtual 137, 3) := by decide +kernel
theorem dX7_makePlan_5 : decode cX7_makePlan 5 = .ok (.aload_n 0, 1) := by decide +kernel
theorem dX7_makePlan_6 : decode cX7_makePlan 6 = .ok (.getfield 33, 3) := by decide +kernel
theorem dX7_makePlan_9 : decode cX7_makePlan 9 = .ok (.iconst 0, 1) := by decide +kernel
theorem dX7_makePlan_10 : decode cX7_makePlan 10 = .ok (.invokestatic 140, 3) := by decide +kernel
theorem dX7_makePlan_13 : decode cX7_makePlan 13 = .ok (.iconst 0, 1) := by decide +kernel
theorem dX7_makePlan_14 : decode cX7_makePlan 14 = .ok (.istore 4, 2) := by decide +kernel
theorem dX7_makePlan_16 : decode cX7_makePlan 16 = .ok (.iload 4, 2) := by decide +kernel
theorem dX7_makePlan_18 : decode cX7_makePlan 18 = .ok (.aload_n 3, 1) := by decide +kernel
theorem dX7_makePlan_19 : decode cX7_makePlan 19 = .ok (.getfield 146, 3) := by decide +kernel
theorem dX7_makePlan_22 : decode cX7_makePlan 22 = .ok (.if_icmp .ge 28, 3) := by decide +kernel
theorem dX7_makePlan_25 : decode cX7_makePlan 25 = .ok (.aload_n 0, 1) := by decide +kernel
theorem dX7_makePlan_26 : decode cX7_makePlan 26 = .ok (.getfield 33, 3) := by decide +kernel
theorem dX7_makePlan_29 : decode cX7_makePlan 29 = .ok (.aload_n 3, 1) := by decide +kernel
theorem dX7_makePlan_30 : decode cX7_makePlan 30 = .ok (.getfield 151, 3) := by decide +kernel
theorem dX7_makePlan_33 : decode cX7_makePlan 33 = .ok (.iload 4, 2) := by decide +kernel
theorem dX7_makePlan_35 : decode cX7_makePlan 35 = .ok (.aaload, 1) := by decide +kernel
theorem dX7_makePlan_36 : decode cX7_makePlan 36 = .ok (.getfield 155, 3) := by decide +kernel
theorem dX7_makePlan_39 : decode cX7_makePlan 39 = .ok (.dup2, 1) := by decide +kernel
theorem dX7_makePlan_40 : decode cX7_makePlan 40 = .ok (.iaload, 1) := by decide +kernel
theorem dX7_makePlan_41 : decode cX7_makePlan 41 = .ok (.iconst 1, 1) := by decide +kernel
theorem dX7_makePlan_42 : decode cX7_makePlan 42 = .ok (.iadd, 1) := by decide +kernel
theorem dX7_makePlan_43 : decode cX7_makePlan 43 = .ok (.iastore, 1) := by decide +kernel
theorem dX7_makePlan_44 : decode cX7_makePlan 44 = .ok (.iinc 4 1, 3) := by decide +kernel
theorem dX7_makePlan_47 : decode cX7_makePlan 47 = .ok (.goto (-31), 3) := by decide +kernel
theorem dX7_makePlan_50 : decode cX7_makePlan 50 = .ok (.aload_n 0, 1) := by decide +kernel
theorem dX7_makePlan_51 : decode cX7_makePlan 51 = .ok (.iconst (-1), 1) := by decide +kernel
theorem dX7_makePlan_52 : decode cX7_makePlan 52 = .ok (.putfield 158, 3) := by decide +kernel
theorem dX7_makePlan_55 : decode cX7_makePlan 55 = .ok (.aload_n 0, 1) := by decide +kernel
theorem dX7_makePlan_56 : decode cX7_makePlan 56 = .ok (.iconst 0, 1) := by decide +kernel
theorem dX7_makePlan_57 : decode cX7_makePlan 57 = .ok (.putfield 161, 3) := by decide +kernel
theorem dX7_makePlan_60 : decode cX7_makePlan 60 = .ok (.aload_n 0, 1) := by decide +kernel
theorem dX7_makePlan_61 : decode cX7_makePlan 61 = .ok (.iload_n 1, 1) := by decide +kernel
theorem dX7_makePlan_62 : decode cX7_makePlan 62 = .ok (.iconst 0, 1) := by decide +kernel
theorem dX7_makePlan_63 : decode cX7_makePlan 63 = .ok (.iconst 0, 1) := by decide +kernel
theorem dX7_makePlan_64 : decode cX7_makePlan 64 = .ok (.invokevirtual 164, 3) := by decide +kernel
theorem dX7_makePlan_67 : decode cX7_makePlan 67 = .ok (.return_, 1) := by decide +kernel
theorem okX7_makePlan : ab_okM MX7_makePlan 3 := ⟨by decide, ⟨by decide, by decide⟩, ab_in 1653 (by decide +kernel) (by decide +kernel), ab_in 98 (by decide +kernel) (by decide +kernel), by decide +kernel, by decide⟩
set_option maxHeartbeats 4000000 in
set_option maxRecDepth 100000 in
def lX7_makePlan_16 (v1 : Int32) (K : ab_X → Prop)  (L16 : Int32 → ab_X → Prop) (v4 : Int32) (x : ab_X) : Prop := (((x.1 66 5) ≤ v4 → wX7_choose v1 0 0 (wr (wr x 234 16 (-1)) 234 17 0) (fun x3 => K x3)) ∧ (¬ (x.1 66 5) ≤ v4 → (vp_in v4 60 ∧ vp_in (x.1 (98 + Int32.toNatClampNeg v4) 0) 20 ∧ vp_in (x.1 (98 + Int32.toNatClampNeg v4) 0) 20 ∧ L16 (v4 + 1) (wr x 242 (Int32.toNatClampNeg (x.1 (98 + Int32.toNatClampNeg v4) 0)) ((x.1 242 (Int32.toNatClampNeg (x.1 (98 + Int32.toNatClampNeg v4) 0))) + 1)))))
set_option maxHeartbeats 4000000 in
set_option maxRecDepth 100000 in
theorem sX7_makePlan_16 (v1 : Int32) (v4 : Int32)  (x : ab_X) (K : ab_X → Prop)  (d bc bs : Nat) (hdp : 105 ≤ d)  (h : Lp2 (lX7_makePlan_16 v1 K ) v4 x) : EW MX7_makePlan 16 [(0, .ref 234), (1, .int v1), (3, .ref 66), (4, .int v4)] [] (aS x) d bc bs (liV K) := by
  refine Lp2.use (P := fun v4 x => EW MX7_makePlan 16 [(0, .ref 234), (1, .int v1), (3, .ref 66), (4, .int v4)] [] (aS x) d bc bs (liV K)) (fun L16 v4 x hL16 h => ?_) v4 x h
  unfold lX7_makePlan_16 at h
  refine EW_iload (pc2 := 18) rfl dX7_makePlan_16 3 rfl ?_
  refine EW_aload_n (pc2 := 19) rfl dX7_makePlan_18 2 rfl ?_
  refine AW_geti ⟨gfRX7_146, rfl⟩ (pc2 := 22) rfl dX7_makePlan_19 q66 ?_
  refine EW_icmp_ge (tgt := 50) (pc2 := 25) rfl dX7_makePlan_22 (by decide) (fun q => ?_) (fun q => ?_)
  · replace h := h.1 q
    refine EW_aload_n (pc2 := 51) rfl dX7_makePlan_50 0 rfl ?_
    refine EW_iconst (pc2 := 52) (v := (-1)) rfl dX7_makePlan_51 (by decide) ?_
    refine AW_puti ⟨gfRX7_158, rfl, rfl⟩ (pc2 := 55) rfl dX7_makePlan_52 q234 ?_
    refine EW_aload_n (pc2 := 56) rfl dX7_makePlan_55 0 rfl ?_
    refine EW_iconst (pc2 := 57) (v := 0) rfl dX7_makePlan_56 (by decide) ?_
    refine AW_puti ⟨gfRX7_161, rfl, rfl⟩ (pc2 := 60) rfl dX7_makePlan_57 q234 ?_
    refine EW_aload_n (pc2 := 61) rfl dX7_makePlan_60 0 rfl ?_
    refine EW_iload_n (pc2 := 62) rfl dX7_makePlan_61 1 rfl ?_
    refine EW_iconst (pc2 := 63) (v := 0) rfl dX7_makePlan_62 (by decide) ?_
    refine EW_iconst (pc2 := 64) (v := 0) rfl dX7_makePlan_63 (by decide) ?_
    refine AW_invV (M' := MX7_choose) [.int v1, .int 0, .int 0] (rest := []) mlRX7_164 okX7_choose (pc2 := 67) rfl dX7_makePlan_64 rfl rfl (Nat.le_of_ble_eq_true rfl) (Nat.le_of_ble_eq_true rfl) (d' := 104) (by omega) q234 ⟨by decide, rfl⟩ (EW_mono (fun _ _ hr => ?_) (sX7_choose v1 0 0  (wr (wr x 234 16 (-1)) 234 17 0) _ _ 0 0 (Nat.le_refl _) h))
    obtain ⟨x3, rfl, rfl, h⟩ := hr
    exact EW_vret rfl dX7_makePlan_67 ⟨_, rfl, rfl, h⟩
  · replace h := h.2 q
    refine EW_aload_n (pc2 := 26) rfl dX7_makePlan_25 0 rfl ?_
    refine AW_getr (r := 242) ⟨gfRX7_33, rfl⟩ (pc2 := 29) rfl dX7_makePlan_26 q234 rfl ?_
    refine EW_aload_n (pc2 := 30) rfl dX7_makePlan_29 2 rfl ?_
    refine AW_getr (r := 68) ⟨gfRX7_151, rfl⟩ (pc2 := 33) rfl dX7_makePlan_30 q66 rfl ?_
    refine EW_iload (pc2 := 35) rfl dX7_makePlan_33 3 rfl ?_
    obtain ⟨b4, h⟩ := h
    refine AW_aald7 (pc2 := 36) rfl dX7_makePlan_35 b4 ?_
    refine AW_geti ⟨gfRX7_155, rfl⟩ (pc2 := 39) rfl dX7_makePlan_36 (isK.o (isK_of b4)) ?_
    refine EW_dup2 (pc2 := 40) rfl dX7_makePlan_39 rfl rfl ?_
    obtain ⟨b5, h⟩ := h
    refine AW_iald (pc2 := 41) rfl dX7_makePlan_40 q242 b5 ?_
    refine EW_iconst (pc2 := 42) (v := 1) rfl dX7_makePlan_41 (by decide) ?_
    refine EW_iadd (pc2 := 43) rfl dX7_makePlan_42 ?_
    obtain ⟨b6, h⟩ := h
    refine AW_iast (pc2 := 44) rfl dX7_makePlan_43 q242 b6 ?_
    refine EW_iinc (v4 + 1) (pc2 := 47) rfl dX7_makePlan_44 3 rfl rfl (by decide) [1, 2, 3, 0] [(0, .ref 234), (1, .int v1), (3, .ref 66), (4, .int (v4 + 1))] rfl ?_
    refine EW_goto (tgt := 16) dX7_makePlan_47 (by decide) ?_
    exact hL16 (v4 + 1) (wr x 242 (Int32.toNatClampNeg (x.1 (98 + Int32.toNatClampNeg v4) 0)) ((x.1 242 (Int32.toNatClampNeg (x.1 (98 + Int32.toNatClampNeg v4) 0))) + 1)) h
set_option maxHeartbeats 4000000 in
set_option maxRecDepth 100000 in
def wX7_makePlan (v1 : Int32) (v2 : Int32) (x : ab_X) (K : ab_X → Prop) : Prop := wX7_findNear v2 x (fun x1 => wJ7_fill_53178 242 20 0 x1 (fun x2 => Lp2 (lX7_makePlan_16 v1 K ) 0 x2))
set_option maxHeartbeats 4000000 in
set_option maxRecDepth 100000 in
theorem sX7_makePlan (v1 : Int32) (v2 : Int32)  (x : ab_X) (K : ab_X → Prop) (d bc bs : Nat) (hdp : 105 ≤ d) (h : wX7_makePlan v1 v2 x K) : EW MX7_makePlan 0 [(0, .ref 234), (1, .int v1), (2, .int v2), (3, .ref 66)] [] (aS x) d bc bs (liV K) := by
  unfold wX7_makePlan at h
  refine EW_aload_n (pc2 := 1) rfl dX7_makePlan_0 0 rfl ?_
  refine EW_iload_n (pc2 := 2) rfl dX7_makePlan_1 2 rfl ?_
  refine AW_invV (M' := MX7_findNear) [.int v2] (rest := []) mlRX7_137 okX7_findNear (pc2 := 5) rfl dX7_makePlan_2 rfl rfl (Nat.le_of_ble_eq_true rfl) (Nat.le_of_ble_eq_true rfl) (d' := 2) (by omega) q234 ⟨by decide, rfl⟩ (EW_mono (fun _ _ hr => ?_) (sX7_findNear v2  x _ _ 0 0 (Nat.le_refl _) h))
  obtain ⟨x1, rfl, rfl, h⟩ := hr
  refine EW_aload_n (pc2 := 6) rfl dX7_makePlan_5 0 rfl ?_
  refine AW_getr (r := 242) ⟨gfRX7_33, rfl⟩ (pc2 := 9) rfl dX7_makePlan_6 q234 rfl ?_
  refine EW_iconst (pc2 := 10) (v := 0) rfl dX7_makePlan_9 (by decide) ?_
  refine AW_invS (M' := MJ7_fill_53178) [.ref 242, .int 0] (rest := []) mlRX7_140 okJ7_fill_53178 (pc2 := 13) rfl dX7_makePlan_10 rfl rfl (Nat.le_of_ble_eq_true rfl) (Nat.le_of_ble_eq_true rfl) (d' := 0) (by omega) (EW_mono (fun _ _ hr => ?_) (sJ7_fill_53178 242 20 0 q242 x1 _ _ 0 0 (Nat.le_refl _) h))
  obtain ⟨x2, rfl, rfl, h⟩ := hr
  refine EW_iconst (pc2 := 14) (v := 0) rfl dX7_makePlan_13 (by decide) ?_
  refine EW_istore (pc2 := 16) rfl dX7_makePlan_14 (by decide) [1, 2, 3, 4, 0] [(0, .ref 234), (1, .int v1), (2, .int v2), (3, .ref 66), (4, .int 0)] rfl ?_
  refine EW_ls [0, 1, 3, 4] rfl ?_
  exact sX7_makePlan_16 v1 0 x2 K d bc bs hdp h
theorem mlRX11_451 : Cond.methodLink RX11 451 yX7_makePlan ∈ ab_G ∧ Cond.instanceMethod yX7_makePlan ∈ ab_G ∧ Cond.selects RX7 yX7_makePlan yX7_makePlan ∈ ab_G := ⟨ab_in 1650 (by decide +kernel) (by decide +kernel), ab_in 1651 (by decide +kernel) (by decide +kernel), ab_in 1652 (by decide +kernel) (by decide +kernel)⟩
theorem gfRX11_455 : ab_L RX11 455 7 16 := ⟨by decide, by decide, ab_in 692 (by decide +kernel) (by decide +kernel)⟩
abbrev MX11_plan : ab_M := (yX11_plan, cX11_plan, 3, (some .int))
theorem dX11_plan_0 : decode cX11_plan 0 = .ok (.iload_n 1, 1) := by decide +kernel
theorem dX11_plan_1 : decode cX11_plan 1 = .ok (.iconst 1, 1) := by decide +kernel
theorem dX11_plan_2 : decode cX11_plan 2 = .ok (.iconst 4, 1) := by decide +kernel
theorem dX11_plan_3 : decode cX11_plan 3 = .ok (.invokestatic 74, 3) := by decide +kernel
theorem dX11_plan_6 : decode cX11_plan 6 = .ok (.ifCond .eq 13, 3) := by decide +kernel
theorem dX11_plan_9 : decode cX11_plan 9 = .ok (.iload_n 2, 1) := by decide +kernel
theorem dX11_plan_10 : decode cX11_plan 10 = .ok (.iconst 1, 1) := by decide +kernel
theorem dX11_plan_11 : decode cX11_plan 11 = .ok (.bipush 100, 2) := by decide +kernel
theorem dX11_plan_13 : decode cX11_plan 13 = .ok (.invokestatic 74, 3) := by decide +kernel
theorem dX11_plan_16 : decode cX11_plan 16 = .ok (.ifCond .ne 5, 3) := by decide +kernel
theorem dX11_plan_19 : decode cX11_plan 19 = .ok (.iconst (-1), 1) := by decide +kernel
theorem dX11_plan_20 : decode cX11_plan 20 = .ok (.ireturn, 1) := by decide +kernel
theorem dX11_plan_21 : decode cX11_plan 21 = .ok (.aload_n 0, 1) := by decide +kernel
theorem dX11_plan_22 : decode cX11_plan 22 = .ok (.getfield 55, 3) := by decide +kernel
theorem dX11_plan_25 : decode cX11_plan 25 = .ok (.iload_n 1, 1) := by decide +kernel
theorem dX11_plan_26 : decode cX11_plan 26 = .ok (.iload_n 2, 1) := by decide +kernel
theorem dX11_plan_27 : decode cX11_plan 27 = .ok (.aload_n 0, 1) := by decide +kernel
theorem dX11_plan_28 : decode cX11_plan 28 = .ok (.getfield 30, 3) := by decide +kernel
theorem dX11_plan_31 : decode cX11_plan 31 = .ok (.invokevirtual 451, 3) := by decide +kernel
theorem dX11_plan_34 : decode cX11_plan 34 = .ok (.aload_n 0, 1) := by decide +kernel
theorem dX11_plan_35 : decode cX11_plan 35 = .ok (.getfield 55, 3) := by decide +kernel
theorem dX11_plan_38 : decode cX11_plan 38 = .ok (.getfield 455, 3) := by decide +kernel
theorem dX11_plan_41 : decode cX11_plan 41 = .ok (.ireturn, 1) := by decide +kernel
theorem okX11_plan : ab_okM MX11_plan 2 := ⟨by decide, ⟨by decide, by decide⟩, ab_in 1649 (by decide +kernel) (by decide +kernel), ab_in 86 (by decide +kernel) (by decide +kernel), by decide +kernel, by decide⟩
set_option maxHeartbeats 4000000 in
set_option maxRecDepth 100000 in
def wX11_plan (v1 : Int32) (v2 : Int32) (x : ab_X) (K : Int32 → ab_X → Prop) : Prop := wX11_within v1 1 4 x (fun r1 => ((r1 = 0 → K (-1) x) ∧ (¬ r1 = 0 → wX11_within v2 1 100 x (fun r2 => ((¬ r2 = 0 → wX7_makePlan v1 v2 x (fun x3 => K (x3.1 234 16) x3)) ∧ (r2 = 0 → K (-1) x))))))
set_option maxHeartbeats 4000000 in
set_option maxRecDepth 100000 in
theorem sX11_plan (v1 : Int32) (v2 : Int32)  (x : ab_X) (K : Int32 → ab_X → Prop) (d bc bs : Nat) (hdp : 106 ≤ d) (h : wX11_plan v1 v2 x K) : EW MX11_plan 0 [(0, .ref 0), (1, .int v1), (2, .int v2)] [] (aS x) d bc bs (liI K) := by
  unfold wX11_plan at h
  refine EW_iload_n (pc2 := 1) rfl dX11_plan_0 1 rfl ?_
  refine EW_iconst (pc2 := 2) (v := 1) rfl dX11_plan_1 (by decide) ?_
  refine EW_iconst (pc2 := 3) (v := 4) rfl dX11_plan_2 (by decide) ?_
  refine AW_invS (M' := MX11_within) [.int v1, .int 1, .int 4] (rest := []) mlRX11_74 okX11_within (pc2 := 6) rfl dX11_plan_3 rfl rfl (Nat.le_of_ble_eq_true rfl) (Nat.le_of_ble_eq_true rfl) (d' := 0) (by omega) (EW_mono (fun _ _ hr => ?_) (sX11_within v1 1 4  x _ _ 0 0 (Nat.le_refl _) h))
  obtain ⟨r1, rfl, rfl, h⟩ := hr
  refine EW_if_eq (tgt := 19) (pc2 := 9) rfl dX11_plan_6 (by decide) (fun q => ?_) (fun q => ?_)
  · replace h := h.1 q
    refine EW_iconst (pc2 := 20) (v := (-1)) rfl dX11_plan_19 (by decide) ?_
    exact AW_iret rfl dX11_plan_20 ⟨_, _, rfl, rfl, h⟩
  · replace h := h.2 q
    refine EW_iload_n (pc2 := 10) rfl dX11_plan_9 2 rfl ?_
    refine EW_iconst (pc2 := 11) (v := 1) rfl dX11_plan_10 (by decide) ?_
    refine EW_bipush (pc2 := 13) (v := 100) rfl dX11_plan_11 (by decide) ?_
    refine AW_invS (M' := MX11_within) [.int v2, .int 1, .int 100] (rest := []) mlRX11_74 okX11_within (pc2 := 16) rfl dX11_plan_13 rfl rfl (Nat.le_of_ble_eq_true rfl) (Nat.le_of_ble_eq_true rfl) (d' := 0) (by omega) (EW_mono (fun _ _ hr => ?_) (sX11_within v2 1 100  x _ _ 0 0 (Nat.le_refl _) h))
    obtain ⟨r2, rfl, rfl, h⟩ := hr
    refine EW_if_ne (tgt := 21) (pc2 := 19) rfl dX11_plan_16 (by decide) (fun q => ?_) (fun q => ?_)
    · replace h := h.1 q
      refine EW_aload_n (pc2 := 22) rfl dX11_plan_21 0 rfl ?_
      refine AW_getr (r := 234) ⟨gfRX11_55, rfl⟩ (pc2 := 25) rfl dX11_plan_22 q0 rfl ?_
      refine EW_iload_n (pc2 := 26) rfl dX11_plan_25 1 rfl ?_
      refine EW_iload_n (pc2 := 27) rfl dX11_plan_26 2 rfl ?_
      refine EW_aload_n (pc2 := 28) rfl dX11_plan_27 0 rfl ?_
      refine AW_getr (r := 66) ⟨gfRX11_30, rfl⟩ (pc2 := 31) rfl dX11_plan_28 q0 rfl ?_
      refine AW_invV (M' := MX7_makePlan) [.int v1, .int v2, .ref 66] (rest := []) mlRX11_451 okX7_makePlan (pc2 := 34) rfl dX11_plan_31 rfl rfl (Nat.le_of_ble_eq_true rfl) (Nat.le_of_ble_eq_true rfl) (d' := 105) (by omega) q234 ⟨by decide, rfl⟩ (EW_mono (fun _ _ hr => ?_) (sX7_makePlan v1 v2  x _ _ 0 0 (Nat.le_refl _) h))
      obtain ⟨x3, rfl, rfl, h⟩ := hr
      refine EW_aload_n (pc2 := 35) rfl dX11_plan_34 0 rfl ?_
      refine AW_getr (r := 234) ⟨gfRX11_55, rfl⟩ (pc2 := 38) rfl dX11_plan_35 q0 rfl ?_
      refine AW_geti ⟨gfRX11_455, rfl⟩ (pc2 := 41) rfl dX11_plan_38 q234 ?_
      exact AW_iret rfl dX11_plan_41 ⟨_, _, rfl, rfl, h⟩
    · replace h := h.2 q
      refine EW_iconst (pc2 := 20) (v := (-1)) rfl dX11_plan_19 (by decide) ?_
      exact AW_iret rfl dX11_plan_20 ⟨_, _, rfl, rfl, h⟩
abbrev MX7_bitAt : ab_M := (yX7_bitAt, cX7_bitAt, 4, (some .int))
theorem dX7_bitAt_0 : decode cX7_bitAt 0 = .ok (.iconst 0, 1) := by decide +kernel
theorem dX7_bitAt_1 : decode cX7_bitAt 1 = .ok (.istore_n 2, 1) := by decide +kernel
theorem dX7_bitAt_2 : decode cX7_bitAt 2 = .ok (.iconst 0, 1) := by decide +kernel
theorem dX7_bitAt_3 : decode cX7_bitAt 3 = .ok (.istore_n 3, 1) := by decide +kernel
theorem dX7_bitAt_4 : decode cX7_bitAt 4 = .ok (.iload_n 3, 1) := by decide +kernel
theorem dX7_bitAt_5 : decode cX7_bitAt 5 = .ok (.bipush 20, 2) := by decide +kernel
theorem dX7_bitAt_7 : decode cX7_bitAt 7 = .ok (.if_icmp .ge 28, 3) := by decide +kernel
theorem dX7_bitAt_10 : decode cX7_bitAt 10 = .ok (.iload_n 0, 1) := by decide +kernel
theorem dX7_bitAt_11 : decode cX7_bitAt 11 = .ok (.iload_n 3, 1) := by decide +kernel
theorem dX7_bitAt_12 : decode cX7_bitAt 12 = .ok (.ishr, 1) := by decide +kernel
theorem dX7_bitAt_13 : decode cX7_bitAt 13 = .ok (.iconst 1, 1) := by decide +kernel
theorem dX7_bitAt_14 : decode cX7_bitAt 14 = .ok (.iand, 1) := by decide +kernel
theorem dX7_bitAt_15 : decode cX7_bitAt 15 = .ok (.iconst 1, 1) := by decide +kernel
theorem dX7_bitAt_16 : decode cX7_bitAt 16 = .ok (.if_icmp .ne 13, 3) := by decide +kernel
theorem dX7_bitAt_19 : decode cX7_bitAt 19 = .ok (.iload_n 2, 1) := by decide +kernel
theorem dX7_bitAt_20 : decode cX7_bitAt 20 = .ok (.iload_n 1, 1) := by decide +kernel
theorem dX7_bitAt_21 : decode cX7_bitAt 21 = .ok (.if_icmp .ne 5, 3) := by decide +kernel
theorem dX7_bitAt_24 : decode cX7_bitAt 24 = .ok (.iload_n 3, 1) := by decide +kernel
theorem dX7_bitAt_25 : decode cX7_bitAt 25 = .ok (.ireturn, 1) := by decide +kernel
theorem dX7_bitAt_26 : decode cX7_bitAt 26 = .ok (.iinc 2 1, 3) := by decide +kernel
theorem dX7_bitAt_29 : decode cX7_bitAt 29 = .ok (.iinc 3 1, 3) := by decide +kernel
theorem dX7_bitAt_32 : decode cX7_bitAt 32 = .ok (.goto (-28), 3) := by decide +kernel
theorem dX7_bitAt_35 : decode cX7_bitAt 35 = .ok (.iconst (-1), 1) := by decide +kernel
theorem dX7_bitAt_36 : decode cX7_bitAt 36 = .ok (.ireturn, 1) := by decide +kernel
theorem okX7_bitAt : ab_okM MX7_bitAt 2 := ⟨by decide, ⟨by decide, by decide⟩, ab_in 1683 (by decide +kernel) (by decide +kernel), ab_in 98 (by decide +kernel) (by decide +kernel), by decide +kernel, by decide⟩
set_option maxHeartbeats 4000000 in
set_option maxRecDepth 100000 in
def lX7_bitAt_4 (v0 : Int32) (v1 : Int32) (x : ab_X) (K : Int32 → Prop)  (L4 : Int32 → Int32 → Prop) (v2 : Int32) (v3 : Int32) : Prop := ((20 ≤ v3 → K (-1)) ∧ (¬ 20 ≤ v3 → ((¬ ((v0 >>> (v3 &&& 31)) &&& 1) = 1 → L4 v2 (v3 + 1)) ∧ (((v0 >>> (v3 &&& 31)) &&& 1) = 1 → ((¬ v2 = v1 → L4 (v2 + 1) (v3 + 1)) ∧ (v2 = v1 → K v3))))))
set_option maxHeartbeats 4000000 in
set_option maxRecDepth 100000 in
theorem sX7_bitAt_4 (v0 : Int32) (v1 : Int32) (v2 : Int32) (v3 : Int32)  (x : ab_X) (K : Int32 → Prop)  (d bc bs : Nat) (hdp : 0 ≤ d)  (h : Lp2 (lX7_bitAt_4 v0 v1 x K ) v2 v3) : EW MX7_bitAt 4 [(0, .int v0), (1, .int v1), (2, .int v2), (3, .int v3)] [] (aS x) d bc bs (liP x K) := by
  refine Lp2.use (P := fun v2 v3 => EW MX7_bitAt 4 [(0, .int v0), (1, .int v1), (2, .int v2), (3, .int v3)] [] (aS x) d bc bs (liP x K)) (fun L4 v2 v3 hL4 h => ?_) v2 v3 h
  unfold lX7_bitAt_4 at h
  refine EW_iload_n (pc2 := 5) rfl dX7_bitAt_4 3 rfl ?_
  refine EW_bipush (pc2 := 7) (v := 20) rfl dX7_bitAt_5 (by decide) ?_
  refine EW_icmp_ge (tgt := 35) (pc2 := 10) rfl dX7_bitAt_7 (by decide) (fun q => ?_) (fun q => ?_)
  · replace h := h.1 q
    refine EW_iconst (pc2 := 36) (v := (-1)) rfl dX7_bitAt_35 (by decide) ?_
    exact AW_iret rfl dX7_bitAt_36 ⟨_, rfl, rfl, h⟩
  · replace h := h.2 q
    refine EW_iload_n (pc2 := 11) rfl dX7_bitAt_10 0 rfl ?_
    refine EW_iload_n (pc2 := 12) rfl dX7_bitAt_11 3 rfl ?_
    refine EW_ishr (pc2 := 13) rfl dX7_bitAt_12 ?_
    refine EW_iconst (pc2 := 14) (v := 1) rfl dX7_bitAt_13 (by decide) ?_
    refine EW_iand (pc2 := 15) rfl dX7_bitAt_14 ?_
    refine EW_iconst (pc2 := 16) (v := 1) rfl dX7_bitAt_15 (by decide) ?_
    refine EW_icmp_ne (tgt := 29) (pc2 := 19) rfl dX7_bitAt_16 (by decide) (fun q => ?_) (fun q => ?_)
    · replace h := h.1 q
      refine EW_iinc (v3 + 1) (pc2 := 32) rfl dX7_bitAt_29 3 rfl rfl (by decide) [1, 2, 3, 0] [(0, .int v0), (1, .int v1), (2, .int v2), (3, .int (v3 + 1))] rfl ?_
      refine EW_goto (tgt := 4) dX7_bitAt_32 (by decide) ?_
      exact hL4 v2 (v3 + 1) h
    · replace h := h.2 q
      refine EW_iload_n (pc2 := 20) rfl dX7_bitAt_19 2 rfl ?_
      refine EW_iload_n (pc2 := 21) rfl dX7_bitAt_20 1 rfl ?_
      refine EW_icmp_ne (tgt := 26) (pc2 := 24) rfl dX7_bitAt_21 (by decide) (fun q => ?_) (fun q => ?_)
      · replace h := h.1 q
        refine EW_iinc (v2 + 1) (pc2 := 29) rfl dX7_bitAt_26 2 rfl rfl (by decide) [1, 2, 0, 3] [(0, .int v0), (1, .int v1), (2, .int (v2 + 1)), (3, .int v3)] rfl ?_
        refine EW_iinc (v3 + 1) (pc2 := 32) rfl dX7_bitAt_29 3 rfl rfl (by decide) [1, 2, 3, 0] [(0, .int v0), (1, .int v1), (2, .int (v2 + 1)), (3, .int (v3 + 1))] rfl ?_
        refine EW_goto (tgt := 4) dX7_bitAt_32 (by decide) ?_
        exact hL4 (v2 + 1) (v3 + 1) h
      · replace h := h.2 q
        refine EW_iload_n (pc2 := 25) rfl dX7_bitAt_24 3 rfl ?_
        exact AW_iret rfl dX7_bitAt_25 ⟨_, rfl, rfl, h⟩
set_option maxHeartbeats 4000000 in
set_option maxRecDepth 100000 in
def wX7_bitAt (v0 : Int32) (v1 : Int32) (x : ab_X) (K : Int32 → Prop) : Prop := Lp2 (lX7_bitAt_4 v0 v1 x K ) 0 0
set_option maxHeartbeats 4000000 in
set_option maxRecDepth 100000 in
theorem sX7_bitAt (v0 : Int32) (v1 : Int32)  (x : ab_X) (K : Int32 → Prop) (d bc bs : Nat) (hdp : 0 ≤ d) (h : wX7_bitAt v0 v1 x K) : EW MX7_bitAt 0 [(0, .int v0), (1, .int v1)] [] (aS x) d bc bs (liP x K) := by
  unfold wX7_bitAt at h
  refine EW_iconst (pc2 := 1) (v := 0) rfl dX7_bitAt_0 (by decide) ?_
  refine EW_istore_n (pc2 := 2) rfl dX7_bitAt_1 (by decide) [1, 2, 0] [(0, .int v0), (1, .int v1), (2, .int 0)] rfl ?_
  refine EW_iconst (pc2 := 3) (v := 0) rfl dX7_bitAt_2 (by decide) ?_
  refine EW_istore_n (pc2 := 4) rfl dX7_bitAt_3 (by decide) [1, 2, 3, 0] [(0, .int v0), (1, .int v1), (2, .int 0), (3, .int 0)] rfl ?_
  exact sX7_bitAt_4 v0 v1 0 0 x K d bc bs hdp h
theorem gfRX11_458 : ab_L RX11 458 7 17 := ⟨by decide, by decide, ab_in 694 (by decide +kernel) (by decide +kernel)⟩
theorem mlRX11_461 : Cond.methodLink RX11 461 yX7_bitAt ∈ ab_G ∧ Cond.static yX7_bitAt ∈ ab_G := ⟨ab_in 1681 (by decide +kernel) (by decide +kernel), ab_in 1682 (by decide +kernel) (by decide +kernel)⟩
abbrev MX11_planned : ab_M := (yX11_planned, cX11_planned, 4, (some .int))
theorem dX11_planned_0 : decode cX11_planned 0 = .ok (.iload_n 1, 1) := by decide +kernel
theorem dX11_planned_1 : decode cX11_planned 1 = .ok (.iconst 1, 1) := by decide +kernel
theorem dX11_planned_2 : decode cX11_planned 2 = .ok (.iconst 4, 1) := by decide +kernel
theorem dX11_planned_3 : decode cX11_planned 3 = .ok (.invokestatic 74, 3) := by decide +kernel
theorem dX11_planned_6 : decode cX11_planned 6 = .ok (.ifCond .eq 21, 3) := by decide +kernel
theorem dX11_planned_9 : decode cX11_planned 9 = .ok (.iload_n 2, 1) := by decide +kernel
theorem dX11_planned_10 : decode cX11_planned 10 = .ok (.iconst 1, 1) := by decide +kernel
theorem dX11_planned_11 : decode cX11_planned 11 = .ok (.bipush 100, 2) := by decide +kernel
theorem dX11_planned_13 : decode cX11_planned 13 = .ok (.invokestatic 74, 3) := by decide +kernel
theorem dX11_planned_16 : decode cX11_planned 16 = .ok (.ifCond .eq 11, 3) := by decide +kernel
theorem dX11_planned_19 : decode cX11_planned 19 = .ok (.iload_n 3, 1) := by decide +kernel
theorem dX11_planned_20 : decode cX11_planned 20 = .ok (.iload_n 1, 1) := by decide +kernel
theorem dX11_planned_21 : decode cX11_planned 21 = .ok (.invokestatic 86, 3) := by decide +kernel
theorem dX11_planned_24 : decode cX11_planned 24 = .ok (.ifCond .ne 5, 3) := by decide +kernel
theorem dX11_planned_27 : decode cX11_planned 27 = .ok (.iconst (-1), 1) := by decide +kernel
theorem dX11_planned_28 : decode cX11_planned 28 = .ok (.ireturn, 1) := by decide +kernel
theorem dX11_planned_29 : decode cX11_planned 29 = .ok (.aload_n 0, 1) := by decide +kernel
theorem dX11_planned_30 : decode cX11_planned 30 = .ok (.getfield 55, 3) := by decide +kernel
theorem dX11_planned_33 : decode cX11_planned 33 = .ok (.iload_n 1, 1) := by decide +kernel
theorem dX11_planned_34 : decode cX11_planned 34 = .ok (.iload_n 2, 1) := by decide +kernel
theorem dX11_planned_35 : decode cX11_planned 35 = .ok (.aload_n 0, 1) := by decide +kernel
theorem dX11_planned_36 : decode cX11_planned 36 = .ok (.getfield 30, 3) := by decide +kernel
theorem dX11_planned_39 : decode cX11_planned 39 = .ok (.invokevirtual 451, 3) := by decide +kernel
theorem dX11_planned_42 : decode cX11_planned 42 = .ok (.aload_n 0, 1) := by decide +kernel
theorem dX11_planned_43 : decode cX11_planned 43 = .ok (.getfield 55, 3) := by decide +kernel
theorem dX11_planned_46 : decode cX11_planned 46 = .ok (.getfield 458, 3) := by decide +kernel
theorem dX11_planned_49 : decode cX11_planned 49 = .ok (.iload_n 3, 1) := by decide +kernel
theorem dX11_planned_50 : decode cX11_planned 50 = .ok (.invokestatic 461, 3) := by decide +kernel
theorem dX11_planned_53 : decode cX11_planned 53 = .ok (.ireturn, 1) := by decide +kernel
theorem okX11_planned : ab_okM MX11_planned 3 := ⟨by decide, ⟨by decide, by decide⟩, ab_in 1680 (by decide +kernel) (by decide +kernel), ab_in 86 (by decide +kernel) (by decide +kernel), by decide +kernel, by decide⟩
set_option maxHeartbeats 4000000 in
set_option maxRecDepth 100000 in
def wX11_planned (v1 : Int32) (v2 : Int32) (v3 : Int32) (x : ab_X) (K : Int32 → ab_X → Prop) : Prop := wX11_within v1 1 4 x (fun r1 => ((r1 = 0 → K (-1) x) ∧ (¬ r1 = 0 → wX11_within v2 1 100 x (fun r2 => ((r2 = 0 → K (-1) x) ∧ (¬ r2 = 0 → wX11_below v3 v1 x (fun r3 => ((¬ r3 = 0 → wX7_makePlan v1 v2 x (fun x4 => wX7_bitAt (x4.1 234 17) v3 x4 (fun r5 => K r5 x4))) ∧ (r3 = 0 → K (-1) x)))))))))
set_option maxHeartbeats 4000000 in
set_option maxRecDepth 100000 in
theorem sX11_planned (v1 : Int32) (v2 : Int32) (v3 : Int32)  (x : ab_X) (K : Int32 → ab_X → Prop) (d bc bs : Nat) (hdp : 106 ≤ d) (h : wX11_planned v1 v2 v3 x K) : EW MX11_planned 0 [(0, .ref 0), (1, .int v1), (2, .int v2), (3, .int v3)] [] (aS x) d bc bs (liI K) := by
  unfold wX11_planned at h
  refine EW_iload_n (pc2 := 1) rfl dX11_planned_0 1 rfl ?_
  refine EW_iconst (pc2 := 2) (v := 1) rfl dX11_planned_1 (by decide) ?_
  refine EW_iconst (pc2 := 3) (v := 4) rfl dX11_planned_2 (by decide) ?_
  refine AW_invS (M' := MX11_within) [.int v1, .int 1, .int 4] (rest := []) mlRX11_74 okX11_within (pc2 := 6) rfl dX11_planned_3 rfl rfl (Nat.le_of_ble_eq_true rfl) (Nat.le_of_ble_eq_true rfl) (d' := 0) (by omega) (EW_mono (fun _ _ hr => ?_) (sX11_within v1 1 4  x _ _ 0 0 (Nat.le_refl _) h))
  obtain ⟨r1, rfl, rfl, h⟩ := hr
  refine EW_if_eq (tgt := 27) (pc2 := 9) rfl dX11_planned_6 (by decide) (fun q => ?_) (fun q => ?_)
  · replace h := h.1 q
    refine EW_iconst (pc2 := 28) (v := (-1)) rfl dX11_planned_27 (by decide) ?_
    exact AW_iret rfl dX11_planned_28 ⟨_, _, rfl, rfl, h⟩
  · replace h := h.2 q
    refine EW_iload_n (pc2 := 10) rfl dX11_planned_9 2 rfl ?_
    refine EW_iconst (pc2 := 11) (v := 1) rfl dX11_planned_10 (by decide) ?_
    refine EW_bipush (pc2 := 13) (v := 100) rfl dX11_planned_11 (by decide) ?_
    refine AW_invS (M' := MX11_within) [.int v2, .int 1, .int 100] (rest := []) mlRX11_74 okX11_within (pc2 := 16) rfl dX11_planned_13 rfl rfl (Nat.le_of_ble_eq_true rfl) (Nat.le_of_ble_eq_true rfl) (d' := 0) (by omega) (EW_mono (fun _ _ hr => ?_) (sX11_within v2 1 100  x _ _ 0 0 (Nat.le_refl _) h))
    obtain ⟨r2, rfl, rfl, h⟩ := hr
    refine EW_if_eq (tgt := 27) (pc2 := 19) rfl dX11_planned_16 (by decide) (fun q => ?_) (fun q => ?_)
    · replace h := h.1 q
      refine EW_iconst (pc2 := 28) (v := (-1)) rfl dX11_planned_27 (by decide) ?_
      exact AW_iret rfl dX11_planned_28 ⟨_, _, rfl, rfl, h⟩
    · replace h := h.2 q
      refine EW_iload_n (pc2 := 20) rfl dX11_planned_19 3 rfl ?_
      refine EW_iload_n (pc2 := 21) rfl dX11_planned_20 1 rfl ?_
      refine AW_invS (M' := MX11_below) [.int v3, .int v1] (rest := []) mlRX11_86 okX11_below (pc2 := 24) rfl dX11_planned_21 rfl rfl (Nat.le_of_ble_eq_true rfl) (Nat.le_of_ble_eq_true rfl) (d' := 0) (by omega) (EW_mono (fun _ _ hr => ?_) (sX11_below v3 v1  x _ _ 0 0 (Nat.le_refl _) h))
      obtain ⟨r3, rfl, rfl, h⟩ := hr
      refine EW_if_ne (tgt := 29) (pc2 := 27) rfl dX11_planned_24 (by decide) (fun q => ?_) (fun q => ?_)
      · replace h := h.1 q
        refine EW_aload_n (pc2 := 30) rfl dX11_planned_29 0 rfl ?_
        refine AW_getr (r := 234) ⟨gfRX11_55, rfl⟩ (pc2 := 33) rfl dX11_planned_30 q0 rfl ?_
        refine EW_iload_n (pc2 := 34) rfl dX11_planned_33 1 rfl ?_
        refine EW_iload_n (pc2 := 35) rfl dX11_planned_34 2 rfl ?_
        refine EW_aload_n (pc2 := 36) rfl dX11_planned_35 0 rfl ?_
        refine AW_getr (r := 66) ⟨gfRX11_30, rfl⟩ (pc2 := 39) rfl dX11_planned_36 q0 rfl ?_
        refine AW_invV (M' := MX7_makePlan) [.int v1, .int v2, .ref 66] (rest := []) mlRX11_451 okX7_makePlan (pc2 := 42) rfl dX11_planned_39 rfl rfl (Nat.le_of_ble_eq_true rfl) (Nat.le_of_ble_eq_true rfl) (d' := 105) (by omega) q234 ⟨by decide, rfl⟩ (EW_mono (fun _ _ hr => ?_) (sX7_makePlan v1 v2  x _ _ 0 0 (Nat.le_refl _) h))
        obtain ⟨x4, rfl, rfl, h⟩ := hr
        refine EW_aload_n (pc2 := 43) rfl dX11_planned_42 0 rfl ?_
        refine AW_getr (r := 234) ⟨gfRX11_55, rfl⟩ (pc2 := 46) rfl dX11_planned_43 q0 rfl ?_
        refine AW_geti ⟨gfRX11_458, rfl⟩ (pc2 := 49) rfl dX11_planned_46 q234 ?_
        refine EW_iload_n (pc2 := 50) rfl dX11_planned_49 3 rfl ?_
        refine AW_invS (M' := MX7_bitAt) [.int (x4.1 234 17), .int v3] (rest := []) mlRX11_461 okX7_bitAt (pc2 := 53) rfl dX11_planned_50 rfl rfl (Nat.le_of_ble_eq_true rfl) (Nat.le_of_ble_eq_true rfl) (d' := 0) (by omega) (EW_mono (fun _ _ hr => ?_) (sX7_bitAt (x4.1 234 17) v3  x4 _ _ 0 0 (Nat.le_refl _) h))
        obtain ⟨r5, rfl, rfl, h⟩ := hr
        exact AW_iret rfl dX11_planned_53 ⟨_, _, rfl, rfl, h⟩
      · replace h := h.2 q
        refine EW_iconst (pc2 := 28) (v := (-1)) rfl dX11_planned_27 (by decide) ?_
        exact AW_iret rfl dX11_planned_28 ⟨_, _, rfl, rfl, h⟩
theorem mlRX11_471 : Cond.methodLink RX11 471 yX11_kept ∈ ab_G ∧ Cond.static yX11_kept ∈ ab_G := ⟨ab_in 1697 (by decide +kernel) (by decide +kernel), ab_in 1698 (by decide +kernel) (by decide +kernel)⟩
abbrev MX11_put : ab_M := (yX11_put, cX11_put, 4, (some .boolean))
theorem dX11_put_0 : decode cX11_put 0 = .ok (.aload_n 0, 1) := by decide +kernel
theorem dX11_put_1 : decode cX11_put 1 = .ok (.iload_n 1, 1) := by decide +kernel
theorem dX11_put_2 : decode cX11_put 2 = .ok (.invokevirtual 467, 3) := by decide +kernel
theorem dX11_put_5 : decode cX11_put 5 = .ok (.ifCond .eq 22, 3) := by decide +kernel
theorem dX11_put_8 : decode cX11_put 8 = .ok (.iload_n 2, 1) := by decide +kernel
theorem dX11_put_9 : decode cX11_put 9 = .ok (.invokestatic 70, 3) := by decide +kernel
theorem dX11_put_12 : decode cX11_put 12 = .ok (.ifCond .eq 15, 3) := by decide +kernel
theorem dX11_put_15 : decode cX11_put 15 = .ok (.iload_n 3, 1) := by decide +kernel
theorem dX11_put_16 : decode cX11_put 16 = .ok (.ldc_w 470, 3) := by decide +kernel
theorem dX11_put_19 : decode cX11_put 19 = .ok (.ldc 104, 2) := by decide +kernel
theorem dX11_put_21 : decode cX11_put 21 = .ok (.invokestatic 74, 3) := by decide +kernel
theorem dX11_put_24 : decode cX11_put 24 = .ok (.ifCond .ne 5, 3) := by decide +kernel
theorem dX11_put_27 : decode cX11_put 27 = .ok (.iconst 0, 1) := by decide +kernel
theorem dX11_put_28 : decode cX11_put 28 = .ok (.ireturn, 1) := by decide +kernel
theorem dX11_put_29 : decode cX11_put 29 = .ok (.aload_n 0, 1) := by decide +kernel
theorem dX11_put_30 : decode cX11_put 30 = .ok (.getfield 67, 3) := by decide +kernel
theorem dX11_put_33 : decode cX11_put 33 = .ok (.iload_n 1, 1) := by decide +kernel
theorem dX11_put_34 : decode cX11_put 34 = .ok (.bipush 20, 2) := by decide +kernel
theorem dX11_put_36 : decode cX11_put 36 = .ok (.imul, 1) := by decide +kernel
theorem dX11_put_37 : decode cX11_put 37 = .ok (.iload_n 2, 1) := by decide +kernel
theorem dX11_put_38 : decode cX11_put 38 = .ok (.iadd, 1) := by decide +kernel
theorem dX11_put_39 : decode cX11_put 39 = .ok (.aload_n 0, 1) := by decide +kernel
theorem dX11_put_40 : decode cX11_put 40 = .ok (.getfield 59, 3) := by decide +kernel
theorem dX11_put_43 : decode cX11_put 43 = .ok (.iload_n 1, 1) := by decide +kernel
theorem dX11_put_44 : decode cX11_put 44 = .ok (.iaload, 1) := by decide +kernel
theorem dX11_put_45 : decode cX11_put 45 = .ok (.iload_n 3, 1) := by decide +kernel
theorem dX11_put_46 : decode cX11_put 46 = .ok (.invokestatic 471, 3) := by decide +kernel
theorem dX11_put_49 : decode cX11_put 49 = .ok (.iastore, 1) := by decide +kernel
theorem dX11_put_50 : decode cX11_put 50 = .ok (.iconst 1, 1) := by decide +kernel
theorem dX11_put_51 : decode cX11_put 51 = .ok (.ireturn, 1) := by decide +kernel
theorem okX11_put : ab_okM MX11_put 3 := ⟨by decide, ⟨by decide, by decide⟩, ab_in 1691 (by decide +kernel) (by decide +kernel), ab_in 86 (by decide +kernel) (by decide +kernel), by decide +kernel, by decide⟩
set_option maxHeartbeats 4000000 in
set_option maxRecDepth 100000 in
def wX11_put (v1 : Int32) (v2 : Int32) (v3 : Int32) (x : ab_X) (K : Int32 → ab_X → Prop) : Prop := wX11_hasRow v1 x (fun r1 => ((r1 = 0 → K 0 x) ∧ (¬ r1 = 0 → wX11_isCorner v2 x (fun r2 => ((r2 = 0 → K 0 x) ∧ (¬ r2 = 0 → wX11_within v3 (-1000000) 1000000 x (fun r3 => ((¬ r3 = 0 → (vp_in v1 6 ∧ wX11_kept (x.1 243 (Int32.toNatClampNeg v1)) v3 x (fun r5 => (vp_in ((v1 * 20) + v2) 120 ∧ K 1 (wr x 245 (Int32.toNatClampNeg ((v1 * 20) + v2)) r5))))) ∧ (r3 = 0 → K 0 x)))))))))
set_option maxHeartbeats 4000000 in
set_option maxRecDepth 100000 in
theorem sX11_put (v1 : Int32) (v2 : Int32) (v3 : Int32)  (x : ab_X) (K : Int32 → ab_X → Prop) (d bc bs : Nat) (hdp : 2 ≤ d) (h : wX11_put v1 v2 v3 x K) : EW MX11_put 0 [(0, .ref 0), (1, .int v1), (2, .int v2), (3, .int v3)] [] (aS x) d bc bs (liI K) := by
  unfold wX11_put at h
  refine EW_aload_n (pc2 := 1) rfl dX11_put_0 0 rfl ?_
  refine EW_iload_n (pc2 := 2) rfl dX11_put_1 1 rfl ?_
  refine AW_invV (M' := MX11_hasRow) [.int v1] (rest := []) mlRX11_467 okX11_hasRow (pc2 := 5) rfl dX11_put_2 rfl rfl (Nat.le_of_ble_eq_true rfl) (Nat.le_of_ble_eq_true rfl) (d' := 1) (by omega) q0 ⟨by decide, rfl⟩ (EW_mono (fun _ _ hr => ?_) (sX11_hasRow v1  x _ _ 0 0 (Nat.le_refl _) h))
  obtain ⟨r1, rfl, rfl, h⟩ := hr
  refine EW_if_eq (tgt := 27) (pc2 := 8) rfl dX11_put_5 (by decide) (fun q => ?_) (fun q => ?_)
  · replace h := h.1 q
    refine EW_iconst (pc2 := 28) (v := 0) rfl dX11_put_27 (by decide) ?_
    exact AW_zret rfl isB0 dX11_put_28 ⟨_, _, rfl, rfl, h⟩
  · replace h := h.2 q
    refine EW_iload_n (pc2 := 9) rfl dX11_put_8 2 rfl ?_
    refine AW_invS (M' := MX11_isCorner) [.int v2] (rest := []) mlRX11_70 okX11_isCorner (pc2 := 12) rfl dX11_put_9 rfl rfl (Nat.le_of_ble_eq_true rfl) (Nat.le_of_ble_eq_true rfl) (d' := 0) (by omega) (EW_mono (fun _ _ hr => ?_) (sX11_isCorner v2  x _ _ 0 0 (Nat.le_refl _) h))
    obtain ⟨r2, rfl, rfl, h⟩ := hr
    refine EW_if_eq (tgt := 27) (pc2 := 15) rfl dX11_put_12 (by decide) (fun q => ?_) (fun q => ?_)
    · replace h := h.1 q
      refine EW_iconst (pc2 := 28) (v := 0) rfl dX11_put_27 (by decide) ?_
      exact AW_zret rfl isB0 dX11_put_28 ⟨_, _, rfl, rfl, h⟩
    · replace h := h.2 q
      refine EW_iload_n (pc2 := 16) rfl dX11_put_15 3 rfl ?_
      refine EW_ldcw cnRX11_470 (pc2 := 19) rfl dX11_put_16 ?_
      refine EW_ldc cnRX11_104 (pc2 := 21) rfl dX11_put_19 ?_
      refine AW_invS (M' := MX11_within) [.int v3, .int (-1000000), .int 1000000] (rest := []) mlRX11_74 okX11_within (pc2 := 24) rfl dX11_put_21 rfl rfl (Nat.le_of_ble_eq_true rfl) (Nat.le_of_ble_eq_true rfl) (d' := 0) (by omega) (EW_mono (fun _ _ hr => ?_) (sX11_within v3 (-1000000) 1000000  x _ _ 0 0 (Nat.le_refl _) h))
      obtain ⟨r3, rfl, rfl, h⟩ := hr
      refine EW_if_ne (tgt := 29) (pc2 := 27) rfl dX11_put_24 (by decide) (fun q => ?_) (fun q => ?_)
      · replace h := h.1 q
        refine EW_aload_n (pc2 := 30) rfl dX11_put_29 0 rfl ?_
        refine AW_getr (r := 245) ⟨gfRX11_67, rfl⟩ (pc2 := 33) rfl dX11_put_30 q0 rfl ?_
        refine EW_iload_n (pc2 := 34) rfl dX11_put_33 1 rfl ?_
        refine EW_bipush (pc2 := 36) (v := 20) rfl dX11_put_34 (by decide) ?_
        refine EW_imul (pc2 := 37) rfl dX11_put_36 ?_
        refine EW_iload_n (pc2 := 38) rfl dX11_put_37 2 rfl ?_
        refine EW_iadd (pc2 := 39) rfl dX11_put_38 ?_
        refine EW_aload_n (pc2 := 40) rfl dX11_put_39 0 rfl ?_
        refine AW_getr (r := 243) ⟨gfRX11_59, rfl⟩ (pc2 := 43) rfl dX11_put_40 q0 rfl ?_
        refine EW_iload_n (pc2 := 44) rfl dX11_put_43 1 rfl ?_
        obtain ⟨b4, h⟩ := h
        refine AW_iald (pc2 := 45) rfl dX11_put_44 q243 b4 ?_
        refine EW_iload_n (pc2 := 46) rfl dX11_put_45 3 rfl ?_
        refine AW_invS (M' := MX11_kept) [.int (x.1 243 (Int32.toNatClampNeg v1)), .int v3] (rest := [.int ((v1 * 20) + v2), .ref 245]) mlRX11_471 okX11_kept (pc2 := 49) rfl dX11_put_46 rfl rfl (Nat.le_of_ble_eq_true rfl) (Nat.le_of_ble_eq_true rfl) (d' := 0) (by omega) (EW_mono (fun _ _ hr => ?_) (sX11_kept (x.1 243 (Int32.toNatClampNeg v1)) v3  x _ _ 0 0 (Nat.le_refl _) h))
        obtain ⟨r5, rfl, rfl, h⟩ := hr
        obtain ⟨b6, h⟩ := h
        refine AW_iast (pc2 := 50) rfl dX11_put_49 q245 b6 ?_
        refine EW_iconst (pc2 := 51) (v := 1) rfl dX11_put_50 (by decide) ?_
        exact AW_zret rfl isB1 dX11_put_51 ⟨_, _, rfl, rfl, h⟩
      · replace h := h.2 q
        refine EW_iconst (pc2 := 28) (v := 0) rfl dX11_put_27 (by decide) ?_
        exact AW_zret rfl isB0 dX11_put_28 ⟨_, _, rfl, rfl, h⟩
theorem mlRX11_310 : Cond.methodLink RX11 310 yX2_hasHose ∈ ab_G ∧ Cond.instanceMethod yX2_hasHose ∈ ab_G ∧ Cond.selects RX2 yX2_hasHose yX2_hasHose ∈ ab_G := ⟨ab_in 1027 (by decide +kernel) (by decide +kernel), ab_in 972 (by decide +kernel) (by decide +kernel), ab_in 973 (by decide +kernel) (by decide +kernel)⟩
theorem gfRX11_314 : ab_L RX11 314 4 1 := ⟨by decide, by decide, ab_in 220 (by decide +kernel) (by decide +kernel)⟩
theorem mlRX11_317 : Cond.methodLink RX11 317 yX10_nearestHead ∈ ab_G ∧ Cond.instanceMethod yX10_nearestHead ∈ ab_G ∧ Cond.selects RX10 yX10_nearestHead yX10_nearestHead ∈ ab_G := ⟨ab_in 1028 (by decide +kernel) (by decide +kernel), ab_in 1029 (by decide +kernel) (by decide +kernel), ab_in 1030 (by decide +kernel) (by decide +kernel)⟩
theorem mlRX11_320 : Cond.methodLink RX11 320 yX10_topFloor ∈ ab_G ∧ Cond.instanceMethod yX10_topFloor ∈ ab_G ∧ Cond.selects RX10 yX10_topFloor yX10_topFloor ∈ ab_G := ⟨ab_in 1034 (by decide +kernel) (by decide +kernel), ab_in 1035 (by decide +kernel) (by decide +kernel), ab_in 1036 (by decide +kernel) (by decide +kernel)⟩
abbrev MX11_reach : ab_M := (yX11_reach, cX11_reach, 4, (some .int))
theorem dX11_reach_0 : decode cX11_reach 0 = .ok (.aload_n 0, 1) := by decide +kernel
theorem dX11_reach_1 : decode cX11_reach 1 = .ok (.getfield 30, 3) := by decide +kernel
theorem dX11_reach_4 : decode cX11_reach 4 = .ok (.iload_n 1, 1) := by decide +kernel
theorem dX11_reach_5 : decode cX11_reach 5 = .ok (.invokevirtual 256, 3) := by decide +kernel
theorem dX11_reach_8 : decode cX11_reach 8 = .ok (.ifCond .eq 29, 3) := by decide +kernel
theorem dX11_reach_11 : decode cX11_reach 11 = .ok (.aload_n 0, 1) := by decide +kernel
theorem dX11_reach_12 : decode cX11_reach 12 = .ok (.getfield 21, 3) := by decide +kernel
theorem dX11_reach_15 : decode cX11_reach 15 = .ok (.iload_n 2, 1) := by decide +kernel
theorem dX11_reach_16 : decode cX11_reach 16 = .ok (.invokevirtual 124, 3) := by decide +kernel
theorem dX11_reach_19 : decode cX11_reach 19 = .ok (.ifCond .eq 18, 3) := by decide +kernel
theorem dX11_reach_22 : decode cX11_reach 22 = .ok (.aload_n 0, 1) := by decide +kernel
theorem dX11_reach_23 : decode cX11_reach 23 = .ok (.getfield 30, 3) := by decide +kernel
theorem dX11_reach_26 : decode cX11_reach 26 = .ok (.getfield 241, 3) := by decide +kernel
theorem dX11_reach_29 : decode cX11_reach 29 = .ok (.iload_n 1, 1) := by decide +kernel
theorem dX11_reach_30 : decode cX11_reach 30 = .ok (.aaload, 1) := by decide +kernel
theorem dX11_reach_31 : decode cX11_reach 31 = .ok (.invokevirtual 310, 3) := by decide +kernel
theorem dX11_reach_34 : decode cX11_reach 34 = .ok (.ifCond .ne 5, 3) := by decide +kernel
theorem dX11_reach_37 : decode cX11_reach 37 = .ok (.iconst (-1), 1) := by decide +kernel
theorem dX11_reach_38 : decode cX11_reach 38 = .ok (.ireturn, 1) := by decide +kernel
theorem dX11_reach_39 : decode cX11_reach 39 = .ok (.aload_n 0, 1) := by decide +kernel
theorem dX11_reach_40 : decode cX11_reach 40 = .ok (.getfield 21, 3) := by decide +kernel
theorem dX11_reach_43 : decode cX11_reach 43 = .ok (.getfield 127, 3) := by decide +kernel
theorem dX11_reach_46 : decode cX11_reach 46 = .ok (.iload_n 2, 1) := by decide +kernel
theorem dX11_reach_47 : decode cX11_reach 47 = .ok (.aaload, 1) := by decide +kernel
theorem dX11_reach_48 : decode cX11_reach 48 = .ok (.astore_n 3, 1) := by decide +kernel
theorem dX11_reach_49 : decode cX11_reach 49 = .ok (.aload_n 0, 1) := by decide +kernel
theorem dX11_reach_50 : decode cX11_reach 50 = .ok (.getfield 21, 3) := by decide +kernel
theorem dX11_reach_53 : decode cX11_reach 53 = .ok (.aload_n 3, 1) := by decide +kernel
theorem dX11_reach_54 : decode cX11_reach 54 = .ok (.aload_n 0, 1) := by decide +kernel
theorem dX11_reach_55 : decode cX11_reach 55 = .ok (.getfield 21, 3) := by decide +kernel
theorem dX11_reach_58 : decode cX11_reach 58 = .ok (.aload_n 3, 1) := by decide +kernel
theorem dX11_reach_59 : decode cX11_reach 59 = .ok (.getfield 314, 3) := by decide +kernel
theorem dX11_reach_62 : decode cX11_reach 62 = .ok (.invokevirtual 317, 3) := by decide +kernel
theorem dX11_reach_65 : decode cX11_reach 65 = .ok (.aload_n 0, 1) := by decide +kernel
theorem dX11_reach_66 : decode cX11_reach 66 = .ok (.getfield 30, 3) := by decide +kernel
theorem dX11_reach_69 : decode cX11_reach 69 = .ok (.getfield 241, 3) := by decide +kernel
theorem dX11_reach_72 : decode cX11_reach 72 = .ok (.iload_n 1, 1) := by decide +kernel
theorem dX11_reach_73 : decode cX11_reach 73 = .ok (.aaload, 1) := by decide +kernel
theorem dX11_reach_74 : decode cX11_reach 74 = .ok (.getfield 263, 3) := by decide +kernel
theorem dX11_reach_77 : decode cX11_reach 77 = .ok (.invokevirtual 320, 3) := by decide +kernel
theorem dX11_reach_80 : decode cX11_reach 80 = .ok (.ireturn, 1) := by decide +kernel
theorem okX11_reach : ab_okM MX11_reach 2 := ⟨by decide, ⟨by decide, by decide⟩, ab_in 1026 (by decide +kernel) (by decide +kernel), ab_in 86 (by decide +kernel) (by decide +kernel), by decide +kernel, by decide⟩
set_option maxHeartbeats 4000000 in
set_option maxRecDepth 100000 in
def wX11_reach (v1 : Int32) (v2 : Int32) (x : ab_X) (K : Int32 → Prop) : Prop := wX0_has v1 x (fun r1 => ((r1 = 0 → K (-1)) ∧ (¬ r1 = 0 → wX10_has v2 x (fun r2 => ((r2 = 0 → K (-1)) ∧ (¬ r2 = 0 → (vp_in v1 16 ∧ wX2_hasHose (82 + Int32.toNatClampNeg v1) x (fun r4 => ((¬ r4 = 0 → (vp_in v2 12 ∧ wX10_nearestHead (x.1 (30 + 3 * Int32.toNatClampNeg v2) 1) x (fun r6 => (vp_in v1 16 ∧ wX10_topFloor (30 + 3 * Int32.toNatClampNeg v2) r6 (x.1 (82 + Int32.toNatClampNeg v1) 5) x (fun r8 => K r8))))) ∧ (r4 = 0 → K (-1)))))))))))
set_option maxHeartbeats 4000000 in
set_option maxRecDepth 100000 in
theorem sX11_reach (v1 : Int32) (v2 : Int32)  (x : ab_X) (K : Int32 → Prop) (d bc bs : Nat) (hdp : 3 ≤ d) (h : wX11_reach v1 v2 x K) : EW MX11_reach 0 [(0, .ref 0), (1, .int v1), (2, .int v2)] [] (aS x) d bc bs (liP x K) := by
  unfold wX11_reach at h
  refine EW_aload_n (pc2 := 1) rfl dX11_reach_0 0 rfl ?_
  refine AW_getr (r := 66) ⟨gfRX11_30, rfl⟩ (pc2 := 4) rfl dX11_reach_1 q0 rfl ?_
  refine EW_iload_n (pc2 := 5) rfl dX11_reach_4 1 rfl ?_
  refine AW_invV (M' := MX0_has) [.int v1] (rest := []) mlRX11_256 okX0_has (pc2 := 8) rfl dX11_reach_5 rfl rfl (Nat.le_of_ble_eq_true rfl) (Nat.le_of_ble_eq_true rfl) (d' := 1) (by omega) q66 ⟨by decide, rfl⟩ (EW_mono (fun _ _ hr => ?_) (sX0_has v1  x _ _ 0 0 (Nat.le_refl _) h))
  obtain ⟨r1, rfl, rfl, h⟩ := hr
  refine EW_if_eq (tgt := 37) (pc2 := 11) rfl dX11_reach_8 (by decide) (fun q => ?_) (fun q => ?_)
  · replace h := h.1 q
    refine EW_iconst (pc2 := 38) (v := (-1)) rfl dX11_reach_37 (by decide) ?_
    exact AW_iret rfl dX11_reach_38 ⟨_, rfl, rfl, h⟩
  · replace h := h.2 q
    refine EW_aload_n (pc2 := 12) rfl dX11_reach_11 0 rfl ?_
    refine AW_getr (r := 9) ⟨gfRX11_21, rfl⟩ (pc2 := 15) rfl dX11_reach_12 q0 rfl ?_
    refine EW_iload_n (pc2 := 16) rfl dX11_reach_15 2 rfl ?_
    refine AW_invV (M' := MX10_has) [.int v2] (rest := []) mlRX11_124 okX10_has (pc2 := 19) rfl dX11_reach_16 rfl rfl (Nat.le_of_ble_eq_true rfl) (Nat.le_of_ble_eq_true rfl) (d' := 1) (by omega) q9 ⟨by decide, rfl⟩ (EW_mono (fun _ _ hr => ?_) (sX10_has v2  x _ _ 0 0 (Nat.le_refl _) h))
    obtain ⟨r2, rfl, rfl, h⟩ := hr
    refine EW_if_eq (tgt := 37) (pc2 := 22) rfl dX11_reach_19 (by decide) (fun q => ?_) (fun q => ?_)
    · replace h := h.1 q
      refine EW_iconst (pc2 := 38) (v := (-1)) rfl dX11_reach_37 (by decide) ?_
      exact AW_iret rfl dX11_reach_38 ⟨_, rfl, rfl, h⟩
    · replace h := h.2 q
      refine EW_aload_n (pc2 := 23) rfl dX11_reach_22 0 rfl ?_
      refine AW_getr (r := 66) ⟨gfRX11_30, rfl⟩ (pc2 := 26) rfl dX11_reach_23 q0 rfl ?_
      refine AW_getr (r := 67) ⟨gfRX11_241, rfl⟩ (pc2 := 29) rfl dX11_reach_26 q66 rfl ?_
      refine EW_iload_n (pc2 := 30) rfl dX11_reach_29 1 rfl ?_
      obtain ⟨b3, h⟩ := h
      refine AW_aald6 (pc2 := 31) rfl dX11_reach_30 b3 ?_
      refine AW_invV (M' := MX2_hasHose) [] (rest := []) mlRX11_310 okX2_hasHose (pc2 := 34) rfl dX11_reach_31 rfl rfl (Nat.le_of_ble_eq_true rfl) (Nat.le_of_ble_eq_true rfl) (d' := 0) (by omega) (isW.o (isW_of b3)) ⟨by decide, rfl⟩ (EW_mono (fun _ _ hr => ?_) (sX2_hasHose (82 + Int32.toNatClampNeg v1) (isW_of b3) x _ _ 0 0 (Nat.le_refl _) h))
      obtain ⟨r4, rfl, rfl, h⟩ := hr
      refine EW_if_ne (tgt := 39) (pc2 := 37) rfl dX11_reach_34 (by decide) (fun q => ?_) (fun q => ?_)
      · replace h := h.1 q
        refine EW_aload_n (pc2 := 40) rfl dX11_reach_39 0 rfl ?_
        refine AW_getr (r := 9) ⟨gfRX11_21, rfl⟩ (pc2 := 43) rfl dX11_reach_40 q0 rfl ?_
        refine AW_getr (r := 10) ⟨gfRX11_127, rfl⟩ (pc2 := 46) rfl dX11_reach_43 q9 rfl ?_
        refine EW_iload_n (pc2 := 47) rfl dX11_reach_46 2 rfl ?_
        obtain ⟨b5, h⟩ := h
        refine AW_aald5 (pc2 := 48) rfl dX11_reach_47 b5 ?_
        refine EW_astore_n (pc2 := 49) rfl dX11_reach_48 (by decide) [1, 2, 3, 0] [(0, .ref 0), (1, .int v1), (2, .int v2), (3, .ref (30 + 3 * Int32.toNatClampNeg v2))] rfl ?_
        refine EW_aload_n (pc2 := 50) rfl dX11_reach_49 0 rfl ?_
        refine AW_getr (r := 9) ⟨gfRX11_21, rfl⟩ (pc2 := 53) rfl dX11_reach_50 q0 rfl ?_
        refine EW_aload_n (pc2 := 54) rfl dX11_reach_53 3 rfl ?_
        refine EW_aload_n (pc2 := 55) rfl dX11_reach_54 0 rfl ?_
        refine AW_getr (r := 9) ⟨gfRX11_21, rfl⟩ (pc2 := 58) rfl dX11_reach_55 q0 rfl ?_
        refine EW_aload_n (pc2 := 59) rfl dX11_reach_58 3 rfl ?_
        refine AW_geti ⟨gfRX11_314, rfl⟩ (pc2 := 62) rfl dX11_reach_59 (isH.o (isH_of b5)) ?_
        refine AW_invV (M' := MX10_nearestHead) [.int (x.1 (30 + 3 * Int32.toNatClampNeg v2) 1)] (rest := [.ref (30 + 3 * Int32.toNatClampNeg v2), .ref 9]) mlRX11_317 okX10_nearestHead (pc2 := 65) rfl dX11_reach_62 rfl rfl (Nat.le_of_ble_eq_true rfl) (Nat.le_of_ble_eq_true rfl) (d' := 2) (by omega) q9 ⟨by decide, rfl⟩ (EW_mono (fun _ _ hr => ?_) (sX10_nearestHead (x.1 (30 + 3 * Int32.toNatClampNeg v2) 1)  x _ _ 0 0 (Nat.le_refl _) h))
        obtain ⟨r6, rfl, rfl, h⟩ := hr
        refine EW_aload_n (pc2 := 66) rfl dX11_reach_65 0 rfl ?_
        refine AW_getr (r := 66) ⟨gfRX11_30, rfl⟩ (pc2 := 69) rfl dX11_reach_66 q0 rfl ?_
        refine AW_getr (r := 67) ⟨gfRX11_241, rfl⟩ (pc2 := 72) rfl dX11_reach_69 q66 rfl ?_
        refine EW_iload_n (pc2 := 73) rfl dX11_reach_72 1 rfl ?_
        obtain ⟨b7, h⟩ := h
        refine AW_aald6 (pc2 := 74) rfl dX11_reach_73 b7 ?_
        refine AW_geti ⟨gfRX11_263, rfl⟩ (pc2 := 77) rfl dX11_reach_74 (isW.o (isW_of b7)) ?_
        refine AW_invV (M' := MX10_topFloor) [.ref (30 + 3 * Int32.toNatClampNeg v2), .int r6, .int (x.1 (82 + Int32.toNatClampNeg v1) 5)] (rest := []) mlRX11_320 okX10_topFloor (pc2 := 80) rfl dX11_reach_77 rfl rfl (Nat.le_of_ble_eq_true rfl) (Nat.le_of_ble_eq_true rfl) (d' := 2) (by omega) q9 ⟨by decide, rfl⟩ (EW_mono (fun _ _ hr => ?_) (sX10_topFloor (30 + 3 * Int32.toNatClampNeg v2) r6 (x.1 (82 + Int32.toNatClampNeg v1) 5) (isH_of b5) x _ _ 0 0 (Nat.le_refl _) h))
        obtain ⟨r8, rfl, rfl, h⟩ := hr
        exact AW_iret rfl dX11_reach_80 ⟨_, rfl, rfl, h⟩
      · replace h := h.2 q
        refine EW_iconst (pc2 := 38) (v := (-1)) rfl dX11_reach_37 (by decide) ?_
        exact AW_iret rfl dX11_reach_38 ⟨_, rfl, rfl, h⟩
