/-! floor -/
theorem c_fillS {y : ab_X} {h f st wd : Nat} (c4 : y.1 (30 + 3 * h) 4 = nI wd) (c0 : y.1 (30 + 3 * h) 0 = nI h) (hh : h < 12) (hf : f < 6) (hw : wd ≤ 4) (hr : f * wd + wd ≤ 24) {K : ab_X → Prop} (k : ∀ z : ab_X, (∀ c, c ≠ 13 → z.1 c = y.1 c) → z.2 = y.2 → (∀ k, z.1 13 k = if 24 * h + f * wd ≤ k ∧ k < 24 * h + f * wd + wd then nI st else y.1 13 k) → K z) : wX3_fill 11 (30 + 3 * h) (nI f) (nI st) y K := by
  unfold wX3_fill
  refine Lp2.ind (fun ii a z => ∃ q, q ≤ wd ∧ ii = wd - q ∧ a = nI q ∧ (∀ c, c ≠ 13 → z.1 c = y.1 c) ∧ z.2 = y.2 ∧ (∀ k, z.1 13 k = if 24 * h + f * wd ≤ k ∧ k < 24 * h + f * wd + q then nI st else y.1 13 k)) wd ⟨0, by omega, by omega, rfl, fun _ _ => rfl, rfl, fun k => by rw [if_neg (by omega)]⟩ ?_
  rintro ii a z ⟨q, hq, hii, rfl, z1, z2, z3⟩ L hL
  have d4 : z.1 (30 + 3 * h) 4 = nI wd := by rw [z1 _ (by omega)]; exact c4
  have d0 : z.1 (30 + 3 * h) 0 = nI h := by rw [z1 _ (by omega)]; exact c0
  unfold lX3_fill_3 wX4_place
  by_cases e : q = wd
  · rw [e] at z3 ⊢
    simp (disch := first | assumption | omega) only [prv_n, nxt_n, q_sw, mc4, mc6, mc8, mc20, mc24, mc100, nv_rd, nb_rd, wr_rd, nI_lit, nI_add, pk_mul, pk_sub, q_div, cl_nI, vpi, q_eq, q_le, q_lt, n1_eq, n1_eq', n1_le, n1_lt, n1_ge, n1_gt, i_0m1, nlt_t, nlt_f, nle_t, nle_f, neq_f, f_below, f_within, f_isCorner, f_isIn, f_isCornerM, f_isStreet, f_isHouse, f_isCrew, f_isRow, f_has10, f_has0, jx_I, jx_N, jx_m1, jr_I, jr_N1, jr_N2, wr_2, isB_0, isB_1, true_and, and_true, and_self, false_and, and_false, true_or, or_true, false_or, or_false, not_true_eq_false, not_false_eq_true, forall_const, implies_true, false_implies, ne_eq, eq_self, if_true, if_false, Nat.zero_add, Nat.add_zero, Nat.mul_zero, Nat.zero_mul, Nat.mul_one, Nat.one_mul, Nat.add_sub_cancel, Nat.reduceEqDiff, Nat.reduceAdd, Nat.reduceMul, Nat.reduceSub, Nat.reduceLeDiff, Nat.reduceLT, Nat.reduceDiv, Nat.reduceMod, d4]
    exact k z z1 z2 z3
  · simp (disch := first | assumption | omega) only [prv_n, nxt_n, q_sw, mc4, mc6, mc8, mc20, mc24, mc100, nv_rd, nb_rd, wr_rd, nI_lit, nI_add, pk_mul, pk_sub, q_div, cl_nI, vpi, q_eq, q_le, q_lt, n1_eq, n1_eq', n1_le, n1_lt, n1_ge, n1_gt, i_0m1, nlt_t, nlt_f, nle_t, nle_f, neq_f, f_below, f_within, f_isCorner, f_isIn, f_isCornerM, f_isStreet, f_isHouse, f_isCrew, f_isRow, f_has10, f_has0, jx_I, jx_N, jx_m1, jr_I, jr_N1, jr_N2, wr_2, isB_0, isB_1, true_and, and_true, and_self, false_and, and_false, true_or, or_true, false_or, or_false, not_true_eq_false, not_false_eq_true, forall_const, implies_true, false_implies, ne_eq, eq_self, if_true, if_false, Nat.zero_add, Nat.add_zero, Nat.mul_zero, Nat.zero_mul, Nat.mul_one, Nat.one_mul, Nat.add_sub_cancel, Nat.reduceEqDiff, Nat.reduceAdd, Nat.reduceMul, Nat.reduceSub, Nat.reduceLeDiff, Nat.reduceLT, Nat.reduceDiv, Nat.reduceMod, d4, d0]
    refine hL _ _ _ (by omega) ⟨q + 1, by omega, rfl, rfl, fun c hc => by rw [wr_n hc]; exact z1 c hc, z2, fun k => ?_⟩
    by_cases e2 : k = 24 * h + (f * wd + q)
    · rw [e2, wr_e, if_pos (by omega)]
    · rw [wr_k e2, z3 k]
      by_cases e3 : 24 * h + f * wd ≤ k ∧ k < 24 * h + f * wd + q
      · rw [if_pos e3, if_pos (by omega)]
      · rw [if_neg e3, if_neg (by omega)]
theorem p_floor {x : ab_X} {a b c d : Int32} (h : InvA x) {K : ab_X → Prop} (hk : ∀ z, InvA z → keepT x.1 z.1 → K z) :
    wX11_floor a b c d x (fun r y => wX12_floor a b c d y (fun r' z => r = r' ∧ K z)) := by
  have m : keepM x.1 (wr x 246 0 0).1 := keepM_th
  have bn := h.2.b31
  unfold wX11_floor
  rcases fl_d a b h.1 h.2 with ⟨q1, q2⟩ | ⟨i, f, hi, hf, rfl, rfl⟩
  · refine q1 _ ?_
    simp (disch := first | assumption | omega) only [prv_n, nxt_n, q_sw, mc4, mc6, mc8, mc20, mc24, mc100, nv_rd, nb_rd, wr_rd, nI_lit, nI_add, pk_mul, pk_sub, q_div, cl_nI, vpi, q_eq, q_le, q_lt, n1_eq, n1_eq', n1_le, n1_lt, n1_ge, n1_gt, i_0m1, nlt_t, nlt_f, nle_t, nle_f, neq_f, f_below, f_within, f_isCorner, f_isIn, f_isCornerM, f_isStreet, f_isHouse, f_isCrew, f_isRow, f_has10, f_has0, jx_I, jx_N, jx_m1, jr_I, jr_N1, jr_N2, wr_2, isB_0, isB_1, true_and, and_true, and_self, false_and, and_false, true_or, or_true, false_or, or_false, not_true_eq_false, not_false_eq_true, forall_const, implies_true, false_implies, ne_eq, eq_self, if_true, if_false, Nat.zero_add, Nat.add_zero, Nat.mul_zero, Nat.zero_mul, Nat.mul_one, Nat.one_mul, Nat.add_sub_cancel, Nat.reduceEqDiff, Nat.reduceAdd, Nat.reduceMul, Nat.reduceSub, Nat.reduceLeDiff, Nat.reduceLT, Nat.reduceDiv, Nat.reduceMod]
    unfold wX12_floor
    refine q2 _ m _ ?_
    simp (disch := first | assumption | omega) only [prv_n, nxt_n, q_sw, mc4, mc6, mc8, mc20, mc24, mc100, nv_rd, nb_rd, wr_rd, nI_lit, nI_add, pk_mul, pk_sub, q_div, cl_nI, vpi, q_eq, q_le, q_lt, n1_eq, n1_eq', n1_le, n1_lt, n1_ge, n1_gt, i_0m1, nlt_t, nlt_f, nle_t, nle_f, neq_f, f_below, f_within, f_isCorner, f_isIn, f_isCornerM, f_isStreet, f_isHouse, f_isCrew, f_isRow, f_has10, f_has0, jx_I, jx_N, jx_m1, jr_I, jr_N1, jr_N2, wr_2, isB_0, isB_1, true_and, and_true, and_self, false_and, and_false, true_or, or_true, false_or, or_false, not_true_eq_false, not_false_eq_true, forall_const, implies_true, false_implies, ne_eq, eq_self, if_true, if_false, Nat.zero_add, Nat.add_zero, Nat.mul_zero, Nat.zero_mul, Nat.mul_one, Nat.one_mul, Nat.add_sub_cancel, Nat.reduceEqDiff, Nat.reduceAdd, Nat.reduceMul, Nat.reduceSub, Nat.reduceLeDiff, Nat.reduceLT, Nat.reduceDiv, Nat.reduceMod]
    exact hk _ (InvA_th h) keepT_th
  have tw := h.2.tw
  have rm := rm_le tw hi
  obtain ⟨w1, -, w3, -, w5, w6, -⟩ := h.2.ho.1 i hi
  obtain ⟨t1, -, -, t4, -⟩ := h.1.ho.2.2.1 i hi
  have t0 := (h.1.ho.1 i (by omega)).1
  have u3 := w3.2
  have u5 := w5.2
  have sm1 : (f + 1) * nv x.1 257 i = f * nv x.1 257 i + nv x.1 257 i := Nat.succ_mul _ _
  have le1 : (f + 1) * nv x.1 257 i ≤ nv x.1 256 i * nv x.1 257 i := Nat.mul_le_mul_right _ hf
  refine c_hasFloor h.1 h.2 hi hf ?_
  rcases jr_d c (lo := 0) (hi := 500) (by omega) (by omega) with e | ⟨st, -, hst, rfl⟩
  · simp (disch := first | assumption | omega) only [prv_n, nxt_n, q_sw, mc4, mc6, mc8, mc20, mc24, mc100, nv_rd, nb_rd, wr_rd, nI_lit, nI_add, pk_mul, pk_sub, q_div, cl_nI, vpi, q_eq, q_le, q_lt, n1_eq, n1_eq', n1_le, n1_lt, n1_ge, n1_gt, i_0m1, nlt_t, nlt_f, nle_t, nle_f, neq_f, f_below, f_within, f_isCorner, f_isIn, f_isCornerM, f_isStreet, f_isHouse, f_isCrew, f_isRow, f_has10, f_has0, jx_I, jx_N, jx_m1, jr_I, jr_N1, jr_N2, wr_2, isB_0, isB_1, true_and, and_true, and_self, false_and, and_false, true_or, or_true, false_or, or_false, not_true_eq_false, not_false_eq_true, forall_const, implies_true, false_implies, ne_eq, eq_self, if_true, if_false, Nat.zero_add, Nat.add_zero, Nat.mul_zero, Nat.zero_mul, Nat.mul_one, Nat.one_mul, Nat.add_sub_cancel, Nat.reduceEqDiff, Nat.reduceAdd, Nat.reduceMul, Nat.reduceSub, Nat.reduceLeDiff, Nat.reduceLT, Nat.reduceDiv, Nat.reduceMod, e]
    unfold wX12_floor
    refine m_isFloor m h.2 hi hf ?_
    simp (disch := first | assumption | omega) only [prv_n, nxt_n, q_sw, mc4, mc6, mc8, mc20, mc24, mc100, nv_rd, nb_rd, wr_rd, nI_lit, nI_add, pk_mul, pk_sub, q_div, cl_nI, vpi, q_eq, q_le, q_lt, n1_eq, n1_eq', n1_le, n1_lt, n1_ge, n1_gt, i_0m1, nlt_t, nlt_f, nle_t, nle_f, neq_f, f_below, f_within, f_isCorner, f_isIn, f_isCornerM, f_isStreet, f_isHouse, f_isCrew, f_isRow, f_has10, f_has0, jx_I, jx_N, jx_m1, jr_I, jr_N1, jr_N2, wr_2, isB_0, isB_1, true_and, and_true, and_self, false_and, and_false, true_or, or_true, false_or, or_false, not_true_eq_false, not_false_eq_true, forall_const, implies_true, false_implies, ne_eq, eq_self, if_true, if_false, Nat.zero_add, Nat.add_zero, Nat.mul_zero, Nat.zero_mul, Nat.mul_one, Nat.one_mul, Nat.add_sub_cancel, Nat.reduceEqDiff, Nat.reduceAdd, Nat.reduceMul, Nat.reduceSub, Nat.reduceLeDiff, Nat.reduceLT, Nat.reduceDiv, Nat.reduceMod, e]
    exact hk _ (InvA_th h) keepT_th
  rcases jr_d d (lo := 0) (hi := 20) (by omega) (by omega) with e | ⟨pe, -, hpe, rfl⟩
  · simp (disch := first | assumption | omega) only [prv_n, nxt_n, q_sw, mc4, mc6, mc8, mc20, mc24, mc100, nv_rd, nb_rd, wr_rd, nI_lit, nI_add, pk_mul, pk_sub, q_div, cl_nI, vpi, q_eq, q_le, q_lt, n1_eq, n1_eq', n1_le, n1_lt, n1_ge, n1_gt, i_0m1, nlt_t, nlt_f, nle_t, nle_f, neq_f, f_below, f_within, f_isCorner, f_isIn, f_isCornerM, f_isStreet, f_isHouse, f_isCrew, f_isRow, f_has10, f_has0, jx_I, jx_N, jx_m1, jr_I, jr_N1, jr_N2, wr_2, isB_0, isB_1, true_and, and_true, and_self, false_and, and_false, true_or, or_true, false_or, or_false, not_true_eq_false, not_false_eq_true, forall_const, implies_true, false_implies, ne_eq, eq_self, if_true, if_false, Nat.zero_add, Nat.add_zero, Nat.mul_zero, Nat.zero_mul, Nat.mul_one, Nat.one_mul, Nat.add_sub_cancel, Nat.reduceEqDiff, Nat.reduceAdd, Nat.reduceMul, Nat.reduceSub, Nat.reduceLeDiff, Nat.reduceLT, Nat.reduceDiv, Nat.reduceMod, e]
    unfold wX12_floor
    refine m_isFloor m h.2 hi hf ?_
    simp (disch := first | assumption | omega) only [prv_n, nxt_n, q_sw, mc4, mc6, mc8, mc20, mc24, mc100, nv_rd, nb_rd, wr_rd, nI_lit, nI_add, pk_mul, pk_sub, q_div, cl_nI, vpi, q_eq, q_le, q_lt, n1_eq, n1_eq', n1_le, n1_lt, n1_ge, n1_gt, i_0m1, nlt_t, nlt_f, nle_t, nle_f, neq_f, f_below, f_within, f_isCorner, f_isIn, f_isCornerM, f_isStreet, f_isHouse, f_isCrew, f_isRow, f_has10, f_has0, jx_I, jx_N, jx_m1, jr_I, jr_N1, jr_N2, wr_2, isB_0, isB_1, true_and, and_true, and_self, false_and, and_false, true_or, or_true, false_or, or_false, not_true_eq_false, not_false_eq_true, forall_const, implies_true, false_implies, ne_eq, eq_self, if_true, if_false, Nat.zero_add, Nat.add_zero, Nat.mul_zero, Nat.zero_mul, Nat.mul_one, Nat.one_mul, Nat.add_sub_cancel, Nat.reduceEqDiff, Nat.reduceAdd, Nat.reduceMul, Nat.reduceSub, Nat.reduceLeDiff, Nat.reduceLT, Nat.reduceDiv, Nat.reduceMod, e]
    exact hk _ (InvA_th h) keepT_th
  simp (disch := first | assumption | omega) only [prv_n, nxt_n, q_sw, mc4, mc6, mc8, mc20, mc24, mc100, nv_rd, nb_rd, wr_rd, nI_lit, nI_add, pk_mul, pk_sub, q_div, cl_nI, vpi, q_eq, q_le, q_lt, n1_eq, n1_eq', n1_le, n1_lt, n1_ge, n1_gt, i_0m1, nlt_t, nlt_f, nle_t, nle_f, neq_f, f_below, f_within, f_isCorner, f_isIn, f_isCornerM, f_isStreet, f_isHouse, f_isCrew, f_isRow, f_has10, f_has0, jx_I, jx_N, jx_m1, jr_I, jr_N1, jr_N2, wr_2, isB_0, isB_1, true_and, and_true, and_self, false_and, and_false, true_or, or_true, false_or, or_false, not_true_eq_false, not_false_eq_true, forall_const, implies_true, false_implies, ne_eq, eq_self, if_true, if_false, Nat.zero_add, Nat.add_zero, Nat.mul_zero, Nat.zero_mul, Nat.mul_one, Nat.one_mul, Nat.add_sub_cancel, Nat.reduceEqDiff, Nat.reduceAdd, Nat.reduceMul, Nat.reduceSub, Nat.reduceLeDiff, Nat.reduceLT, Nat.reduceDiv, Nat.reduceMod]
  refine c_fallen h.1.tr tw (by omega) (by omega) ?_
  by_cases q5 : x.1 274 (6 * i + f) = nI 0
  case neg =>
    simp (disch := first | assumption | omega) only [prv_n, nxt_n, q_sw, mc4, mc6, mc8, mc20, mc24, mc100, nv_rd, nb_rd, wr_rd, nI_lit, nI_add, pk_mul, pk_sub, q_div, cl_nI, vpi, q_eq, q_le, q_lt, n1_eq, n1_eq', n1_le, n1_lt, n1_ge, n1_gt, i_0m1, nlt_t, nlt_f, nle_t, nle_f, neq_f, f_below, f_within, f_isCorner, f_isIn, f_isCornerM, f_isStreet, f_isHouse, f_isCrew, f_isRow, f_has10, f_has0, jx_I, jx_N, jx_m1, jr_I, jr_N1, jr_N2, wr_2, isB_0, isB_1, true_and, and_true, and_self, false_and, and_false, true_or, or_true, false_or, or_false, not_true_eq_false, not_false_eq_true, forall_const, implies_true, false_implies, ne_eq, eq_self, if_true, if_false, Nat.zero_add, Nat.add_zero, Nat.mul_zero, Nat.zero_mul, Nat.mul_one, Nat.one_mul, Nat.add_sub_cancel, Nat.reduceEqDiff, Nat.reduceAdd, Nat.reduceMul, Nat.reduceSub, Nat.reduceLeDiff, Nat.reduceLT, Nat.reduceDiv, Nat.reduceMod, q5]
    unfold wX12_floor
    refine m_isFloor m h.2 hi hf ?_
    simp (disch := first | assumption | omega) only [prv_n, nxt_n, q_sw, mc4, mc6, mc8, mc20, mc24, mc100, nv_rd, nb_rd, wr_rd, nI_lit, nI_add, pk_mul, pk_sub, q_div, cl_nI, vpi, q_eq, q_le, q_lt, n1_eq, n1_eq', n1_le, n1_lt, n1_ge, n1_gt, i_0m1, nlt_t, nlt_f, nle_t, nle_f, neq_f, f_below, f_within, f_isCorner, f_isIn, f_isCornerM, f_isStreet, f_isHouse, f_isCrew, f_isRow, f_has10, f_has0, jx_I, jx_N, jx_m1, jr_I, jr_N1, jr_N2, wr_2, isB_0, isB_1, true_and, and_true, and_self, false_and, and_false, true_or, or_true, false_or, or_false, not_true_eq_false, not_false_eq_true, forall_const, implies_true, false_implies, ne_eq, eq_self, if_true, if_false, Nat.zero_add, Nat.add_zero, Nat.mul_zero, Nat.zero_mul, Nat.mul_one, Nat.one_mul, Nat.add_sub_cancel, Nat.reduceEqDiff, Nat.reduceAdd, Nat.reduceMul, Nat.reduceSub, Nat.reduceLeDiff, Nat.reduceLT, Nat.reduceDiv, Nat.reduceMod, q5]
    exact hk _ (InvA_th h) keepT_th
  simp (disch := first | assumption | omega) only [prv_n, nxt_n, q_sw, mc4, mc6, mc8, mc20, mc24, mc100, nv_rd, nb_rd, wr_rd, nI_lit, nI_add, pk_mul, pk_sub, q_div, cl_nI, vpi, q_eq, q_le, q_lt, n1_eq, n1_eq', n1_le, n1_lt, n1_ge, n1_gt, i_0m1, nlt_t, nlt_f, nle_t, nle_f, neq_f, f_below, f_within, f_isCorner, f_isIn, f_isCornerM, f_isStreet, f_isHouse, f_isCrew, f_isRow, f_has10, f_has0, jx_I, jx_N, jx_m1, jr_I, jr_N1, jr_N2, wr_2, isB_0, isB_1, true_and, and_true, and_self, false_and, and_false, true_or, or_true, false_or, or_false, not_true_eq_false, not_false_eq_true, forall_const, implies_true, false_implies, ne_eq, eq_self, if_true, if_false, Nat.zero_add, Nat.add_zero, Nat.mul_zero, Nat.zero_mul, Nat.mul_one, Nat.one_mul, Nat.add_sub_cancel, Nat.reduceEqDiff, Nat.reduceAdd, Nat.reduceMul, Nat.reduceSub, Nat.reduceLeDiff, Nat.reduceLT, Nat.reduceDiv, Nat.reduceMod, q5]
  refine c_fillS (wd := nv x.1 257 i) (by rw [wr_n (by omega), wr_n (by omega), t4, w5.1]) (by rw [wr_n (by omega), wr_n (by omega), t0]) (by omega) (by omega) u5 (by omega) (fun y0 a1 a2 a3 => ?_)
  generalize hB : 24 * i + f * nv x.1 257 i = B at *
  -- the reference's table
  obtain ⟨s1, hs1⟩ : ∃ s1 : ab_X, s1 = wr (wr (wrT x 267 (fun k => if B ≤ k ∧ k < B + nv x.1 257 i then nI st else x.1 267 k)) 273 (6 * i + f) (nI st)) 272 (6 * i + f) (nI pe) := ⟨_, rfl⟩
  have so : ∀ c, c ≠ 267 → c ≠ 272 → c ≠ 273 → s1.1 c = x.1 c := fun c h1 h2 h3 => by rw [hs1, wr_n h2, wr_n h3, wrT_n h1]
  have s67 : s1.1 267 = fun k => if B ≤ k ∧ k < B + nv x.1 257 i then nI st else x.1 267 k := by rw [hs1, wr_n (by decide), wr_n (by decide), wrT_e]
  have s72 : ∀ k, s1.1 272 k = if k = 6 * i + f then nI pe else x.1 272 k := fun k => by
    rw [hs1]
    by_cases e : k = 6 * i + f
    · rw [if_pos e, e, wr_e]
    · rw [if_neg e, wr_k e, wr_n (by decide), wrT_n (by decide)]
  have s73 : ∀ k, s1.1 273 k = if k = 6 * i + f then nI st else x.1 273 k := fun k => by
    rw [hs1, wr_n (by decide)]
    by_cases e : k = 6 * i + f
    · rw [if_pos e, e, wr_e]
    · rw [if_neg e, wr_k e, wrT_n (by decide)]
  have s2 : s1.2 = x.2 := by rw [hs1]; rfl
  have sn : ∀ c k, c ≠ 267 → c ≠ 272 → c ≠ 273 → nv s1.1 c k = nv x.1 c k := fun c k h1 h2 h3 => by unfold nv; rw [so c h1 h2 h3]
  have yo : ∀ c, c ≠ 13 → c ≠ 30 + 3 * i + 1 → c ≠ 30 + 3 * i + 2 → y0.1 c = x.1 c := fun c h1 h2 h3 => by rw [a1 c h1, wr_n h3, wr_n h2]
  have y31 : ∀ g, y0.1 (30 + 3 * i + 1) g = if g = f then nI st else x.1 (30 + 3 * i + 1) g := fun g => by
    rw [a1 _ (by omega), wr_n (by omega)]
    by_cases e : g = f
    · rw [if_pos e, e, wr_e]
    · rw [if_neg e, wr_k e]
  have y32 : ∀ g, y0.1 (30 + 3 * i + 2) g = if g = f then nI pe else x.1 (30 + 3 * i + 2) g := fun g => by
    rw [a1 _ (by omega)]
    by_cases e : g = f
    · rw [if_pos e, e, wr_e]
    · rw [if_neg e, wr_k e, wr_n (by omega)]
  have y13 : ∀ k, y0.1 13 k = if B ≤ k ∧ k < B + nv x.1 257 i then nI st else x.1 13 k := fun k => by
    rw [a3 k, wr_n (by omega), wr_n (by omega)]
  have y2 : y0.2 = x.2 := a2
  have P : RR (mg y0 s1).1 (mg y0 s1).1 ((mg y0 s1).2.1 329) ∧ WWp (mg y0 s1).1 := by
    have gc : ∀ c, c < 246 → (mg y0 s1).1 c = y0.1 c := fun c hc => mg_c hc
    have gm : ∀ c, 246 ≤ c → (mg y0 s1).1 c = s1.1 c := fun c hc => mg_m hc
    have gs : ∀ g, nv (mg y0 s1).1 246 g = nv x.1 246 g := fun g => by unfold nv; rw [gm 246 (by decide), so 246 (by decide) (by decide) (by decide)]
    have gn : ∀ c k, 246 ≤ c → c ≠ 267 → c ≠ 272 → c ≠ 273 → nv (mg y0 s1).1 c k = nv x.1 c k := fun c k h0 h1 h2 h3 => by unfold nv; rw [gm c h0, so c h1 h2 h3]
    have go : ∀ c, 246 ≤ c → c ≠ 267 → c ≠ 272 → c ≠ 273 → (mg y0 s1).1 c = x.1 c := fun c h0 h1 h2 h3 => by rw [gm c h0, so c h1 h2 h3]
    have gx : ∀ c, c < 246 → c ≠ 13 → c ≠ 30 + 3 * i + 1 → c ≠ 30 + 3 * i + 2 → (mg y0 s1).1 c = x.1 c := fun c h0 h1 h2 h3 => by rw [gc c h0, yo c h1 h2 h3]
    refine InvP_chg h (L := [(13, 13), (30, 65), (267, 267), (272, 273)]) (S := []) (C := []) ⟨fun c p q r0 => ?_, fun f p => ?_, fun c f p q0 => ?_⟩ (Or.inl rfl) (Or.inl rfl) (Or.inr ?ho) (Or.inr ?fi) (Or.inl rfl) (Or.inl rfl) (Or.inl rfl) (Or.inl rfl) (Or.inl rfl) (Or.inl rfl) (Or.inl ⟨rfl, by show s1.2.1 329 = _; rw [s2]⟩) (Or.inl rfl) (Or.inl rfl) (Or.inl rfl) (Or.inr ?who) (Or.inr ?wfi) (Or.inl rfl) (Or.inl rfl) (Or.inl rfl) (Or.inl rfl)
    · have r1 : c < 13 ∨ 13 < c := r0 (13, 13) (by simp)
      have r2 : c < 30 ∨ 65 < c := r0 (30, 65) (by simp)
      have r3 : c < 267 ∨ 267 < c := r0 (267, 267) (by simp)
      have r4 : c < 272 ∨ 273 < c := r0 (272, 273) (by simp)
      by_cases lt : c < 246
      · exact gx c lt (by omega) (by omega) (by omega)
      · exact go c (by omega) (by omega) (by omega) (by omega)
    · rw [go 246 (by decide) (by decide) (by decide) (by decide)]
    · unfold scC at p
      rw [gx c (by omega) (by omega) (by omega) (by omega)]
    case ho =>
      obtain ⟨h1, h2, h3, h4⟩ := h.1.ho
      have gp : ∀ j, prv (mg y0 s1).1 j = prv x.1 j := fun j => by unfold prv; rw [go 254 (by decide) (by decide) (by decide) (by decide)]
      have gq : ∀ n j, nxt (mg y0 s1).1 n j = nxt x.1 n j := fun n j => by unfold nxt; rw [go 254 (by decide) (by decide) (by decide) (by decide)]
      refine ⟨fun j p => ?_, fun j g p p' => ?_, fun j p => ?_, fun j p p' => ?_⟩
      · rw [gx (30 + 3 * j) (by omega) (by omega) (by omega) (by omega), go 265 (by decide) (by decide) (by decide) (by decide), go 259 (by decide) (by decide) (by decide) (by decide), go 261 (by decide) (by decide) (by decide) (by decide), go 262 (by decide) (by decide) (by decide) (by decide), go 263 (by decide) (by decide) (by decide) (by decide), go 264 (by decide) (by decide) (by decide) (by decide)]
        exact h1 j p
      · rw [gc (30 + 3 * j + 1) (by omega), gc (30 + 3 * j + 2) (by omega), gm 273 (by decide), gm 272 (by decide), s73, s72]
        have := h2 j g p p'
        by_cases e : j = i
        · subst e
          rw [y31, y32]
          by_cases e2 : g = f
          · rw [if_pos e2, if_pos e2, if_pos (by omega), if_pos (by omega)]; exact ⟨rfl, rfl⟩
          · rw [if_neg e2, if_neg e2, if_neg (by omega), if_neg (by omega)]; exact this
        · rw [yo _ (by omega) (by omega) (by omega), yo _ (by omega) (by omega) (by omega), if_neg (by omega), if_neg (by omega)]; exact this
      · rw [gs] at p
        rw [gx (30 + 3 * j) (by omega) (by omega) (by omega) (by omega), go 254 (by decide) (by decide) (by decide) (by decide), go 255 (by decide) (by decide) (by decide) (by decide), go 256 (by decide) (by decide) (by decide) (by decide), go 257 (by decide) (by decide) (by decide) (by decide), go 258 (by decide) (by decide) (by decide) (by decide), go 260 (by decide) (by decide) (by decide) (by decide), gp, gq, gs]
        exact h3 j p
      · rw [gs] at p
        rw [gx (30 + 3 * j) (by omega) (by omega) (by omega) (by omega)]
        exact h4 j p p'
    case fi =>
      obtain ⟨f1, f2, f3, f4⟩ := h.1.fi
      refine ⟨fun k p => ?_, fun k p => ?_, ?_, ?_⟩
      · rw [gx 12 (by decide) (by decide) (by omega) (by omega), gc 13 (by decide), gx 17 (by decide) (by decide) (by omega) (by omega), gx 25 (by decide) (by decide) (by omega) (by omega), go 266 (by decide) (by decide) (by decide) (by decide), gm 267 (by decide), s67, y13]
        obtain ⟨b1, b2, b3, b4⟩ := f1 k p
        refine ⟨b1, ?_, b3, b4⟩
        show _ = (if B ≤ k ∧ k < B + nv x.1 257 i then nI st else x.1 267 k)
        rw [b2]
      · rw [gx 15 (by decide) (by decide) (by omega) (by omega), gx 16 (by decide) (by decide) (by omega) (by omega), gx 24 (by decide) (by decide) (by omega) (by omega), go 271 (by decide) (by decide) (by decide) (by decide), go 274 (by decide) (by decide) (by decide) (by decide)]
        exact f2 k p
      · rw [gx 11 (by decide) (by decide) (by omega) (by omega)]; exact f3
      · rw [gx 11 (by decide) (by decide) (by omega) (by omega), go 266 (by decide) (by decide) (by decide) (by decide)]; exact f4
    case who =>
      obtain ⟨h1, h2, h3⟩ := h.2.ho
      have nbk : ∀ c k e, 246 ≤ c → c ≠ 267 → c ≠ 272 → c ≠ 273 → nbd x.1 c k e → nbd (mg y0 s1).1 c k e := fun c k e p1 p2 p3 p4 u => by unfold nbd nv at u ⊢; rw [go c p1 p2 p3 p4]; exact u
      refine ⟨fun j p => ?_, fun j p => ?_, fun k p => ?_⟩
      · rw [gs] at p
        obtain ⟨b1, b2, b3, b4, b5, b6, b7, b8, b9⟩ := h1 j p
        rw [gn 256 j (by decide) (by decide) (by decide) (by decide), gn 257 j (by decide) (by decide) (by decide) (by decide), gn 260 j (by decide) (by decide) (by decide) (by decide), go 258 (by decide) (by decide) (by decide) (by decide)]
        exact ⟨nbk _ _ _ (by decide) (by decide) (by decide) (by decide) b1, nbk _ _ _ (by decide) (by decide) (by decide) (by decide) b2, nbk _ _ _ (by decide) (by decide) (by decide) (by decide) b3, b4, nbk _ _ _ (by decide) (by decide) (by decide) (by decide) b5, b6, b7.imp id (nbk _ _ _ (by decide) (by decide) (by decide) (by decide)), nbk _ _ _ (by decide) (by decide) (by decide) (by decide) b8, b9⟩
      · obtain ⟨b1, b2, b3⟩ := h2 j p
        rw [go 265 (by decide) (by decide) (by decide) (by decide)]
        exact ⟨nbk _ _ _ (by decide) (by decide) (by decide) (by decide) b1, nbk _ _ _ (by decide) (by decide) (by decide) (by decide) b2, b3⟩
      · obtain ⟨b1, b2⟩ := h3 k p
        by_cases e : k = 6 * i + f
        · exact ⟨nb_of (by rw [gm 272 (by decide), s72, if_pos e]) hpe (by decide), nb_of (by rw [gm 273 (by decide), s73, if_pos e]) hst (by decide)⟩
        · unfold nbd nv at b1 b2 ⊢
          rw [gm 272 (by decide), gm 273 (by decide), s72, s73, if_neg e, if_neg e]; exact ⟨b1, b2⟩
    case wfi =>
      obtain ⟨z1, z2, z3, z4, z5, z6, z7⟩ := h.2.fi
      refine ⟨fun k p => ?_, fun k p => ?_, fun j r p p' u => ?_, fun j g r p p' u u' => ?_, fun k p u => ?_, ?_, fun j g p p' u => ?_⟩
      · obtain ⟨b1, b2⟩ := z1 k p
        constructor
        · unfold nbd nv at b1 ⊢; rw [go 266 (by decide) (by decide) (by decide) (by decide)]; exact b1
        · by_cases e : B ≤ k ∧ k < B + nv x.1 257 i
          · exact nb_of (n := st) (by rw [gm 267 (by decide), s67]; show (if _ then _ else _) = _; rw [if_pos e]) (by omega) (by decide)
          · have e67 : s1.1 267 k = x.1 267 k := by rw [s67]; exact if_neg e
            unfold nbd nv at b2 ⊢
            rw [gm 267 (by decide), e67]
            exact b2
      · rw [go 274 (by decide) (by decide) (by decide) (by decide)]; exact z2 k p
      · rw [gs, gn 256 j (by decide) (by decide) (by decide) (by decide), gn 257 j (by decide) (by decide) (by decide) (by decide)] at u
        rw [go 266 (by decide) (by decide) (by decide) (by decide)]; exact z3 j r p p' u
      · rw [gs] at p
        rw [gn 256 j (by decide) (by decide) (by decide) (by decide)] at p'
        rw [gn 257 j (by decide) (by decide) (by decide) (by decide)] at u ⊢
        rw [go 274 (by decide) (by decide) (by decide) (by decide)] at u'
        rw [go 266 (by decide) (by decide) (by decide) (by decide)]; exact z4 j g r p p' u u'
      · rw [go 274 (by decide) (by decide) (by decide) (by decide)] at u
        rw [gm 272 (by decide), s72]
        by_cases e : k = 6 * i + f
        · rw [e] at u; exact absurd q5 u
        · rw [if_neg e]; exact z5 k p u
      · intro j g p p' u
        rw [gs] at p
        rw [gn 256 j (by decide) (by decide) (by decide) (by decide)] at p'
        rw [go 274 (by decide) (by decide) (by decide) (by decide)] at u
        unfold ld brN
        rw [go 271 (by decide) (by decide) (by decide) (by decide), gn 257 j (by decide) (by decide) (by decide) (by decide), gn 255 j (by decide) (by decide) (by decide) (by decide)]
        exact z6 j g p p' u
      · rw [gs] at p
        rw [go 271 (by decide) (by decide) (by decide) (by decide)]; exact z7 j g p p' u
  have rr := RR_mg P.2.b31 P.2.b58 P.2.b92 P.1 (X := y0.1) (Y := s1.1) (fun c hc => (mg_c hc).symm) (fun c hc => (mg_m hc).symm)
  have wp := WWp_mg (Y := s1.1) P.2 (fun c hc => (mg_m hc).symm)
  refine c_wit rr wp (fun y y1 y2' y3 y4 y5 => ?_)
  have iy := wit_inv rr wp y1 y2' y3 y4
  have yx : ∀ c, 246 ≤ c → y.1 c = x.1 c := fun c hc => by rw [y1 c (by omega), yo c (by omega) (by omega) (by omega)]
  have my : keepM x.1 (wr y 246 0 (nI 0)).1 := ⟨fun c q => by rw [wr_n (by unfold kM at q; omega)]; exact yx c (kM_ge q), fun g q => by rw [wr_k (by unfold kS at q; omega), yx 246 (by decide)]⟩
  unfold wX12_floor
  refine m_isFloor my h.2 hi hf ?_
  have g4 : y.1 274 (6 * i + f) = nI 0 := by rw [yx 274 (by decide), q5]
  simp (disch := first | assumption | omega) only [prv_n, nxt_n, q_sw, mc4, mc6, mc8, mc20, mc24, mc100, nv_rd, nb_rd, wr_rd, nI_lit, nI_add, pk_mul, pk_sub, q_div, cl_nI, vpi, q_eq, q_le, q_lt, n1_eq, n1_eq', n1_le, n1_lt, n1_ge, n1_gt, i_0m1, nlt_t, nlt_f, nle_t, nle_f, neq_f, f_below, f_within, f_isCorner, f_isIn, f_isCornerM, f_isStreet, f_isHouse, f_isCrew, f_isRow, f_has10, f_has0, jx_I, jx_N, jx_m1, jr_I, jr_N1, jr_N2, wr_2, isB_0, isB_1, true_and, and_true, and_self, false_and, and_false, true_or, or_true, false_or, or_false, not_true_eq_false, not_false_eq_true, forall_const, implies_true, false_implies, ne_eq, eq_self, if_true, if_false, Nat.zero_add, Nat.add_zero, Nat.mul_zero, Nat.zero_mul, Nat.mul_one, Nat.one_mul, Nat.add_sub_cancel, Nat.reduceEqDiff, Nat.reduceAdd, Nat.reduceMul, Nat.reduceSub, Nat.reduceLeDiff, Nat.reduceLT, Nat.reduceDiv, Nat.reduceMod, g4]
  refine Lp2.ind (fun ii a z => ∃ q, q ≤ nv x.1 257 i ∧ ii = nv x.1 257 i - q ∧ a = nI q ∧ (∀ c, c ≠ 267 → z.1 c = (wr y 246 0 (nI 0)).1 c) ∧ z.2 = y.2 ∧ (∀ k, z.1 267 k = if B ≤ k ∧ k < B + q then nI st else x.1 267 k)) (nv x.1 257 i) ⟨0, by omega, by omega, rfl, fun _ _ => rfl, rfl, fun k => by rw [if_neg (by omega), wr_n (by decide), yx 267 (by decide)]⟩ ?_
  rintro ii a z ⟨q, hq, hii, rfl, z1, z2, z3⟩ L hL
  have e7 : z.1 257 i = nI (nv x.1 257 i) := by rw [z1 257 (by decide), wr_n (by decide), yx 257 (by decide), w5.1]
  unfold lX12_floor_55
  by_cases e : q = nv x.1 257 i
  case neg =>
    simp (disch := first | assumption | omega) only [prv_n, nxt_n, q_sw, mc4, mc6, mc8, mc20, mc24, mc100, nv_rd, nb_rd, wr_rd, nI_lit, nI_add, pk_mul, pk_sub, q_div, cl_nI, vpi, q_eq, q_le, q_lt, n1_eq, n1_eq', n1_le, n1_lt, n1_ge, n1_gt, i_0m1, nlt_t, nlt_f, nle_t, nle_f, neq_f, f_below, f_within, f_isCorner, f_isIn, f_isCornerM, f_isStreet, f_isHouse, f_isCrew, f_isRow, f_has10, f_has0, jx_I, jx_N, jx_m1, jr_I, jr_N1, jr_N2, wr_2, isB_0, isB_1, true_and, and_true, and_self, false_and, and_false, true_or, or_true, false_or, or_false, not_true_eq_false, not_false_eq_true, forall_const, implies_true, false_implies, ne_eq, eq_self, if_true, if_false, Nat.zero_add, Nat.add_zero, Nat.mul_zero, Nat.zero_mul, Nat.mul_one, Nat.one_mul, Nat.add_sub_cancel, Nat.reduceEqDiff, Nat.reduceAdd, Nat.reduceMul, Nat.reduceSub, Nat.reduceLeDiff, Nat.reduceLT, Nat.reduceDiv, Nat.reduceMod, e7, hB]
    refine hL _ _ _ (by omega) ⟨q + 1, by omega, rfl, rfl, fun c hc => by rw [wr_n hc]; exact z1 c hc, z2, fun k => ?_⟩
    by_cases e2 : k = B + q
    · rw [e2, wr_e, if_pos (by omega)]
    · rw [wr_k e2, z3 k]
      by_cases e3 : B ≤ k ∧ k < B + q
      · rw [if_pos e3, if_pos (by omega)]
      · rw [if_neg e3, if_neg (by omega)]
  rw [e] at z3 ⊢
  have e4 : z.1 254 i = x.1 254 i := by rw [z1 254 (by decide), wr_n (by decide), yx 254 (by decide)]
  simp (disch := first | assumption | omega) only [prv_n, nxt_n, q_sw, mc4, mc6, mc8, mc20, mc24, mc100, nv_rd, nb_rd, wr_rd, nI_lit, nI_add, pk_mul, pk_sub, q_div, cl_nI, vpi, q_eq, q_le, q_lt, n1_eq, n1_eq', n1_le, n1_lt, n1_ge, n1_gt, i_0m1, nlt_t, nlt_f, nle_t, nle_f, neq_f, f_below, f_within, f_isCorner, f_isIn, f_isCornerM, f_isStreet, f_isHouse, f_isCrew, f_isRow, f_has10, f_has0, jx_I, jx_N, jx_m1, jr_I, jr_N1, jr_N2, wr_2, isB_0, isB_1, true_and, and_true, and_self, false_and, and_false, true_or, or_true, false_or, or_false, not_true_eq_false, not_false_eq_true, forall_const, implies_true, false_implies, ne_eq, eq_self, if_true, if_false, Nat.zero_add, Nat.add_zero, Nat.mul_zero, Nat.zero_mul, Nat.mul_one, Nat.one_mul, Nat.add_sub_cancel, Nat.reduceEqDiff, Nat.reduceAdd, Nat.reduceMul, Nat.reduceSub, Nat.reduceLeDiff, Nat.reduceLT, Nat.reduceDiv, Nat.reduceMod, e7, e4]
  have mz : keepM s1.1 (wr (wr z 273 (6 * i + f) (nI st)) 272 (6 * i + f) (nI pe)).1 := by
    rw [hs1]
    refine keepM_wr (keepM_wr ⟨fun c p => ?_, fun g p => ?_⟩)
    · by_cases ec : c = 267
      · subst ec; rw [wrT_e]; funext k; exact z3 k
      · rw [wrT_n ec, z1 c ec]; exact my.1 c p
    · rw [wrT_n (by decide), z1 246 (by decide)]; exact my.2 g p
  refine m_mark mz wp (fun k hk h1 h2 h3 => ?_) (fun z' mz2 z1' z2' => hk z' ?_ ?_)
  · rw [sn 246 92 (by decide) (by decide) (by decide)] at hk
    rw [so 312 (by decide) (by decide) (by decide)] at h1
    rw [so 310 (by decide) (by decide) (by decide)] at h2 h3
    rw [so 318 (by decide) (by decide) (by decide)]
    refine h.2.cb k hk h1 ?_
    rw [wor_same (Y := x.1) (Z := s1.1) (i := i) (so 254 (by decide) (by decide) (by decide)) (sn 246 31 (by decide) (by decide) (by decide)) (fun h' hh' hne => bg_same tw hh' hne (so 256 (by decide) (by decide) (by decide)) (so 257 (by decide) (by decide) (by decide)) (fun k hk => by rw [so 266 (by decide) (by decide) (by decide)]) (fun k hk => by rw [s67]; show (if _ then _ else _) = _; rw [if_neg (by omega)])) (fun e => h3 e.symm)] at h2
    exact h2
  · refine iy.fin (fun c hc => ?_) mz2 (fun k p => ?_) ?_
    · rw [z1' c (by omega), wr_n (by omega), wr_n (by omega), z1 c (by omega), wr_n (by omega)]
    · rw [z1' 268 (by decide), wr_n (by decide), wr_n (by decide), z1 268 (by decide), wr_n (by decide), yx 268 (by decide)]; exact h.1.wa k p
    · rw [z2']
      show z.2.1 329 = s1.2.1 329
      rw [z2, y5, y2, s2]
  · intro c k q
    unfold tk at q
    rw [z1' c (by omega), wr_n (by omega), wr_n (by omega), z1 c (by omega), wr_ne (by omega), y1 c (by omega), yo c (by omega) (by omega) (by omega)]
