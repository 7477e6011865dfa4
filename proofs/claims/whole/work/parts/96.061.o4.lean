/-! ORDERS: what they would ask for. -/
def rdy (Y : Nat → Nat → Int32) (a : Int32) : Int32 := sm (fun k => b2 (Y 279 k = a ∧ Y 286 k = nI 0)) (nv Y 246 58)
theorem c_ready {x : ab_X} {Y : Nat → Nat → Int32} {D : Nat → UInt64} {a : Int32} (r : RR x.1 Y D) (w : WW Y) {K : Int32 → Prop} (k : K (rdy Y a)) : wX0_readyOf a x K := by
  have b := w.b58
  unfold wX0_readyOf
  refine lp_sum (nv Y 246 58) _ (K := K) ?_ ?_ k
  · intro i s L hi hL
    unfold lX0_readyOf_4 wX0_readyOf_42 wX0_readyOf_43
    have e0 := (r.cr.1 i hi).1
    have e8 := (r.cr.1 i hi).2.2.2.2.2.2.2.2.1
    by_cases q : Y 279 i = a
    · by_cases q2 : Y 286 i = nI 0
      · rw [b2_t ⟨q, q2⟩] at hL
        simp (disch := first | assumption | omega) only [prv_n, nxt_n, q_sw, mc4, mc6, mc8, mc20, mc24, mc100, nv_rd, nb_rd, wr_rd, nI_lit, nI_add, pk_mul, pk_sub, q_div, cl_nI, vpi, q_eq, q_le, q_lt, n1_eq, n1_eq', n1_le, n1_lt, n1_ge, n1_gt, i_0m1, nlt_t, nlt_f, nle_t, nle_f, neq_f, f_below, f_within, f_isCorner, f_isIn, f_isCornerM, f_isStreet, f_isHouse, f_isCrew, f_isRow, f_has10, f_has0, jx_I, jx_N, jx_m1, jr_I, jr_N1, jr_N2, wr_2, isB_0, isB_1, true_and, and_true, and_self, false_and, and_false, true_or, or_true, false_or, or_false, not_true_eq_false, not_false_eq_true, forall_const, implies_true, false_implies, ne_eq, eq_self, if_true, if_false, Nat.zero_add, Nat.add_zero, Nat.mul_zero, Nat.zero_mul, Nat.mul_one, Nat.one_mul, Nat.add_sub_cancel, Nat.reduceEqDiff, Nat.reduceAdd, Nat.reduceMul, Nat.reduceSub, Nat.reduceLeDiff, Nat.reduceLT, Nat.reduceDiv, Nat.reduceMod, r.s58, w.v58, e0, e8, q, q2]
        exact hL
      · rw [b2_f (fun u => q2 u.2)] at hL
        simp (disch := first | assumption | omega) only [prv_n, nxt_n, q_sw, mc4, mc6, mc8, mc20, mc24, mc100, nv_rd, nb_rd, wr_rd, nI_lit, nI_add, pk_mul, pk_sub, q_div, cl_nI, vpi, q_eq, q_le, q_lt, n1_eq, n1_eq', n1_le, n1_lt, n1_ge, n1_gt, i_0m1, nlt_t, nlt_f, nle_t, nle_f, neq_f, f_below, f_within, f_isCorner, f_isIn, f_isCornerM, f_isStreet, f_isHouse, f_isCrew, f_isRow, f_has10, f_has0, jx_I, jx_N, jx_m1, jr_I, jr_N1, jr_N2, wr_2, isB_0, isB_1, true_and, and_true, and_self, false_and, and_false, true_or, or_true, false_or, or_false, not_true_eq_false, not_false_eq_true, forall_const, implies_true, false_implies, ne_eq, eq_self, if_true, if_false, Nat.zero_add, Nat.add_zero, Nat.mul_zero, Nat.zero_mul, Nat.mul_one, Nat.one_mul, Nat.add_sub_cancel, Nat.reduceEqDiff, Nat.reduceAdd, Nat.reduceMul, Nat.reduceSub, Nat.reduceLeDiff, Nat.reduceLT, Nat.reduceDiv, Nat.reduceMod, r.s58, w.v58, e0, e8, q, q2]
        exact hL
    · rw [b2_f (fun u => q u.1)] at hL
      simp (disch := first | assumption | omega) only [prv_n, nxt_n, q_sw, mc4, mc6, mc8, mc20, mc24, mc100, nv_rd, nb_rd, wr_rd, nI_lit, nI_add, pk_mul, pk_sub, q_div, cl_nI, vpi, q_eq, q_le, q_lt, n1_eq, n1_eq', n1_le, n1_lt, n1_ge, n1_gt, i_0m1, nlt_t, nlt_f, nle_t, nle_f, neq_f, f_below, f_within, f_isCorner, f_isIn, f_isCornerM, f_isStreet, f_isHouse, f_isCrew, f_isRow, f_has10, f_has0, jx_I, jx_N, jx_m1, jr_I, jr_N1, jr_N2, wr_2, isB_0, isB_1, true_and, and_true, and_self, false_and, and_false, true_or, or_true, false_or, or_false, not_true_eq_false, not_false_eq_true, forall_const, implies_true, false_implies, ne_eq, eq_self, if_true, if_false, Nat.zero_add, Nat.add_zero, Nat.mul_zero, Nat.zero_mul, Nat.mul_one, Nat.one_mul, Nat.add_sub_cancel, Nat.reduceEqDiff, Nat.reduceAdd, Nat.reduceMul, Nat.reduceSub, Nat.reduceLeDiff, Nat.reduceLT, Nat.reduceDiv, Nat.reduceMod, r.s58, w.v58, e0, e8, q]
      exact hL
  · intro s L hK
    unfold lX0_readyOf_4
    simp (disch := first | assumption | omega) only [prv_n, nxt_n, q_sw, mc4, mc6, mc8, mc20, mc24, mc100, nv_rd, nb_rd, wr_rd, nI_lit, nI_add, pk_mul, pk_sub, q_div, cl_nI, vpi, q_eq, q_le, q_lt, n1_eq, n1_eq', n1_le, n1_lt, n1_ge, n1_gt, i_0m1, nlt_t, nlt_f, nle_t, nle_f, neq_f, f_below, f_within, f_isCorner, f_isIn, f_isCornerM, f_isStreet, f_isHouse, f_isCrew, f_isRow, f_has10, f_has0, jx_I, jx_N, jx_m1, jr_I, jr_N1, jr_N2, wr_2, isB_0, isB_1, true_and, and_true, and_self, false_and, and_false, true_or, or_true, false_or, or_false, not_true_eq_false, not_false_eq_true, forall_const, implies_true, false_implies, ne_eq, eq_self, if_true, if_false, Nat.zero_add, Nat.add_zero, Nat.mul_zero, Nat.zero_mul, Nat.mul_one, Nat.one_mul, Nat.add_sub_cancel, Nat.reduceEqDiff, Nat.reduceAdd, Nat.reduceMul, Nat.reduceSub, Nat.reduceLeDiff, Nat.reduceLT, Nat.reduceDiv, Nat.reduceMod, r.s58, w.v58]
    exact hK
theorem m_ready {x : ab_X} {Y : Nat → Nat → Int32} {a : Int32} (m : keepM Y x.1) (w : WW Y) {K : Int32 → Prop} (k : K (rdy Y a)) : wX12_readyOf a x K := by
  have b := w.b58
  unfold wX12_readyOf
  refine lp_sum (nv Y 246 58) _ (K := K) ?_ ?_ k
  · intro i s L hi hL
    unfold lX12_readyOf_4 wX12_readyOf_36 wX12_readyOf_37
    by_cases q : Y 279 i = a
    · by_cases q2 : Y 286 i = nI 0
      · rw [b2_t ⟨q, q2⟩] at hL
        simp (disch := first | assumption | omega) only [prv_n, nxt_n, q_sw, mc4, mc6, mc8, mc20, mc24, mc100, nv_rd, nb_rd, wr_rd, nI_lit, nI_add, pk_mul, pk_sub, q_div, cl_nI, vpi, q_eq, q_le, q_lt, n1_eq, n1_eq', n1_le, n1_lt, n1_ge, n1_gt, i_0m1, nlt_t, nlt_f, nle_t, nle_f, neq_f, f_below, f_within, f_isCorner, f_isIn, f_isCornerM, f_isStreet, f_isHouse, f_isCrew, f_isRow, f_has10, f_has0, jx_I, jx_N, jx_m1, jr_I, jr_N1, jr_N2, wr_2, isB_0, isB_1, true_and, and_true, and_self, false_and, and_false, true_or, or_true, false_or, or_false, not_true_eq_false, not_false_eq_true, forall_const, implies_true, false_implies, ne_eq, eq_self, if_true, if_false, Nat.zero_add, Nat.add_zero, Nat.mul_zero, Nat.zero_mul, Nat.mul_one, Nat.one_mul, Nat.add_sub_cancel, Nat.reduceEqDiff, Nat.reduceAdd, Nat.reduceMul, Nat.reduceSub, Nat.reduceLeDiff, Nat.reduceLT, Nat.reduceDiv, Nat.reduceMod, m.s58, w.v58, m.c279, m.c286, q, q2]
        exact hL
      · rw [b2_f (fun u => q2 u.2)] at hL
        simp (disch := first | assumption | omega) only [prv_n, nxt_n, q_sw, mc4, mc6, mc8, mc20, mc24, mc100, nv_rd, nb_rd, wr_rd, nI_lit, nI_add, pk_mul, pk_sub, q_div, cl_nI, vpi, q_eq, q_le, q_lt, n1_eq, n1_eq', n1_le, n1_lt, n1_ge, n1_gt, i_0m1, nlt_t, nlt_f, nle_t, nle_f, neq_f, f_below, f_within, f_isCorner, f_isIn, f_isCornerM, f_isStreet, f_isHouse, f_isCrew, f_isRow, f_has10, f_has0, jx_I, jx_N, jx_m1, jr_I, jr_N1, jr_N2, wr_2, isB_0, isB_1, true_and, and_true, and_self, false_and, and_false, true_or, or_true, false_or, or_false, not_true_eq_false, not_false_eq_true, forall_const, implies_true, false_implies, ne_eq, eq_self, if_true, if_false, Nat.zero_add, Nat.add_zero, Nat.mul_zero, Nat.zero_mul, Nat.mul_one, Nat.one_mul, Nat.add_sub_cancel, Nat.reduceEqDiff, Nat.reduceAdd, Nat.reduceMul, Nat.reduceSub, Nat.reduceLeDiff, Nat.reduceLT, Nat.reduceDiv, Nat.reduceMod, m.s58, w.v58, m.c279, m.c286, q, q2]
        exact hL
    · rw [b2_f (fun u => q u.1)] at hL
      simp (disch := first | assumption | omega) only [prv_n, nxt_n, q_sw, mc4, mc6, mc8, mc20, mc24, mc100, nv_rd, nb_rd, wr_rd, nI_lit, nI_add, pk_mul, pk_sub, q_div, cl_nI, vpi, q_eq, q_le, q_lt, n1_eq, n1_eq', n1_le, n1_lt, n1_ge, n1_gt, i_0m1, nlt_t, nlt_f, nle_t, nle_f, neq_f, f_below, f_within, f_isCorner, f_isIn, f_isCornerM, f_isStreet, f_isHouse, f_isCrew, f_isRow, f_has10, f_has0, jx_I, jx_N, jx_m1, jr_I, jr_N1, jr_N2, wr_2, isB_0, isB_1, true_and, and_true, and_self, false_and, and_false, true_or, or_true, false_or, or_false, not_true_eq_false, not_false_eq_true, forall_const, implies_true, false_implies, ne_eq, eq_self, if_true, if_false, Nat.zero_add, Nat.add_zero, Nat.mul_zero, Nat.zero_mul, Nat.mul_one, Nat.one_mul, Nat.add_sub_cancel, Nat.reduceEqDiff, Nat.reduceAdd, Nat.reduceMul, Nat.reduceSub, Nat.reduceLeDiff, Nat.reduceLT, Nat.reduceDiv, Nat.reduceMod, m.s58, w.v58, m.c279, m.c286, q]
      exact hL
  · intro s L hK
    unfold lX12_readyOf_4
    simp (disch := first | assumption | omega) only [prv_n, nxt_n, q_sw, mc4, mc6, mc8, mc20, mc24, mc100, nv_rd, nb_rd, wr_rd, nI_lit, nI_add, pk_mul, pk_sub, q_div, cl_nI, vpi, q_eq, q_le, q_lt, n1_eq, n1_eq', n1_le, n1_lt, n1_ge, n1_gt, i_0m1, nlt_t, nlt_f, nle_t, nle_f, neq_f, f_below, f_within, f_isCorner, f_isIn, f_isCornerM, f_isStreet, f_isHouse, f_isCrew, f_isRow, f_has10, f_has0, jx_I, jx_N, jx_m1, jr_I, jr_N1, jr_N2, wr_2, isB_0, isB_1, true_and, and_true, and_self, false_and, and_false, true_or, or_true, false_or, or_false, not_true_eq_false, not_false_eq_true, forall_const, implies_true, false_implies, ne_eq, eq_self, if_true, if_false, Nat.zero_add, Nat.add_zero, Nat.mul_zero, Nat.zero_mul, Nat.mul_one, Nat.one_mul, Nat.add_sub_cancel, Nat.reduceEqDiff, Nat.reduceAdd, Nat.reduceMul, Nat.reduceSub, Nat.reduceLeDiff, Nat.reduceLT, Nat.reduceDiv, Nat.reduceMod, m.s58, w.v58]
    exact hK
theorem c_openAt {x : ab_X} {Y : Nat → Nat → Int32} {D : Nat → UInt64} {c : Int32} (r : RR x.1 Y D) (w : WW Y) {K : Int32 → Prop} (k : K (oaI Y c)) : wX0_openAt c x K := by
  have b := w.b92
  unfold wX0_openAt
  refine Lp1.ind (fun i a => ∃ j, j ≤ nv Y 246 92 ∧ i = nv Y 246 92 - j ∧ a = nI j ∧ ∀ h, h < j → opB Y c h = false) (nv Y 246 92) ⟨0, by omega, by omega, rfl, fun h hh => by omega⟩ ?_
  rintro i a ⟨j, hj, rfl, rfl, z⟩ L hL
  unfold lX0_openAt_2
  by_cases e : j = nv Y 246 92
  · have : oaI Y c = -nI 1 := fstB_no (fun h _ h2 => z h (by omega))
    rw [this] at k
    simp (disch := first | assumption | omega) only [prv_n, nxt_n, q_sw, mc4, mc6, mc8, mc20, mc24, mc100, nv_rd, nb_rd, wr_rd, nI_lit, nI_add, pk_mul, pk_sub, q_div, cl_nI, vpi, q_eq, q_le, q_lt, n1_eq, n1_eq', n1_le, n1_lt, n1_ge, n1_gt, i_0m1, nlt_t, nlt_f, nle_t, nle_f, neq_f, f_below, f_within, f_isCorner, f_isIn, f_isCornerM, f_isStreet, f_isHouse, f_isCrew, f_isRow, f_has10, f_has0, jx_I, jx_N, jx_m1, jr_I, jr_N1, jr_N2, wr_2, isB_0, isB_1, true_and, and_true, and_self, false_and, and_false, true_or, or_true, false_or, or_false, not_true_eq_false, not_false_eq_true, forall_const, implies_true, false_implies, ne_eq, eq_self, if_true, if_false, Nat.zero_add, Nat.add_zero, Nat.mul_zero, Nat.zero_mul, Nat.mul_one, Nat.one_mul, Nat.add_sub_cancel, Nat.reduceEqDiff, Nat.reduceAdd, Nat.reduceMul, Nat.reduceSub, Nat.reduceLeDiff, Nat.reduceLT, Nat.reduceDiv, Nat.reduceMod, r.s92, w.v92]
    exact k
  · have next : opB Y c j = false → L (nI (j + 1)) := fun hb => hL _ _ (by omega) ⟨j + 1, by omega, rfl, rfl, fun h hh => by
      by_cases q : h = j
      · subst q; exact hb
      · exact z h (by omega)⟩
    obtain ⟨e0, e1, e2, -⟩ := r.ca.1 j (by omega)
    by_cases q2 : Y 312 j = nI 0
    · by_cases q1 : Y 310 j = c
      · have : oaI Y c = nI j := fstB_yes (Nat.zero_le j) (by omega) (opB_t.mpr ⟨q1, q2⟩) (fun h _ h2 => z h h2)
        rw [this] at k
        simp (disch := first | assumption | omega) only [prv_n, nxt_n, q_sw, mc4, mc6, mc8, mc20, mc24, mc100, nv_rd, nb_rd, wr_rd, nI_lit, nI_add, pk_mul, pk_sub, q_div, cl_nI, vpi, q_eq, q_le, q_lt, n1_eq, n1_eq', n1_le, n1_lt, n1_ge, n1_gt, i_0m1, nlt_t, nlt_f, nle_t, nle_f, neq_f, f_below, f_within, f_isCorner, f_isIn, f_isCornerM, f_isStreet, f_isHouse, f_isCrew, f_isRow, f_has10, f_has0, jx_I, jx_N, jx_m1, jr_I, jr_N1, jr_N2, wr_2, isB_0, isB_1, true_and, and_true, and_self, false_and, and_false, true_or, or_true, false_or, or_false, not_true_eq_false, not_false_eq_true, forall_const, implies_true, false_implies, ne_eq, eq_self, if_true, if_false, Nat.zero_add, Nat.add_zero, Nat.mul_zero, Nat.zero_mul, Nat.mul_one, Nat.one_mul, Nat.add_sub_cancel, Nat.reduceEqDiff, Nat.reduceAdd, Nat.reduceMul, Nat.reduceSub, Nat.reduceLeDiff, Nat.reduceLT, Nat.reduceDiv, Nat.reduceMod, r.s92, w.v92, e0, e2, q1, q2]
        exact k
      · simp (disch := first | assumption | omega) only [prv_n, nxt_n, q_sw, mc4, mc6, mc8, mc20, mc24, mc100, nv_rd, nb_rd, wr_rd, nI_lit, nI_add, pk_mul, pk_sub, q_div, cl_nI, vpi, q_eq, q_le, q_lt, n1_eq, n1_eq', n1_le, n1_lt, n1_ge, n1_gt, i_0m1, nlt_t, nlt_f, nle_t, nle_f, neq_f, f_below, f_within, f_isCorner, f_isIn, f_isCornerM, f_isStreet, f_isHouse, f_isCrew, f_isRow, f_has10, f_has0, jx_I, jx_N, jx_m1, jr_I, jr_N1, jr_N2, wr_2, isB_0, isB_1, true_and, and_true, and_self, false_and, and_false, true_or, or_true, false_or, or_false, not_true_eq_false, not_false_eq_true, forall_const, implies_true, false_implies, ne_eq, eq_self, if_true, if_false, Nat.zero_add, Nat.add_zero, Nat.mul_zero, Nat.zero_mul, Nat.mul_one, Nat.one_mul, Nat.add_sub_cancel, Nat.reduceEqDiff, Nat.reduceAdd, Nat.reduceMul, Nat.reduceSub, Nat.reduceLeDiff, Nat.reduceLT, Nat.reduceDiv, Nat.reduceMod, r.s92, w.v92, e0, e2, q1, q2]
        refine next ?_
        cases q : opB Y c j
        · rfl
        · exact absurd (opB_t.mp q).1 q1
    · simp (disch := first | assumption | omega) only [prv_n, nxt_n, q_sw, mc4, mc6, mc8, mc20, mc24, mc100, nv_rd, nb_rd, wr_rd, nI_lit, nI_add, pk_mul, pk_sub, q_div, cl_nI, vpi, q_eq, q_le, q_lt, n1_eq, n1_eq', n1_le, n1_lt, n1_ge, n1_gt, i_0m1, nlt_t, nlt_f, nle_t, nle_f, neq_f, f_below, f_within, f_isCorner, f_isIn, f_isCornerM, f_isStreet, f_isHouse, f_isCrew, f_isRow, f_has10, f_has0, jx_I, jx_N, jx_m1, jr_I, jr_N1, jr_N2, wr_2, isB_0, isB_1, true_and, and_true, and_self, false_and, and_false, true_or, or_true, false_or, or_false, not_true_eq_false, not_false_eq_true, forall_const, implies_true, false_implies, ne_eq, eq_self, if_true, if_false, Nat.zero_add, Nat.add_zero, Nat.mul_zero, Nat.zero_mul, Nat.mul_one, Nat.one_mul, Nat.add_sub_cancel, Nat.reduceEqDiff, Nat.reduceAdd, Nat.reduceMul, Nat.reduceSub, Nat.reduceLeDiff, Nat.reduceLT, Nat.reduceDiv, Nat.reduceMod, r.s92, w.v92, e2, q2]
      refine next ?_
      cases q : opB Y c j
      · rfl
      · exact absurd (opB_t.mp q).2 q2
/-- other calls that are open -/
def opO (Y : Nat → Nat → Int32) (c : Int32) (n : Nat) : Int32 := sm (fun k => b2 (Y 312 k = nI 0 ∧ ¬ Y 310 k = c)) n
theorem op_split (Y : Nat → Nat → Int32) (c : Int32) : ∀ n, sm (fun k => b2 (Y 312 k = nI 0)) n = opO Y c n + nI (cn (opB Y c) n)
  | 0 => by
    show (0 : Int32) = 0 + nI 0
    decide
  | n + 1 => by
    show sm (fun k => b2 (Y 312 k = nI 0)) n + b2 (Y 312 n = nI 0) = (opO Y c n + b2 (Y 312 n = nI 0 ∧ ¬ Y 310 n = c)) + nI (cn (opB Y c) n + (if opB Y c n then 1 else 0))
    rw [op_split Y c n]
    by_cases q : Y 312 n = nI 0
    · by_cases q1 : Y 310 n = c
      · rw [b2_t q, b2_f (fun u => u.2 q1), if_pos (opB_t.mpr ⟨q1, q⟩), ← nI_add, Int32.add_assoc, Int32.add_assoc]
        congr 1
        have : nI 0 + (nI (cn (opB Y c) n) + nI 1) = nI (cn (opB Y c) n) + nI 1 := Int32.zero_add _
        rw [this]
      · have : ¬ opB Y c n = true := fun u => q1 (opB_t.mp u).1
        rw [b2_t q, b2_t ⟨q, q1⟩, if_neg this, Nat.add_zero, Int32.add_assoc, Int32.add_assoc, Int32.add_comm (nI 1)]
    · have : ¬ opB Y c n = true := fun u => q (opB_t.mp u).2
      rw [b2_f q, b2_f (fun u => q u.1), if_neg this, Nat.add_zero]
      have e0 : ∀ a : Int32, a + nI 0 = a := fun a => Int32.add_zero a
      rw [e0, e0]
theorem op_one {Y : Nat → Nat → Int32} {c : Int32} {n : Nat} (u : ∀ j k, j < k → k < n → Y 312 j = nI 0 → Y 312 k = nI 0 → ¬ Y 310 j = Y 310 k) : ∀ m, m ≤ n → cn (opB Y c) m ≤ 1 ∧ (cn (opB Y c) m = 1 ↔ ∃ j, j < m ∧ opB Y c j = true)
  | 0, _ => ⟨Nat.zero_le _, ⟨fun h => absurd h (by show ¬ 0 = 1; decide), fun ⟨j, hj, _⟩ => absurd hj (Nat.not_lt_zero j)⟩⟩
  | m + 1, hm => by
    obtain ⟨i1, i2⟩ := op_one (c := c) u m (by omega)
    show cn (opB Y c) m + (if opB Y c m then 1 else 0) ≤ 1 ∧ (cn (opB Y c) m + (if opB Y c m then 1 else 0) = 1 ↔ _)
    by_cases q : opB Y c m = true
    · have z : cn (opB Y c) m = 0 := by
        by_cases q0 : cn (opB Y c) m = 0
        · exact q0
        · obtain ⟨j, hj, o⟩ := i2.mp (by omega)
          have a := opB_t.mp q
          have b := opB_t.mp o
          exact absurd (b.1.trans a.1.symm) (u j m hj (by omega) b.2 a.2)
      rw [if_pos q, z]
      exact ⟨by decide, ⟨fun _ => ⟨m, by omega, q⟩, fun _ => rfl⟩⟩
    · rw [if_neg q, Nat.add_zero]
      refine ⟨i1, ⟨fun h => ?_, fun ⟨j, hj, o⟩ => i2.mpr ⟨j, ?_, o⟩⟩⟩
      · obtain ⟨j, hj, o⟩ := i2.mp h
        exact ⟨j, by omega, o⟩
      · by_cases e : j = m
        · rw [e] at o; exact absurd o q
        · omega
theorem oa_d (Y : Nat → Nat → Int32) (c : Int32) : (oaI Y c = -nI 1 ∧ ∀ h, h < nv Y 246 92 → opB Y c h = false) ∨ ∃ j, j < nv Y 246 92 ∧ oaI Y c = nI j ∧ opB Y c j = true := by
  by_cases q : ∃ j, j < nv Y 246 92 ∧ opB Y c j = true
  · right
    obtain ⟨j, h1, h2⟩ := pk_least (fun j => j < nv Y 246 92 ∧ opB Y c j = true) q
    refine ⟨j, h1.1, fstB_yes (Nat.zero_le j) (by omega) h1.2 (fun h _ hh => ?_), h1.2⟩
    cases e : opB Y c h
    · rfl
    · exact absurd ⟨by omega, e⟩ (h2 h hh)
  · left
    have z : ∀ h, h < nv Y 246 92 → opB Y c h = false := by
      intro h hh
      cases e : opB Y c h
      · rfl
      · exact absurd ⟨h, hh, e⟩ q
    exact ⟨fstB_no (fun h _ h2 => z h (by omega)), z⟩
theorem op_oth {Y : Nat → Nat → Int32} (w : WW Y) (c : Int32) : sm (fun k => b2 (Y 312 k = nI 0)) (nv Y 246 92) - (if oaI Y c = -nI 1 then nI 0 else nI 1) = opO Y c (nv Y 246 92) := by
  rw [op_split Y c]
  have b := w.b92
  obtain ⟨o1, o2⟩ := op_one (c := c) w.ca.2.2 (nv Y 246 92) (Nat.le_refl _)
  rcases oa_d Y c with ⟨e, z⟩ | ⟨j, hj, e, o⟩
  · rw [if_pos e, cn_0 z, Int32.add_sub_cancel]
  · rw [e, if_neg (by rw [n1_eq' (by omega)]; exact id), o2.mpr ⟨j, hj, o⟩, Int32.add_sub_cancel]
