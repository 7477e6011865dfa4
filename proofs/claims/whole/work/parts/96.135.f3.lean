/-! house, its call -/
theorem jr_m1 {m : Nat} (hm : m < 2147483648) : jr (-nI 1) (-nI 1) (nI m) = nI 1 := by
  unfold jr
  rw [if_neg (fun u => by have := Int32.lt_iff_toInt_lt.mp u; omega), if_neg (fun u => (n1_gt hm).mp u)]; rfl
theorem jr_m2 {a : Int32} {m : Nat} (hm : m < 2147483647) (ha : ¬ a = -nI 1) : jr a (-nI 1) (nI m) = jx a (nI (m + 1)) := by
  rcases jx_d a (n := m + 1) (by omega) with e | ⟨j, hj, rfl⟩
  · rw [e]
    rcases jx_s e with q | ⟨q1, q2, q3⟩
    · unfold jr
      rw [if_pos]
      · rfl
      · have h1 := Int32.lt_iff_toInt_lt.mp q
        have h0 : (nI 0).toInt = 0 := by decide
        apply Int32.lt_iff_toInt_lt.mpr
        rw [n1_toInt]
        have : a.toInt ≠ -1 := fun u => ha (Int32.toInt_inj.mp (by rw [n1_toInt]; exact u))
        omega
    · have h3 := Int32.le_iff_toInt_le.mp q3
      rw [nI_toInt (by omega)] at h3
      unfold jr
      rw [if_neg, if_pos]
      · rfl
      · apply Int32.lt_iff_toInt_lt.mpr
        rw [nI_toInt (by omega)]
        omega
      · intro u
        have := Int32.lt_iff_toInt_lt.mp u
        rw [n1_toInt] at this
        omega
  · rw [jx_I hj (by omega)]
    unfold jr
    rw [if_neg (fun u => (n1_gt (show j < 2147483648 by omega)).mp u), if_neg (fun u => by rw [q_lt (by omega) (by omega)] at u; omega)]; rfl
/-- the program's new house -/
theorem c_add {x : ab_X} (h : InvA x) {c : Nat} (hc : c < 20) (hn : nv x.1 246 31 < 12) {K : Nat → ab_X → Prop}
    (k : ∀ y : ab_X, (∀ d, d < 30 ∨ 65 < d → d ≠ 9 → y.1 d = x.1 d) → (∀ f, f ≠ 2 → y.1 9 f = x.1 9 f) → y.2 = x.2 → y.1 9 2 = nI (nv x.1 246 31 + 1) → (∀ i f, i < 12 → i ≠ nv x.1 246 31 → f ≠ 11 → y.1 (30 + 3 * i) f = x.1 (30 + 3 * i) f) → (∀ f, f ≠ 1 → f ≠ 10 → y.1 (30 + 3 * nv x.1 246 31) f = x.1 (30 + 3 * nv x.1 246 31) f) → (∀ i, i < 12 → i ≠ nv x.1 246 31 → y.1 (30 + 3 * i) 11 = if hP x.1 (nI c) (nv x.1 246 31) = nI i then nI (nv x.1 246 31) else x.1 (30 + 3 * i) 11) → (∀ i j, i < 12 → 1 ≤ j → j ≤ 2 → y.1 (30 + 3 * i + j) = x.1 (30 + 3 * i + j)) → y.1 (30 + 3 * nv x.1 246 31) 1 = nI c → y.1 (30 + 3 * nv x.1 246 31) 10 = hP x.1 (nI c) (nv x.1 246 31) → K (30 + 3 * nv x.1 246 31) y) : wX10_add (nI c) x K := by
  generalize en : nv x.1 246 31 = n at *
  have v31 : x.1 246 31 = nI n := by rw [← en]; exact h.2.v31
  have s3 := h.1.ho.2.2.1
  have s4 := h.1.ho.2.2.2 n (by omega) hn
  rw [en] at s3
  unfold wX10_add
  simp (disch := first | assumption | omega) only [prv_n, nxt_n, q_sw, mc4, mc6, mc8, mc20, mc24, mc100, nv_rd, nb_rd, wr_rd, nI_lit, nI_add, pk_mul, pk_sub, q_div, cl_nI, vpi, q_eq, q_le, q_lt, n1_eq, n1_eq', n1_le, n1_lt, n1_ge, n1_gt, i_0m1, nlt_t, nlt_f, nle_t, nle_f, neq_f, f_below, f_within, f_isCorner, f_isIn, f_isCornerM, f_isStreet, f_isHouse, f_isCrew, f_isRow, f_has10, f_has0, jx_I, jx_N, jx_m1, jr_I, jr_N1, jr_N2, wr_2, isB_0, isB_1, true_and, and_true, and_self, false_and, and_false, true_or, or_true, false_or, or_false, not_true_eq_false, not_false_eq_true, forall_const, implies_true, false_implies, ne_eq, eq_self, if_true, if_false, Nat.zero_add, Nat.add_zero, Nat.mul_zero, Nat.zero_mul, Nat.mul_one, Nat.one_mul, Nat.add_sub_cancel, Nat.reduceEqDiff, Nat.reduceAdd, Nat.reduceMul, Nat.reduceSub, Nat.reduceLeDiff, Nat.reduceLT, Nat.reduceDiv, Nat.reduceMod, h.1.s31, v31]
  refine Lp2.ind (fun i a y => ∃ t, t ≤ n ∧ i = n - t ∧ a = nI t ∧ (∀ d f, d ≠ 30 + 3 * n ∨ (f ≠ 1 ∧ f ≠ 10) → y.1 d f = x.1 d f) ∧ y.2 = x.2 ∧ y.1 (30 + 3 * n) 1 = nI c ∧ y.1 (30 + 3 * n) 10 = hP x.1 (nI c) t) n ⟨0, by omega, by omega, rfl, fun d f q => wr_ne (by omega), rfl, wr_e, by rw [wr_k (by decide)]; exact s4.2.1⟩ ?_
  rintro ii a y ⟨t, ht, hii, rfl, g1, g2, g3, g4⟩ L hL
  unfold lX10_add_17 wX10_add_76
  have y92 : y.1 9 2 = nI n := by rw [g1 9 2 (by omega), h.1.s31, v31]
  by_cases e : t = n
  · subst e
    rcases lastB_d (fun j => decide (x.1 254 j = nI c)) t with ⟨e2, z2⟩ | ⟨i0, hh, e2, p2, z2⟩
    · have e2' : hP x.1 (nI c) t = -nI 1 := e2
      rw [e2'] at g4 k
      simp (disch := first | assumption | omega) only [prv_n, nxt_n, q_sw, mc4, mc6, mc8, mc20, mc24, mc100, nv_rd, nb_rd, wr_rd, nI_lit, nI_add, pk_mul, pk_sub, q_div, cl_nI, vpi, q_eq, q_le, q_lt, n1_eq, n1_eq', n1_le, n1_lt, n1_ge, n1_gt, i_0m1, nlt_t, nlt_f, nle_t, nle_f, neq_f, f_below, f_within, f_isCorner, f_isIn, f_isCornerM, f_isStreet, f_isHouse, f_isCrew, f_isRow, f_has10, f_has0, jx_I, jx_N, jx_m1, jr_I, jr_N1, jr_N2, wr_2, isB_0, isB_1, true_and, and_true, and_self, false_and, and_false, true_or, or_true, false_or, or_false, not_true_eq_false, not_false_eq_true, forall_const, implies_true, false_implies, ne_eq, eq_self, if_true, if_false, Nat.zero_add, Nat.add_zero, Nat.mul_zero, Nat.zero_mul, Nat.mul_one, Nat.one_mul, Nat.add_sub_cancel, Nat.reduceEqDiff, Nat.reduceAdd, Nat.reduceMul, Nat.reduceSub, Nat.reduceLeDiff, Nat.reduceLT, Nat.reduceDiv, Nat.reduceMod, y92, g4]
      refine k _ (fun d q q2 => ?_) (fun f q => ?_) g2 wr_e (fun i f p q q2 => ?_) (fun f q q2 => ?_) (fun i p q => ?_) (fun i j p q q2 => ?_) ?_ ?_
      · rw [wr_n (by omega)]; funext f; exact g1 d f (by omega)
      · rw [wr_k q]; exact g1 9 f (by omega)
      · rw [wr_n (by omega)]; exact g1 _ f (by omega)
      · rw [wr_n (by omega)]; exact g1 _ f (by omega)
      · rw [wr_n (by omega), if_neg (n1_eq (by omega)).mp]; exact g1 _ 11 (by omega)
      · rw [wr_n (by omega)]; funext f; exact g1 _ f (by omega)
      · rw [wr_n (by omega)]; exact g3
      · rw [wr_n (by omega)]; exact g4
    · have e2' : hP x.1 (nI c) t = nI i0 := e2
      rw [e2'] at g4 k
      simp (disch := first | assumption | omega) only [prv_n, nxt_n, q_sw, mc4, mc6, mc8, mc20, mc24, mc100, nv_rd, nb_rd, wr_rd, nI_lit, nI_add, pk_mul, pk_sub, q_div, cl_nI, vpi, q_eq, q_le, q_lt, n1_eq, n1_eq', n1_le, n1_lt, n1_ge, n1_gt, i_0m1, nlt_t, nlt_f, nle_t, nle_f, neq_f, f_below, f_within, f_isCorner, f_isIn, f_isCornerM, f_isStreet, f_isHouse, f_isCrew, f_isRow, f_has10, f_has0, jx_I, jx_N, jx_m1, jr_I, jr_N1, jr_N2, wr_2, isB_0, isB_1, true_and, and_true, and_self, false_and, and_false, true_or, or_true, false_or, or_false, not_true_eq_false, not_false_eq_true, forall_const, implies_true, false_implies, ne_eq, eq_self, if_true, if_false, Nat.zero_add, Nat.add_zero, Nat.mul_zero, Nat.zero_mul, Nat.mul_one, Nat.one_mul, Nat.add_sub_cancel, Nat.reduceEqDiff, Nat.reduceAdd, Nat.reduceMul, Nat.reduceSub, Nat.reduceLeDiff, Nat.reduceLT, Nat.reduceDiv, Nat.reduceMod, y92, g4]
      refine k _ (fun d q q2 => ?_) (fun f q => ?_) g2 wr_e (fun i f p q q2 => ?_) (fun f q q2 => ?_) (fun i p q => ?_) (fun i j p q q2 => ?_) ?_ ?_
      · rw [wr_n (by omega), wr_n (by omega)]; funext f; exact g1 d f (by omega)
      · rw [wr_k q, wr_n (by omega)]; exact g1 9 f (by omega)
      · rw [wr_n (by omega), wr_ne (by omega)]; exact g1 _ f (by omega)
      · rw [wr_n (by omega), wr_n (by omega)]; exact g1 _ f (by omega)
      · rw [wr_n (by omega)]
        by_cases e3 : i = i0
        · subst e3; rw [wr_e, if_pos rfl]
        · rw [wr_n (by omega), if_neg (fun u => e3 (by rw [q_eq (by omega) (by omega)] at u; omega))]; exact g1 _ 11 (by omega)
      · rw [wr_n (by omega), wr_n (by omega)]; funext f; exact g1 _ f (by omega)
      · rw [wr_n (by omega), wr_n (by omega)]; exact g3
      · rw [wr_n (by omega), wr_n (by omega)]; exact g4
  · have t1 : y.1 (30 + 3 * t) 1 = x.1 254 t := by rw [g1 _ 1 (by omega)]; exact (s3 t (by omega)).1
    have ls : hP x.1 (nI c) (t + 1) = if decide (x.1 254 t = nI c) then nI t else hP x.1 (nI c) t := rfl
    by_cases q : x.1 254 t = nI c
    · rw [decide_eq_true q, if_pos rfl] at ls
      simp (disch := first | assumption | omega) only [prv_n, nxt_n, q_sw, mc4, mc6, mc8, mc20, mc24, mc100, nv_rd, nb_rd, wr_rd, nI_lit, nI_add, pk_mul, pk_sub, q_div, cl_nI, vpi, q_eq, q_le, q_lt, n1_eq, n1_eq', n1_le, n1_lt, n1_ge, n1_gt, i_0m1, nlt_t, nlt_f, nle_t, nle_f, neq_f, f_below, f_within, f_isCorner, f_isIn, f_isCornerM, f_isStreet, f_isHouse, f_isCrew, f_isRow, f_has10, f_has0, jx_I, jx_N, jx_m1, jr_I, jr_N1, jr_N2, wr_2, isB_0, isB_1, true_and, and_true, and_self, false_and, and_false, true_or, or_true, false_or, or_false, not_true_eq_false, not_false_eq_true, forall_const, implies_true, false_implies, ne_eq, eq_self, if_true, if_false, Nat.zero_add, Nat.add_zero, Nat.mul_zero, Nat.zero_mul, Nat.mul_one, Nat.one_mul, Nat.add_sub_cancel, Nat.reduceEqDiff, Nat.reduceAdd, Nat.reduceMul, Nat.reduceSub, Nat.reduceLeDiff, Nat.reduceLT, Nat.reduceDiv, Nat.reduceMod, y92, t1, q]
      refine hL (n - (t + 1)) _ _ (by omega) ⟨t + 1, by omega, rfl, rfl, fun d f q => by rw [wr_ne (by omega)]; exact g1 d f q, g2, by rw [wr_k (by decide)]; exact g3, by rw [wr_e, ls]⟩
    · rw [decide_eq_false q, if_neg (by decide)] at ls
      simp (disch := first | assumption | omega) only [prv_n, nxt_n, q_sw, mc4, mc6, mc8, mc20, mc24, mc100, nv_rd, nb_rd, wr_rd, nI_lit, nI_add, pk_mul, pk_sub, q_div, cl_nI, vpi, q_eq, q_le, q_lt, n1_eq, n1_eq', n1_le, n1_lt, n1_ge, n1_gt, i_0m1, nlt_t, nlt_f, nle_t, nle_f, neq_f, f_below, f_within, f_isCorner, f_isIn, f_isCornerM, f_isStreet, f_isHouse, f_isCrew, f_isRow, f_has10, f_has0, jx_I, jx_N, jx_m1, jr_I, jr_N1, jr_N2, wr_2, isB_0, isB_1, true_and, and_true, and_self, false_and, and_false, true_or, or_true, false_or, or_false, not_true_eq_false, not_false_eq_true, forall_const, implies_true, false_implies, ne_eq, eq_self, if_true, if_false, Nat.zero_add, Nat.add_zero, Nat.mul_zero, Nat.zero_mul, Nat.mul_one, Nat.one_mul, Nat.add_sub_cancel, Nat.reduceEqDiff, Nat.reduceAdd, Nat.reduceMul, Nat.reduceSub, Nat.reduceLeDiff, Nat.reduceLT, Nat.reduceDiv, Nat.reduceMod, y92, t1, q]
      exact hL (n - (t + 1)) _ _ (by omega) ⟨t + 1, by omega, rfl, rfl, g1, g2, g3, by rw [ls]; exact g4⟩
theorem p_house {x : ab_X} {a b c d e : Int32} (h : InvA x) {K : ab_X → Prop} (hk : ∀ z, InvA z → keepT x.1 z.1 → K z) :
    wX11_house a b c d e x (fun r y => wX12_house a b c d e y (fun r' z => r = r' ∧ K z)) := by
  have bn := h.2.b31
  unfold wX11_house wX11_house_56 wX11_house_52 wX11_house_57
  by_cases q : nv x.1 246 31 = 12
  · unfold wX12_house
    simp (disch := first | assumption | omega) only [prv_n, nxt_n, q_sw, mc4, mc6, mc8, mc20, mc24, mc100, nv_rd, nb_rd, wr_rd, nI_lit, nI_add, pk_mul, pk_sub, q_div, cl_nI, vpi, q_eq, q_le, q_lt, n1_eq, n1_eq', n1_le, n1_lt, n1_ge, n1_gt, i_0m1, nlt_t, nlt_f, nle_t, nle_f, neq_f, f_below, f_within, f_isCorner, f_isIn, f_isCornerM, f_isStreet, f_isHouse, f_isCrew, f_isRow, f_has10, f_has0, jx_I, jx_N, jx_m1, jr_I, jr_N1, jr_N2, wr_2, isB_0, isB_1, true_and, and_true, and_self, false_and, and_false, true_or, or_true, false_or, or_false, not_true_eq_false, not_false_eq_true, forall_const, implies_true, false_implies, ne_eq, eq_self, if_true, if_false, Nat.zero_add, Nat.add_zero, Nat.mul_zero, Nat.zero_mul, Nat.mul_one, Nat.one_mul, Nat.add_sub_cancel, Nat.reduceEqDiff, Nat.reduceAdd, Nat.reduceMul, Nat.reduceSub, Nat.reduceLeDiff, Nat.reduceLT, Nat.reduceDiv, Nat.reduceMod, h.1.s31, h.2.v31, q, br_same, br_same']
    exact hk _ (InvA_th h) keepT_th
  rcases jx_d a (n := 20) (by omega) with e1 | ⟨vc, hc, rfl⟩
  · unfold wX12_house
    simp (disch := first | assumption | omega) only [prv_n, nxt_n, q_sw, mc4, mc6, mc8, mc20, mc24, mc100, nv_rd, nb_rd, wr_rd, nI_lit, nI_add, pk_mul, pk_sub, q_div, cl_nI, vpi, q_eq, q_le, q_lt, n1_eq, n1_eq', n1_le, n1_lt, n1_ge, n1_gt, i_0m1, nlt_t, nlt_f, nle_t, nle_f, neq_f, f_below, f_within, f_isCorner, f_isIn, f_isCornerM, f_isStreet, f_isHouse, f_isCrew, f_isRow, f_has10, f_has0, jx_I, jx_N, jx_m1, jr_I, jr_N1, jr_N2, wr_2, isB_0, isB_1, true_and, and_true, and_self, false_and, and_false, true_or, or_true, false_or, or_false, not_true_eq_false, not_false_eq_true, forall_const, implies_true, false_implies, ne_eq, eq_self, if_true, if_false, Nat.zero_add, Nat.add_zero, Nat.mul_zero, Nat.zero_mul, Nat.mul_one, Nat.one_mul, Nat.add_sub_cancel, Nat.reduceEqDiff, Nat.reduceAdd, Nat.reduceMul, Nat.reduceSub, Nat.reduceLeDiff, Nat.reduceLT, Nat.reduceDiv, Nat.reduceMod, h.1.s31, h.2.v31, e1]
    exact hk _ (InvA_th h) keepT_th
  rcases jr_d b (lo := 0) (hi := 2) (by omega) (by omega) with e1 | ⟨kd, k1, k2, rfl⟩
  · unfold wX12_house
    simp (disch := first | assumption | omega) only [prv_n, nxt_n, q_sw, mc4, mc6, mc8, mc20, mc24, mc100, nv_rd, nb_rd, wr_rd, nI_lit, nI_add, pk_mul, pk_sub, q_div, cl_nI, vpi, q_eq, q_le, q_lt, n1_eq, n1_eq', n1_le, n1_lt, n1_ge, n1_gt, i_0m1, nlt_t, nlt_f, nle_t, nle_f, neq_f, f_below, f_within, f_isCorner, f_isIn, f_isCornerM, f_isStreet, f_isHouse, f_isCrew, f_isRow, f_has10, f_has0, jx_I, jx_N, jx_m1, jr_I, jr_N1, jr_N2, wr_2, isB_0, isB_1, true_and, and_true, and_self, false_and, and_false, true_or, or_true, false_or, or_false, not_true_eq_false, not_false_eq_true, forall_const, implies_true, false_implies, ne_eq, eq_self, if_true, if_false, Nat.zero_add, Nat.add_zero, Nat.mul_zero, Nat.zero_mul, Nat.mul_one, Nat.one_mul, Nat.add_sub_cancel, Nat.reduceEqDiff, Nat.reduceAdd, Nat.reduceMul, Nat.reduceSub, Nat.reduceLeDiff, Nat.reduceLT, Nat.reduceDiv, Nat.reduceMod, h.1.s31, h.2.v31, e1]
    exact hk _ (InvA_th h) keepT_th
  rcases jr_d c (lo := 1) (hi := 6) (by omega) (by omega) with e1 | ⟨fl, f1, f2, rfl⟩
  · unfold wX12_house
    simp (disch := first | assumption | omega) only [prv_n, nxt_n, q_sw, mc4, mc6, mc8, mc20, mc24, mc100, nv_rd, nb_rd, wr_rd, nI_lit, nI_add, pk_mul, pk_sub, q_div, cl_nI, vpi, q_eq, q_le, q_lt, n1_eq, n1_eq', n1_le, n1_lt, n1_ge, n1_gt, i_0m1, nlt_t, nlt_f, nle_t, nle_f, neq_f, f_below, f_within, f_isCorner, f_isIn, f_isCornerM, f_isStreet, f_isHouse, f_isCrew, f_isRow, f_has10, f_has0, jx_I, jx_N, jx_m1, jr_I, jr_N1, jr_N2, wr_2, isB_0, isB_1, true_and, and_true, and_self, false_and, and_false, true_or, or_true, false_or, or_false, not_true_eq_false, not_false_eq_true, forall_const, implies_true, false_implies, ne_eq, eq_self, if_true, if_false, Nat.zero_add, Nat.add_zero, Nat.mul_zero, Nat.zero_mul, Nat.mul_one, Nat.one_mul, Nat.add_sub_cancel, Nat.reduceEqDiff, Nat.reduceAdd, Nat.reduceMul, Nat.reduceSub, Nat.reduceLeDiff, Nat.reduceLT, Nat.reduceDiv, Nat.reduceMod, h.1.s31, h.2.v31, e1]
    exact hk _ (InvA_th h) keepT_th
  rcases jr_d d (lo := 1) (hi := 4) (by omega) (by omega) with e1 | ⟨wd, w1, w2, rfl⟩
  · unfold wX12_house
    simp (disch := first | assumption | omega) only [prv_n, nxt_n, q_sw, mc4, mc6, mc8, mc20, mc24, mc100, nv_rd, nb_rd, wr_rd, nI_lit, nI_add, pk_mul, pk_sub, q_div, cl_nI, vpi, q_eq, q_le, q_lt, n1_eq, n1_eq', n1_le, n1_lt, n1_ge, n1_gt, i_0m1, nlt_t, nlt_f, nle_t, nle_f, neq_f, f_below, f_within, f_isCorner, f_isIn, f_isCornerM, f_isStreet, f_isHouse, f_isCrew, f_isRow, f_has10, f_has0, jx_I, jx_N, jx_m1, jr_I, jr_N1, jr_N2, wr_2, isB_0, isB_1, true_and, and_true, and_self, false_and, and_false, true_or, or_true, false_or, or_false, not_true_eq_false, not_false_eq_true, forall_const, implies_true, false_implies, ne_eq, eq_self, if_true, if_false, Nat.zero_add, Nat.add_zero, Nat.mul_zero, Nat.zero_mul, Nat.mul_one, Nat.one_mul, Nat.add_sub_cancel, Nat.reduceEqDiff, Nat.reduceAdd, Nat.reduceMul, Nat.reduceSub, Nat.reduceLeDiff, Nat.reduceLT, Nat.reduceDiv, Nat.reduceMod, h.1.s31, h.2.v31, e1]
    exact hk _ (InvA_th h) keepT_th
  have fin : ∀ sh : Int32, (sh = -nI 1 ∨ ∃ i, i < wd ∧ sh = nI i) → jr sh (-nI 1) (nI (wd - 1)) = nI 1 → wX10_add (nI vc) x (fun r6 x7 => (isH r6 ∧ wX12_house (nI vc) (nI kd) (nI fl) (nI wd) sh (wr (wr (wr (wr x7 r6 2 (nI kd)) r6 3 (nI fl)) r6 4 (nI wd)) r6 5 sh) (fun r' z => x7.1 r6 0 = r' ∧ K z))) := by
    intro sh hs hj
    refine c_add h hc (by omega) (fun y g1 g1b g2 g3 g4 g5 g6 g7 g8 g9 => ⟨?_, ?_⟩)
    · exact ⟨nv x.1 246 31, by omega, rfl⟩
    · have n0 : x.1 (30 + 3 * nv x.1 246 31) 0 = nI (nv x.1 246 31) := (h.1.ho.1 _ (by omega)).1
      have y0 := g5 0 (by decide) (by decide)
      have y31 : y.1 246 31 = nI (nv x.1 246 31) := by rw [g1 246 (by decide) (by decide), h.2.v31]
      have w0 := h.1.ho.2.2.2 (nv x.1 246 31) (Nat.le_refl _) (by omega)
      unfold wX12_house
      simp (disch := first | assumption | omega) only [prv_n, nxt_n, q_sw, mc4, mc6, mc8, mc20, mc24, mc100, nv_rd, nb_rd, wr_rd, nI_lit, nI_add, pk_mul, pk_sub, q_div, cl_nI, vpi, q_eq, q_le, q_lt, n1_eq, n1_eq', n1_le, n1_lt, n1_ge, n1_gt, i_0m1, nlt_t, nlt_f, nle_t, nle_f, neq_f, f_below, f_within, f_isCorner, f_isIn, f_isCornerM, f_isStreet, f_isHouse, f_isCrew, f_isRow, f_has10, f_has0, jx_I, jx_N, jx_m1, jr_I, jr_N1, jr_N2, wr_2, isB_0, isB_1, true_and, and_true, and_self, false_and, and_false, true_or, or_true, false_or, or_false, not_true_eq_false, not_false_eq_true, forall_const, implies_true, false_implies, ne_eq, eq_self, if_true, if_false, Nat.zero_add, Nat.add_zero, Nat.mul_zero, Nat.zero_mul, Nat.mul_one, Nat.one_mul, Nat.add_sub_cancel, Nat.reduceEqDiff, Nat.reduceAdd, Nat.reduceMul, Nat.reduceSub, Nat.reduceLeDiff, Nat.reduceLT, Nat.reduceDiv, Nat.reduceMod, y31, y0, n0, hj]
      refine hk _ ?_ ?_
      · refine house_new h (by omega) hc k2 f1 f2 w1 w2 hs ⟨fun c p q r => ?_, fun f p => ?_, fun c f p q => ?_⟩ (by show y.2.1 329 = _; rw [g2]) ?_ ?_ (fun i f p q q2 => ?_) (fun f q1 q2 q3 q4 q5 q6 => ?_) (fun i p q => ?_) (fun i j p q q2 => ?_) ?_ ?_ ?_ ?_ ?_ ?_ (fun d k p q q2 => ?_) ?_ ?_ ?_ ?_ ?_ ?_
        · have r0 : c < 30 ∨ 65 < c := r (30, 65) (by simp)
          have r1 : c < 254 ∨ 258 < c := r (254, 258) (by simp)
          have r2 : c < 260 ∨ 260 < c := r (260, 260) (by simp)
          unfold scC at q
          simp (disch := omega) only [wr_n]
          exact g1 c r0 (by omega)
        · have s0 : f ≠ 0 := fun e => p (by rw [e]; simp)
          have s1 : f ≠ 31 := fun e => p (by rw [e]; simp)
          simp (disch := omega) only [wr_ne]
          rw [g1 246 (by decide) (by decide)]
        · have c0 : ¬ (c = 9 ∧ f = 2) := fun e => q (by rw [e.1, e.2]; simp)
          unfold scC at p
          simp (disch := omega) only [wr_ne]
          by_cases e9 : c = 9
          · subst e9; exact g1b f (by omega)
          · rw [g1 c (by omega) e9]
        · simp (disch := omega) only [wr_ne, wr_e]
        · simp (disch := omega) only [wr_ne, wr_e]; exact g3
        · simp (disch := omega) only [wr_ne]; exact g4 i f p q q2
        · simp (disch := omega) only [wr_ne]; exact g5 f q1 q6
        · simp (disch := omega) only [wr_ne]; exact g6 i p q
        · simp (disch := omega) only [wr_n]; exact g7 i j p q q2
        · simp (disch := omega) only [wr_ne]; exact g8
        · simp (disch := omega) only [wr_ne, wr_e]
        · simp (disch := omega) only [wr_ne, wr_e]
        · simp (disch := omega) only [wr_ne, wr_e]
        · simp (disch := omega) only [wr_ne, wr_e]
        · simp (disch := omega) only [wr_ne]; exact g9
        · simp (disch := omega) only [wr_ne]; rw [g1 d (by omega) (by omega)]
        · simp (disch := omega) only [wr_ne, wr_e]
        · simp (disch := omega) only [wr_ne, wr_e]
        · simp (disch := omega) only [wr_ne, wr_e]
        · simp (disch := omega) only [wr_ne, wr_e]
        · simp (disch := omega) only [wr_ne, wr_e]
        · simp (disch := omega) only [wr_ne, wr_e]
      · intro c k q
        unfold tk at q
        simp (disch := omega) only [wr_ne]
        rw [g1 c (by omega) (by omega)]
  by_cases e2 : e = -nI 1
  · subst e2
    simp (disch := first | assumption | omega) only [prv_n, nxt_n, q_sw, mc4, mc6, mc8, mc20, mc24, mc100, nv_rd, nb_rd, wr_rd, nI_lit, nI_add, pk_mul, pk_sub, q_div, cl_nI, vpi, q_eq, q_le, q_lt, n1_eq, n1_eq', n1_le, n1_lt, n1_ge, n1_gt, i_0m1, nlt_t, nlt_f, nle_t, nle_f, neq_f, f_below, f_within, f_isCorner, f_isIn, f_isCornerM, f_isStreet, f_isHouse, f_isCrew, f_isRow, f_has10, f_has0, jx_I, jx_N, jx_m1, jr_I, jr_N1, jr_N2, wr_2, isB_0, isB_1, true_and, and_true, and_self, false_and, and_false, true_or, or_true, false_or, or_false, not_true_eq_false, not_false_eq_true, forall_const, implies_true, false_implies, ne_eq, eq_self, if_true, if_false, Nat.zero_add, Nat.add_zero, Nat.mul_zero, Nat.zero_mul, Nat.mul_one, Nat.one_mul, Nat.add_sub_cancel, Nat.reduceEqDiff, Nat.reduceAdd, Nat.reduceMul, Nat.reduceSub, Nat.reduceLeDiff, Nat.reduceLT, Nat.reduceDiv, Nat.reduceMod, h.1.s31, h.2.v31]
    exact fin _ (Or.inl rfl) (jr_m1 (by omega))
  rcases jx_d e (n := wd) (by omega) with e1 | ⟨sh, s1, rfl⟩
  · have jj : jr e (-nI 1) (nI (wd - 1)) = nI 0 := by rw [jr_m2 (by omega) e2, show wd - 1 + 1 = wd by omega]; exact e1
    simp (disch := first | assumption | omega) only [prv_n, nxt_n, q_sw, mc4, mc6, mc8, mc20, mc24, mc100, nv_rd, nb_rd, wr_rd, nI_lit, nI_add, pk_mul, pk_sub, q_div, cl_nI, vpi, q_eq, q_le, q_lt, n1_eq, n1_eq', n1_le, n1_lt, n1_ge, n1_gt, i_0m1, nlt_t, nlt_f, nle_t, nle_f, neq_f, f_below, f_within, f_isCorner, f_isIn, f_isCornerM, f_isStreet, f_isHouse, f_isCrew, f_isRow, f_has10, f_has0, jx_I, jx_N, jx_m1, jr_I, jr_N1, jr_N2, wr_2, isB_0, isB_1, true_and, and_true, and_self, false_and, and_false, true_or, or_true, false_or, or_false, not_true_eq_false, not_false_eq_true, forall_const, implies_true, false_implies, ne_eq, eq_self, if_true, if_false, Nat.zero_add, Nat.add_zero, Nat.mul_zero, Nat.zero_mul, Nat.mul_one, Nat.one_mul, Nat.add_sub_cancel, Nat.reduceEqDiff, Nat.reduceAdd, Nat.reduceMul, Nat.reduceSub, Nat.reduceLeDiff, Nat.reduceLT, Nat.reduceDiv, Nat.reduceMod, h.1.s31, h.2.v31, e1, e2]
    unfold wX12_house
    simp (disch := first | assumption | omega) only [prv_n, nxt_n, q_sw, mc4, mc6, mc8, mc20, mc24, mc100, nv_rd, nb_rd, wr_rd, nI_lit, nI_add, pk_mul, pk_sub, q_div, cl_nI, vpi, q_eq, q_le, q_lt, n1_eq, n1_eq', n1_le, n1_lt, n1_ge, n1_gt, i_0m1, nlt_t, nlt_f, nle_t, nle_f, neq_f, f_below, f_within, f_isCorner, f_isIn, f_isCornerM, f_isStreet, f_isHouse, f_isCrew, f_isRow, f_has10, f_has0, jx_I, jx_N, jx_m1, jr_I, jr_N1, jr_N2, wr_2, isB_0, isB_1, true_and, and_true, and_self, false_and, and_false, true_or, or_true, false_or, or_false, not_true_eq_false, not_false_eq_true, forall_const, implies_true, false_implies, ne_eq, eq_self, if_true, if_false, Nat.zero_add, Nat.add_zero, Nat.mul_zero, Nat.zero_mul, Nat.mul_one, Nat.one_mul, Nat.add_sub_cancel, Nat.reduceEqDiff, Nat.reduceAdd, Nat.reduceMul, Nat.reduceSub, Nat.reduceLeDiff, Nat.reduceLT, Nat.reduceDiv, Nat.reduceMod, h.2.v31, jj]
    exact hk _ (InvA_th h) keepT_th
  · simp (disch := first | assumption | omega) only [prv_n, nxt_n, q_sw, mc4, mc6, mc8, mc20, mc24, mc100, nv_rd, nb_rd, wr_rd, nI_lit, nI_add, pk_mul, pk_sub, q_div, cl_nI, vpi, q_eq, q_le, q_lt, n1_eq, n1_eq', n1_le, n1_lt, n1_ge, n1_gt, i_0m1, nlt_t, nlt_f, nle_t, nle_f, neq_f, f_below, f_within, f_isCorner, f_isIn, f_isCornerM, f_isStreet, f_isHouse, f_isCrew, f_isRow, f_has10, f_has0, jx_I, jx_N, jx_m1, jr_I, jr_N1, jr_N2, wr_2, isB_0, isB_1, true_and, and_true, and_self, false_and, and_false, true_or, or_true, false_or, or_false, not_true_eq_false, not_false_eq_true, forall_const, implies_true, false_implies, ne_eq, eq_self, if_true, if_false, Nat.zero_add, Nat.add_zero, Nat.mul_zero, Nat.zero_mul, Nat.mul_one, Nat.one_mul, Nat.add_sub_cancel, Nat.reduceEqDiff, Nat.reduceAdd, Nat.reduceMul, Nat.reduceSub, Nat.reduceLeDiff, Nat.reduceLT, Nat.reduceDiv, Nat.reduceMod, h.1.s31, h.2.v31]
    refine fin _ (Or.inr ⟨sh, s1, rfl⟩) ?_
    rw [jr_m2 (by omega) e2, show wd - 1 + 1 = wd by omega, jx_I s1 (by omega)]
