/-! about: what it answers -/
theorem lgc_self (a : Int64) : lg_cmp a a = 0 := by
  unfold lg_cmp
  rw [if_neg (Int64.lt_irrefl), if_pos rfl]
def abq_v (x : ab_X) (j vb : Nat) : Int32 := if vb = 0 then x.1 286 j else if vb = 1 then x.1 287 j else if vb = 2 then x.1 288 j else if vb = 3 then x.1 289 j else if vb = 4 then x.1 290 j else if vb = 5 then x.1 291 j else if vb = 6 then x.1 292 j else if vb = 7 then (if x.1 298 j = 0 then x.1 281 j else x.1 281 j + x.1 292 j / 3) else x.1 295 j
theorem abq_v7 (x : ab_X) (j : Nat) : abq_v x j 7 = if x.1 298 j = 0 then x.1 281 j else x.1 281 j + x.1 292 j / 3 := rfl
theorem abq_cls {x : ab_X} {j vb : Nat} {P : Int32 → Prop} {T : Prop} (h : InvA x) (hj : j < nv x.1 246 58) (hv : vb ≤ 8) (k : P (abq_v x j vb)) : wX11_about (nI j) (nI vb) x P T := by
  have bn := h.2.b58
  obtain ⟨r0, r1, r2, r3, r4, r5, r6, r7, r8, r9, r10, r11, r12, r13, r14, r15, r16⟩ := h.1.cr.1 j hj; obtain ⟨v0, v1, v2, v3, v3', v4, v5, v6, v7, v8, v9, v10, v11, v11'⟩ := h.2.cr.1 j hj; obtain ⟨g0, g1, g2⟩ := h.2.cr.2.1 j hj; obtain ⟨t0, t1, t2, t3⟩ := h.2.cr.2.2.1 j hj; have u0 := v0.2; have u1 := v1.2; have u8 := v8.2; have u9 := v9.2
  unfold wX11_about
  by_cases q7 : vb = 7
  · subst q7
    rw [abq_v7] at k
    unfold wX2_slow
    simp (disch := first | assumption | omega) only [prv_n, nxt_n, q_sw, mc4, mc6, mc8, mc20, mc24, mc100, nv_rd, nb_rd, wr_rd, nI_lit, nI_add, pk_mul, pk_sub, q_div, cl_nI, vpi, q_eq, q_le, q_lt, n1_eq, n1_eq', n1_le, n1_lt, n1_ge, n1_gt, i_0m1, nlt_t, nlt_f, nle_t, nle_f, neq_f, f_below, f_within, f_isCorner, f_isIn, f_isCornerM, f_isStreet, f_isHouse, f_isCrew, f_isRow, f_has10, f_has0, jx_I, jx_N, jx_m1, jr_I, jr_N1, jr_N2, wr_2, isB_0, isB_1, true_and, and_true, and_self, false_and, and_false, true_or, or_true, false_or, or_false, not_true_eq_false, not_false_eq_true, forall_const, implies_true, false_implies, ne_eq, eq_self, if_true, if_false, Nat.zero_add, Nat.add_zero, Nat.mul_zero, Nat.zero_mul, Nat.mul_one, Nat.one_mul, Nat.add_sub_cancel, Nat.reduceEqDiff, Nat.reduceAdd, Nat.reduceMul, Nat.reduceSub, Nat.reduceLeDiff, Nat.reduceLT, Nat.reduceDiv, Nat.reduceMod, h.1.s58, h.2.v58, r2, r3, r15]
    by_cases q : x.1 298 j = 0
    · rw [if_pos q] at k
      exact ⟨fun _ => k, fun u => absurd q u⟩
    · rw [if_neg q] at k
      exact ⟨fun u => absurd u q, fun _ => k⟩
  obtain rfl | rfl | rfl | rfl | rfl | rfl | rfl | rfl | rfl : vb = 0 ∨ vb = 1 ∨ vb = 2 ∨ vb = 3 ∨ vb = 4 ∨ vb = 5 ∨ vb = 6 ∨ vb = 7 ∨ vb = 8 := by omega
  all_goals try exact absurd rfl q7
  all_goals (clear q7; simp (disch := first | assumption | omega) only [prv_n, nxt_n, q_sw, mc4, mc6, mc8, mc20, mc24, mc100, nv_rd, nb_rd, wr_rd, nI_lit, nI_add, pk_mul, pk_sub, q_div, cl_nI, vpi, q_eq, q_le, q_lt, n1_eq, n1_eq', n1_le, n1_lt, n1_ge, n1_gt, i_0m1, nlt_t, nlt_f, nle_t, nle_f, neq_f, f_below, f_within, f_isCorner, f_isIn, f_isCornerM, f_isStreet, f_isHouse, f_isCrew, f_isRow, f_has10, f_has0, jx_I, jx_N, jx_m1, jr_I, jr_N1, jr_N2, wr_2, isB_0, isB_1, true_and, and_true, and_self, false_and, and_false, true_or, or_true, false_or, or_false, not_true_eq_false, not_false_eq_true, forall_const, implies_true, false_implies, ne_eq, eq_self, if_true, if_false, Nat.zero_add, Nat.add_zero, Nat.mul_zero, Nat.zero_mul, Nat.mul_one, Nat.one_mul, Nat.add_sub_cancel, Nat.reduceEqDiff, Nat.reduceAdd, Nat.reduceMul, Nat.reduceSub, Nat.reduceLeDiff, Nat.reduceLT, Nat.reduceDiv, Nat.reduceMod, h.1.s58, h.2.v58, r8, r9, r10, r11, r12, r13, r15, r16]; first | exact k | exact fun _ => k)
theorem abq_mod {x : ab_X} {j vb : Nat} {P : Int32 → ab_X → Prop} (h : InvA x) (hj : j < nv x.1 246 58) (hv : vb ≤ 8) (k : P (abq_v x j vb) (wr x 246 0 (nI 0))) : wX12_about (nI j) (nI vb) x P := by
  have bn := h.2.b58
  unfold wX12_about wX12_about_23 wX12_about_24
  by_cases q7 : vb = 7
  · subst q7
    rw [abq_v7] at k
    unfold wX12_slowOf
    simp (disch := first | assumption | omega) only [prv_n, nxt_n, q_sw, mc4, mc6, mc8, mc20, mc24, mc100, nv_rd, nb_rd, wr_rd, nI_lit, nI_add, pk_mul, pk_sub, q_div, cl_nI, vpi, q_eq, q_le, q_lt, n1_eq, n1_eq', n1_le, n1_lt, n1_ge, n1_gt, i_0m1, nlt_t, nlt_f, nle_t, nle_f, neq_f, f_below, f_within, f_isCorner, f_isIn, f_isCornerM, f_isStreet, f_isHouse, f_isCrew, f_isRow, f_has10, f_has0, jx_I, jx_N, jx_m1, jr_I, jr_N1, jr_N2, wr_2, isB_0, isB_1, true_and, and_true, and_self, false_and, and_false, true_or, or_true, false_or, or_false, not_true_eq_false, not_false_eq_true, forall_const, implies_true, false_implies, ne_eq, eq_self, if_true, if_false, Nat.zero_add, Nat.add_zero, Nat.mul_zero, Nat.zero_mul, Nat.mul_one, Nat.one_mul, Nat.add_sub_cancel, Nat.reduceEqDiff, Nat.reduceAdd, Nat.reduceMul, Nat.reduceSub, Nat.reduceLeDiff, Nat.reduceLT, Nat.reduceDiv, Nat.reduceMod, h.1.s58, h.2.v58]
    by_cases q : x.1 298 j = 0
    · rw [if_pos q] at k
      exact ⟨fun _ => by rw [show x.1 281 j + nI 0 = x.1 281 j from Int32.add_zero _]; exact k, fun u => absurd q u⟩
    · rw [if_neg q] at k
      exact ⟨fun u => absurd u q, fun _ => k⟩
  obtain rfl | rfl | rfl | rfl | rfl | rfl | rfl | rfl | rfl : vb = 0 ∨ vb = 1 ∨ vb = 2 ∨ vb = 3 ∨ vb = 4 ∨ vb = 5 ∨ vb = 6 ∨ vb = 7 ∨ vb = 8 := by omega
  all_goals try exact absurd rfl q7
  all_goals (clear q7; simp (disch := first | assumption | omega) only [prv_n, nxt_n, q_sw, mc4, mc6, mc8, mc20, mc24, mc100, nv_rd, nb_rd, wr_rd, nI_lit, nI_add, pk_mul, pk_sub, q_div, cl_nI, vpi, q_eq, q_le, q_lt, n1_eq, n1_eq', n1_le, n1_lt, n1_ge, n1_gt, i_0m1, nlt_t, nlt_f, nle_t, nle_f, neq_f, f_below, f_within, f_isCorner, f_isIn, f_isCornerM, f_isStreet, f_isHouse, f_isCrew, f_isRow, f_has10, f_has0, jx_I, jx_N, jx_m1, jr_I, jr_N1, jr_N2, wr_2, isB_0, isB_1, true_and, and_true, and_self, false_and, and_false, true_or, or_true, false_or, or_false, not_true_eq_false, not_false_eq_true, forall_const, implies_true, false_implies, ne_eq, eq_self, if_true, if_false, Nat.zero_add, Nat.add_zero, Nat.mul_zero, Nat.zero_mul, Nat.mul_one, Nat.one_mul, Nat.add_sub_cancel, Nat.reduceEqDiff, Nat.reduceAdd, Nat.reduceMul, Nat.reduceSub, Nat.reduceLeDiff, Nat.reduceLT, Nat.reduceDiv, Nat.reduceMod, h.1.s58, h.2.v58]; first | exact k | exact fun _ => k)
theorem abq_clsO {x : ab_X} {a b : Int32} {P : Int32 → Prop} {T : Prop} (h : InvA x) (q : jx a (nI (nv x.1 246 58)) = nI 0 ∨ (∃ j, j < nv x.1 246 58 ∧ a = nI j) ∧ jr b (nI 0) (nI 8) = nI 0) (k : T) : wX11_about a b x P T := by
  have bn := h.2.b58
  unfold wX11_about
  rcases q with e | ⟨⟨j, hj, rfl⟩, e⟩
  · simp (disch := first | assumption | omega) only [prv_n, nxt_n, q_sw, mc4, mc6, mc8, mc20, mc24, mc100, nv_rd, nb_rd, wr_rd, nI_lit, nI_add, pk_mul, pk_sub, q_div, cl_nI, vpi, q_eq, q_le, q_lt, n1_eq, n1_eq', n1_le, n1_lt, n1_ge, n1_gt, i_0m1, nlt_t, nlt_f, nle_t, nle_f, neq_f, f_below, f_within, f_isCorner, f_isIn, f_isCornerM, f_isStreet, f_isHouse, f_isCrew, f_isRow, f_has10, f_has0, jx_I, jx_N, jx_m1, jr_I, jr_N1, jr_N2, wr_2, isB_0, isB_1, true_and, and_true, and_self, false_and, and_false, true_or, or_true, false_or, or_false, not_true_eq_false, not_false_eq_true, forall_const, implies_true, false_implies, ne_eq, eq_self, if_true, if_false, Nat.zero_add, Nat.add_zero, Nat.mul_zero, Nat.zero_mul, Nat.mul_one, Nat.one_mul, Nat.add_sub_cancel, Nat.reduceEqDiff, Nat.reduceAdd, Nat.reduceMul, Nat.reduceSub, Nat.reduceLeDiff, Nat.reduceLT, Nat.reduceDiv, Nat.reduceMod, h.1.s58, h.2.v58, e]
    exact k
  · simp (disch := first | assumption | omega) only [prv_n, nxt_n, q_sw, mc4, mc6, mc8, mc20, mc24, mc100, nv_rd, nb_rd, wr_rd, nI_lit, nI_add, pk_mul, pk_sub, q_div, cl_nI, vpi, q_eq, q_le, q_lt, n1_eq, n1_eq', n1_le, n1_lt, n1_ge, n1_gt, i_0m1, nlt_t, nlt_f, nle_t, nle_f, neq_f, f_below, f_within, f_isCorner, f_isIn, f_isCornerM, f_isStreet, f_isHouse, f_isCrew, f_isRow, f_has10, f_has0, jx_I, jx_N, jx_m1, jr_I, jr_N1, jr_N2, wr_2, isB_0, isB_1, true_and, and_true, and_self, false_and, and_false, true_or, or_true, false_or, or_false, not_true_eq_false, not_false_eq_true, forall_const, implies_true, false_implies, ne_eq, eq_self, if_true, if_false, Nat.zero_add, Nat.add_zero, Nat.mul_zero, Nat.zero_mul, Nat.mul_one, Nat.one_mul, Nat.add_sub_cancel, Nat.reduceEqDiff, Nat.reduceAdd, Nat.reduceMul, Nat.reduceSub, Nat.reduceLeDiff, Nat.reduceLT, Nat.reduceDiv, Nat.reduceMod, h.1.s58, h.2.v58, e]
    exact k
theorem abq_modO {x : ab_X} {a b : Int32} {P : Int32 → ab_X → Prop} (h : InvA x) (q : jx a (nI (nv x.1 246 58)) = nI 0 ∨ (∃ j, j < nv x.1 246 58 ∧ a = nI j) ∧ jr b (nI 0) (nI 8) = nI 0) (k : P (nI 0) (wr x 246 0 (nI 1))) : wX12_about a b x P := by
  have bn := h.2.b58
  unfold wX12_about wX12_about_23 wX12_about_24
  rcases q with e | ⟨⟨j, hj, rfl⟩, e⟩
  · simp (disch := first | assumption | omega) only [prv_n, nxt_n, q_sw, mc4, mc6, mc8, mc20, mc24, mc100, nv_rd, nb_rd, wr_rd, nI_lit, nI_add, pk_mul, pk_sub, q_div, cl_nI, vpi, q_eq, q_le, q_lt, n1_eq, n1_eq', n1_le, n1_lt, n1_ge, n1_gt, i_0m1, nlt_t, nlt_f, nle_t, nle_f, neq_f, f_below, f_within, f_isCorner, f_isIn, f_isCornerM, f_isStreet, f_isHouse, f_isCrew, f_isRow, f_has10, f_has0, jx_I, jx_N, jx_m1, jr_I, jr_N1, jr_N2, wr_2, isB_0, isB_1, true_and, and_true, and_self, false_and, and_false, true_or, or_true, false_or, or_false, not_true_eq_false, not_false_eq_true, forall_const, implies_true, false_implies, ne_eq, eq_self, if_true, if_false, Nat.zero_add, Nat.add_zero, Nat.mul_zero, Nat.zero_mul, Nat.mul_one, Nat.one_mul, Nat.add_sub_cancel, Nat.reduceEqDiff, Nat.reduceAdd, Nat.reduceMul, Nat.reduceSub, Nat.reduceLeDiff, Nat.reduceLT, Nat.reduceDiv, Nat.reduceMod, h.1.s58, h.2.v58, e]
    exact k
  · simp (disch := first | assumption | omega) only [prv_n, nxt_n, q_sw, mc4, mc6, mc8, mc20, mc24, mc100, nv_rd, nb_rd, wr_rd, nI_lit, nI_add, pk_mul, pk_sub, q_div, cl_nI, vpi, q_eq, q_le, q_lt, n1_eq, n1_eq', n1_le, n1_lt, n1_ge, n1_gt, i_0m1, nlt_t, nlt_f, nle_t, nle_f, neq_f, f_below, f_within, f_isCorner, f_isIn, f_isCornerM, f_isStreet, f_isHouse, f_isCrew, f_isRow, f_has10, f_has0, jx_I, jx_N, jx_m1, jr_I, jr_N1, jr_N2, wr_2, isB_0, isB_1, true_and, and_true, and_self, false_and, and_false, true_or, or_true, false_or, or_false, not_true_eq_false, not_false_eq_true, forall_const, implies_true, false_implies, ne_eq, eq_self, if_true, if_false, Nat.zero_add, Nat.add_zero, Nat.mul_zero, Nat.zero_mul, Nat.mul_one, Nat.one_mul, Nat.add_sub_cancel, Nat.reduceEqDiff, Nat.reduceAdd, Nat.reduceMul, Nat.reduceSub, Nat.reduceLeDiff, Nat.reduceLT, Nat.reduceDiv, Nat.reduceMod, h.1.s58, h.2.v58, e]
    exact k
theorem p_about {x : ab_X} {a b : Int32} (h : InvA x) {K : ab_X → Prop} (hk : ∀ z, InvA z → keepT x.1 z.1 → K z) :
    wL_about a b x (fun r y => wX12_about a b y (fun r' z => wX12_thrown z (fun t => ((t = r → ((¬ r = 0 → K z) ∧ (r = 0 → (((lg_cmp (z.2.2.1 337 (Int32.toNatClampNeg 0)) (Int32.toInt64 r')) = 0 → K z) ∧ (¬ (lg_cmp (z.2.2.1 337 (Int32.toNatClampNeg 0)) (Int32.toInt64 r')) = 0 → False))))) ∧ (¬ t = r → False))))) := by
  have bn := h.2.b58
  have out : jx a (nI (nv x.1 246 58)) = nI 0 ∨ (∃ j, j < nv x.1 246 58 ∧ a = nI j) ∧ jr b (nI 0) (nI 8) = nI 0 → wL_about a b x (fun r y => wX12_about a b y (fun r' z => wX12_thrown z (fun t => ((t = r → ((¬ r = 0 → K z) ∧ (r = 0 → (((lg_cmp (z.2.2.1 337 (Int32.toNatClampNeg 0)) (Int32.toInt64 r')) = 0 → K z) ∧ (¬ (lg_cmp (z.2.2.1 337 (Int32.toNatClampNeg 0)) (Int32.toInt64 r')) = 0 → False))))) ∧ (¬ t = r → False))))) := by
    intro q
    unfold wL_about
    refine abq_clsO h q ?_
    refine abq_modO h q ?_
    unfold wX12_thrown
    exact ⟨fun _ => ⟨fun _ => hk _ (InvA_th h) keepT_th, fun q => absurd q (by decide)⟩, fun q => q rfl⟩
  rcases jx_d a (n := nv x.1 246 58) (by omega) with e | ⟨j, hj, rfl⟩
  · exact out (Or.inl e)
  rcases jr_d b (lo := 0) (hi := 8) (by omega) (by omega) with e1 | ⟨vb, b1, b2, rfl⟩
  · exact out (Or.inr ⟨⟨j, hj, rfl⟩, e1⟩)
  clear out
  unfold wL_about
  refine abq_cls h hj b2 ?_
  refine abq_mod (x := wrl x 337 0 (Int32.toInt64 (abq_v x j vb))) h hj b2 ?_
  unfold wX12_thrown
  refine ⟨fun _ => ⟨fun q => absurd rfl q, fun _ => ⟨fun _ => hk _ (InvA_th (x := wrl x 337 0 (Int32.toInt64 (abq_v x j vb))) h) (keepT_th (x := wrl x 337 0 (Int32.toInt64 (abq_v x j vb)))), fun q => q ?_⟩⟩, fun q => q rfl⟩
  show lg_cmp (Int32.toInt64 (abq_v x j vb)) (Int32.toInt64 (abq_v x j vb)) = 0
  exact lgc_self _
