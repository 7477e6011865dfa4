/-! THE FIRE: the reference's first half of a minute. -/
theorem r_split {F w r : Nat} (hr : r < F * w) : ∃ f q, f < F ∧ q < w ∧ r = f * w + q ∧ r / w = f := by
  have hw : 0 < w := by
    apply Nat.pos_of_ne_zero
    intro e
    rw [e, Nat.mul_zero] at hr
    omega
  refine ⟨r / w, r % w, Nat.div_lt_of_lt_mul (by rw [Nat.mul_comm]; exact hr), Nat.mod_lt _ hw, ?_, rfl⟩
  rw [Nat.mul_comm]
  exact (Nat.div_add_mod r w).symm
theorem keepF_o {Y X X' : Nat → Nat → Int32} (m : keepF Y X) (e : ∀ c, c ≠ 269 → c ≠ 270 → X' c = X c) : keepF Y X' := ⟨fun c q => by rw [e c (by unfold kF at q; omega) (by unfold kF at q; omega)]; exact m.1 c q, by rw [e 246 (by decide) (by decide)]; exact m.2⟩
theorem m_half {x s : ab_X} {V : Int32} (m : keepF s.1 x.1) (w : TW s.1) {K : ab_X → Prop} (k : ∀ z : ab_X, (∀ c, c ≠ 266 → c ≠ 267 → c ≠ 269 → c ≠ 270 → c ≠ 271 → z.1 c = x.1 c) → z.2 = x.2 → z.1 266 = (fs1 s (x.1 268)).1 266 → z.1 267 = (fs1 s (x.1 268)).1 267 → z.1 271 = (fs1 s (x.1 268)).1 271 → Lp2 (lX12_burn_254 V K) 0 z) : wX12_burn V x K := by
  have b := w.b
  unfold wX12_burn
  refine Lp2.ind (fun i a y => ∃ h, h ≤ nv s.1 246 31 ∧ i = nv s.1 246 31 - h ∧ a = nI h ∧ (∀ c, c ≠ 269 → c ≠ 270 → y.1 c = x.1 c) ∧ y.2 = x.2 ∧ Tab s.1 (x.1 269) (nhK s.1 (x.1 268)) (24 * h) (y.1 269) ∧ Tab s.1 (x.1 270) (lsI s.1) (24 * h) (y.1 270)) (nv s.1 246 31) ⟨0, by omega, by omega, rfl, fun _ _ _ => rfl, rfl, Tab_0, Tab_0⟩ ?_
  rintro i a y ⟨h, hh, rfl, rfl, y1, y2, y3, y4⟩ L hL
  have my := keepF_o m y1
  unfold lX12_burn_2
  by_cases e : h = nv s.1 246 31
  case neg =>
    have hh2 : h < nv s.1 246 31 := by omega
    have rm := rm_le w hh2
    obtain ⟨-, -, w3, -, w5, -⟩ := w.2.1.1 h hh2
    have u3 := w3.2
    have u5 := w5.2
    have a3 := w3.1
    have a5 := w5.1
    simp (disch := first | assumption | omega) only [prv_n, nxt_n, q_sw, mc4, mc6, mc8, mc20, mc24, mc100, nv_rd, nb_rd, wr_rd, nI_lit, nI_add, pk_mul, pk_sub, q_div, cl_nI, vpi, q_eq, q_le, q_lt, n1_eq, n1_eq', n1_le, n1_lt, n1_ge, n1_gt, i_0m1, nlt_t, nlt_f, nle_t, nle_f, neq_f, f_below, f_within, f_isCorner, f_isIn, f_isCornerM, f_isStreet, f_isHouse, f_isCrew, f_isRow, f_has10, f_has0, jx_I, jx_N, jx_m1, jr_I, jr_N1, jr_N2, wr_2, isB_0, isB_1, true_and, and_true, and_self, false_and, and_false, true_or, or_true, false_or, or_false, not_true_eq_false, not_false_eq_true, forall_const, implies_true, false_implies, ne_eq, eq_self, if_true, if_false, Nat.zero_add, Nat.add_zero, Nat.mul_zero, Nat.zero_mul, Nat.mul_one, Nat.one_mul, Nat.add_sub_cancel, Nat.reduceEqDiff, Nat.reduceAdd, Nat.reduceMul, Nat.reduceSub, Nat.reduceLeDiff, Nat.reduceLT, Nat.reduceDiv, Nat.reduceMod, my.2, w.v]
    refine Lp2.ind (fun i a z => ∃ r, r ≤ nv s.1 256 h * nv s.1 257 h ∧ i = nv s.1 256 h * nv s.1 257 h - r ∧ a = nI r ∧ (∀ c, c ≠ 269 → c ≠ 270 → z.1 c = x.1 c) ∧ z.2 = x.2 ∧ Tab s.1 (x.1 269) (nhK s.1 (x.1 268)) (24 * h + r) (z.1 269) ∧ Tab s.1 (x.1 270) (lsI s.1) (24 * h + r) (z.1 270)) (nv s.1 256 h * nv s.1 257 h) ⟨0, by omega, by omega, rfl, y1, y2, y3, y4⟩ ?_
    rintro i a z ⟨r, hr, rfl, rfl, z1, z2, z3, z4⟩ L2 hL2
    have mz := keepF_o m z1
    unfold lX12_burn_12
    by_cases e2 : r = nv s.1 256 h * nv s.1 257 h
    · rw [e2] at z3 z4 ⊢
      simp (disch := first | assumption | omega) only [prv_n, nxt_n, q_sw, mc4, mc6, mc8, mc20, mc24, mc100, nv_rd, nb_rd, wr_rd, nI_lit, nI_add, pk_mul, pk_sub, q_div, cl_nI, vpi, q_eq, q_le, q_lt, n1_eq, n1_eq', n1_le, n1_lt, n1_ge, n1_gt, i_0m1, nlt_t, nlt_f, nle_t, nle_f, neq_f, f_below, f_within, f_isCorner, f_isIn, f_isCornerM, f_isStreet, f_isHouse, f_isCrew, f_isRow, f_has10, f_has0, jx_I, jx_N, jx_m1, jr_I, jr_N1, jr_N2, wr_2, isB_0, isB_1, true_and, and_true, and_self, false_and, and_false, true_or, or_true, false_or, or_false, not_true_eq_false, not_false_eq_true, forall_const, implies_true, false_implies, ne_eq, eq_self, if_true, if_false, Nat.zero_add, Nat.add_zero, Nat.mul_zero, Nat.zero_mul, Nat.mul_one, Nat.one_mul, Nat.add_sub_cancel, Nat.reduceEqDiff, Nat.reduceAdd, Nat.reduceMul, Nat.reduceSub, Nat.reduceLeDiff, Nat.reduceLT, Nat.reduceDiv, Nat.reduceMod, mz.c256, mz.c257, a3, a5]
      exact hL _ _ _ (by omega) ⟨h + 1, by omega, rfl, rfl, z1, z2, Tab_r z3 rm, Tab_r z4 rm⟩
    have hr2 : r < nv s.1 256 h * nv s.1 257 h := by omega
    obtain ⟨vl, -, -⟩ := vld_of w hh2 hr2
    obtain ⟨f, q, hf, hq, er, ed⟩ := r_split hr2
    have nk := nhK_of (Wa := x.1 268) w hh2 hf hq
    rw [← er] at nk
    simp (disch := first | assumption | omega) only [prv_n, nxt_n, q_sw, mc4, mc6, mc8, mc20, mc24, mc100, nv_rd, nb_rd, wr_rd, nI_lit, nI_add, pk_mul, pk_sub, q_div, cl_nI, vpi, q_eq, q_le, q_lt, n1_eq, n1_eq', n1_le, n1_lt, n1_ge, n1_gt, i_0m1, nlt_t, nlt_f, nle_t, nle_f, neq_f, f_below, f_within, f_isCorner, f_isIn, f_isCornerM, f_isStreet, f_isHouse, f_isCrew, f_isRow, f_has10, f_has0, jx_I, jx_N, jx_m1, jr_I, jr_N1, jr_N2, wr_2, isB_0, isB_1, true_and, and_true, and_self, false_and, and_false, true_or, or_true, false_or, or_false, not_true_eq_false, not_false_eq_true, forall_const, implies_true, false_implies, ne_eq, eq_self, if_true, if_false, Nat.zero_add, Nat.add_zero, Nat.mul_zero, Nat.zero_mul, Nat.mul_one, Nat.one_mul, Nat.add_sub_cancel, Nat.reduceEqDiff, Nat.reduceAdd, Nat.reduceMul, Nat.reduceSub, Nat.reduceLeDiff, Nat.reduceLT, Nat.reduceDiv, Nat.reduceMod, mz.c256, mz.c257, a3, a5]
    refine m_floorOf mz w hh2 (by omega) ?_
    rw [ed]
    have b5 : isB (s.1 274 (6 * h + f)) := w.2.2.2.1 _ (by omega)
    have e268 : z.1 268 = x.1 268 := z1 268 (by decide) (by decide)
    have fin : ∀ n : Int32, n = nhK s.1 (x.1 268) (24 * h + r) → wX12_burn_90 V (nI h) (nI r) (nI (24 * h + r)) (nI (24 * h + r)) n z K L L2 := by
      intro n hn
      unfold wX12_burn_90
      have mz' : keepF s.1 (wr z 269 (24 * h + r) n).1 := keepF_o mz (fun c h1 h2 => wr_n h1)
      have go : ∀ l : Int32, l = lsI s.1 (24 * h + r) → L2 (nI (r + 1)) (wr (wr z 269 (24 * h + r) n) 270 (24 * h + r) l) := by
        intro l hl
        refine hL2 _ _ _ (by omega) ⟨r + 1, by omega, rfl, rfl, fun c h1 h2 => by rw [wr_n h2, wr_n h1]; exact z1 c h1 h2, z2, ?_, ?_⟩
        · rw [← Nat.add_assoc]
          exact Tab_n z3 vl (by rw [wr_n (by decide), wr_e]; exact hn) (fun j hj => by rw [wr_n (by decide), wr_k hj])
        · rw [← Nat.add_assoc]
          exact Tab_n z4 vl (by rw [wr_e]; exact hl) (fun j hj => by rw [wr_k hj, wr_n (by decide)])
      simp (disch := first | assumption | omega) only [prv_n, nxt_n, q_sw, mc4, mc6, mc8, mc20, mc24, mc100, nv_rd, nb_rd, wr_rd, nI_lit, nI_add, pk_mul, pk_sub, q_div, cl_nI, vpi, q_eq, q_le, q_lt, n1_eq, n1_eq', n1_le, n1_lt, n1_ge, n1_gt, i_0m1, nlt_t, nlt_f, nle_t, nle_f, neq_f, f_below, f_within, f_isCorner, f_isIn, f_isCornerM, f_isStreet, f_isHouse, f_isCrew, f_isRow, f_has10, f_has0, jx_I, jx_N, jx_m1, jr_I, jr_N1, jr_N2, wr_2, isB_0, isB_1, true_and, and_true, and_self, false_and, and_false, true_or, or_true, false_or, or_false, not_true_eq_false, not_false_eq_true, forall_const, implies_true, false_implies, ne_eq, eq_self, if_true, if_false, Nat.zero_add, Nat.add_zero, Nat.mul_zero, Nat.zero_mul, Nat.mul_one, Nat.one_mul, Nat.add_sub_cancel, Nat.reduceEqDiff, Nat.reduceAdd, Nat.reduceMul, Nat.reduceSub, Nat.reduceLeDiff, Nat.reduceLT, Nat.reduceDiv, Nat.reduceMod]
      refine m_burns mz' w hh2 hr2 ?_
      cases q2 : bu s.1 (24 * h + r)
      · simp (disch := first | assumption | omega) only [prv_n, nxt_n, q_sw, mc4, mc6, mc8, mc20, mc24, mc100, nv_rd, nb_rd, wr_rd, nI_lit, nI_add, pk_mul, pk_sub, q_div, cl_nI, vpi, q_eq, q_le, q_lt, n1_eq, n1_eq', n1_le, n1_lt, n1_ge, n1_gt, i_0m1, nlt_t, nlt_f, nle_t, nle_f, neq_f, f_below, f_within, f_isCorner, f_isIn, f_isCornerM, f_isStreet, f_isHouse, f_isCrew, f_isRow, f_has10, f_has0, jx_I, jx_N, jx_m1, jr_I, jr_N1, jr_N2, wr_2, isB_0, isB_1, true_and, and_true, and_self, false_and, and_false, true_or, or_true, false_or, or_false, not_true_eq_false, not_false_eq_true, forall_const, implies_true, false_implies, ne_eq, eq_self, if_true, if_false, Nat.zero_add, Nat.add_zero, Nat.mul_zero, Nat.zero_mul, Nat.mul_one, Nat.one_mul, Nat.add_sub_cancel, Nat.reduceEqDiff, Nat.reduceAdd, Nat.reduceMul, Nat.reduceSub, Nat.reduceLeDiff, Nat.reduceLT, Nat.reduceDiv, Nat.reduceMod, bb_f]
        exact go _ (by unfold lsI; rw [q2]; rfl)
      · simp (disch := first | assumption | omega) only [prv_n, nxt_n, q_sw, mc4, mc6, mc8, mc20, mc24, mc100, nv_rd, nb_rd, wr_rd, nI_lit, nI_add, pk_mul, pk_sub, q_div, cl_nI, vpi, q_eq, q_le, q_lt, n1_eq, n1_eq', n1_le, n1_lt, n1_ge, n1_gt, i_0m1, nlt_t, nlt_f, nle_t, nle_f, neq_f, f_below, f_within, f_isCorner, f_isIn, f_isCornerM, f_isStreet, f_isHouse, f_isCrew, f_isRow, f_has10, f_has0, jx_I, jx_N, jx_m1, jr_I, jr_N1, jr_N2, wr_2, isB_0, isB_1, true_and, and_true, and_self, false_and, and_false, true_or, or_true, false_or, or_false, not_true_eq_false, not_false_eq_true, forall_const, implies_true, false_implies, ne_eq, eq_self, if_true, if_false, Nat.zero_add, Nat.add_zero, Nat.mul_zero, Nat.zero_mul, Nat.mul_one, Nat.one_mul, Nat.add_sub_cancel, Nat.reduceEqDiff, Nat.reduceAdd, Nat.reduceMul, Nat.reduceSub, Nat.reduceLeDiff, Nat.reduceLT, Nat.reduceDiv, Nat.reduceMod, bb_t]
        refine go _ ?_
        unfold lsI
        rw [q2, if_pos rfl, mz.c267, mz.c266]
    unfold nhI at nk
    by_cases q5 : s.1 274 (6 * h + f) = nI 0
    · rw [if_pos q5, ← er] at nk
      simp (disch := first | assumption | omega) only [prv_n, nxt_n, q_sw, mc4, mc6, mc8, mc20, mc24, mc100, nv_rd, nb_rd, wr_rd, nI_lit, nI_add, pk_mul, pk_sub, q_div, cl_nI, vpi, q_eq, q_le, q_lt, n1_eq, n1_eq', n1_le, n1_lt, n1_ge, n1_gt, i_0m1, nlt_t, nlt_f, nle_t, nle_f, neq_f, f_below, f_within, f_isCorner, f_isIn, f_isCornerM, f_isStreet, f_isHouse, f_isCrew, f_isRow, f_has10, f_has0, jx_I, jx_N, jx_m1, jr_I, jr_N1, jr_N2, wr_2, isB_0, isB_1, true_and, and_true, and_self, false_and, and_false, true_or, or_true, false_or, or_false, not_true_eq_false, not_false_eq_true, forall_const, implies_true, false_implies, ne_eq, eq_self, if_true, if_false, Nat.zero_add, Nat.add_zero, Nat.mul_zero, Nat.zero_mul, Nat.mul_one, Nat.one_mul, Nat.add_sub_cancel, Nat.reduceEqDiff, Nat.reduceAdd, Nat.reduceMul, Nat.reduceSub, Nat.reduceLeDiff, Nat.reduceLT, Nat.reduceDiv, Nat.reduceMod, mz.c274, q5]
      rw [er]
      refine m_gain mz w hh2 hf hq ?_
      rw [← er]
      simp (disch := first | assumption | omega) only [prv_n, nxt_n, q_sw, mc4, mc6, mc8, mc20, mc24, mc100, nv_rd, nb_rd, wr_rd, nI_lit, nI_add, pk_mul, pk_sub, q_div, cl_nI, vpi, q_eq, q_le, q_lt, n1_eq, n1_eq', n1_le, n1_lt, n1_ge, n1_gt, i_0m1, nlt_t, nlt_f, nle_t, nle_f, neq_f, f_below, f_within, f_isCorner, f_isIn, f_isCornerM, f_isStreet, f_isHouse, f_isCrew, f_isRow, f_has10, f_has0, jx_I, jx_N, jx_m1, jr_I, jr_N1, jr_N2, wr_2, isB_0, isB_1, true_and, and_true, and_self, false_and, and_false, true_or, or_true, false_or, or_false, not_true_eq_false, not_false_eq_true, forall_const, implies_true, false_implies, ne_eq, eq_self, if_true, if_false, Nat.zero_add, Nat.add_zero, Nat.mul_zero, Nat.zero_mul, Nat.mul_one, Nat.one_mul, Nat.add_sub_cancel, Nat.reduceEqDiff, Nat.reduceAdd, Nat.reduceMul, Nat.reduceSub, Nat.reduceLeDiff, Nat.reduceLT, Nat.reduceDiv, Nat.reduceMod, mz.c266]
      refine fin _ ?_
      rw [nk, e268]
    · rw [if_neg q5] at nk
      simp (disch := first | assumption | omega) only [prv_n, nxt_n, q_sw, mc4, mc6, mc8, mc20, mc24, mc100, nv_rd, nb_rd, wr_rd, nI_lit, nI_add, pk_mul, pk_sub, q_div, cl_nI, vpi, q_eq, q_le, q_lt, n1_eq, n1_eq', n1_le, n1_lt, n1_ge, n1_gt, i_0m1, nlt_t, nlt_f, nle_t, nle_f, neq_f, f_below, f_within, f_isCorner, f_isIn, f_isCornerM, f_isStreet, f_isHouse, f_isCrew, f_isRow, f_has10, f_has0, jx_I, jx_N, jx_m1, jr_I, jr_N1, jr_N2, wr_2, isB_0, isB_1, true_and, and_true, and_self, false_and, and_false, true_or, or_true, false_or, or_false, not_true_eq_false, not_false_eq_true, forall_const, implies_true, false_implies, ne_eq, eq_self, if_true, if_false, Nat.zero_add, Nat.add_zero, Nat.mul_zero, Nat.zero_mul, Nat.mul_one, Nat.one_mul, Nat.add_sub_cancel, Nat.reduceEqDiff, Nat.reduceAdd, Nat.reduceMul, Nat.reduceSub, Nat.reduceLeDiff, Nat.reduceLT, Nat.reduceDiv, Nat.reduceMod, mz.c274, q5]
      exact fin _ nk.symm
  rw [e] at y3 y4 ⊢
  simp (disch := first | assumption | omega) only [prv_n, nxt_n, q_sw, mc4, mc6, mc8, mc20, mc24, mc100, nv_rd, nb_rd, wr_rd, nI_lit, nI_add, pk_mul, pk_sub, q_div, cl_nI, vpi, q_eq, q_le, q_lt, n1_eq, n1_eq', n1_le, n1_lt, n1_ge, n1_gt, i_0m1, nlt_t, nlt_f, nle_t, nle_f, neq_f, f_below, f_within, f_isCorner, f_isIn, f_isCornerM, f_isStreet, f_isHouse, f_isCrew, f_isRow, f_has10, f_has0, jx_I, jx_N, jx_m1, jr_I, jr_N1, jr_N2, wr_2, isB_0, isB_1, true_and, and_true, and_self, false_and, and_false, true_or, or_true, false_or, or_false, not_true_eq_false, not_false_eq_true, forall_const, implies_true, false_implies, ne_eq, eq_self, if_true, if_false, Nat.zero_add, Nat.add_zero, Nat.mul_zero, Nat.zero_mul, Nat.mul_one, Nat.one_mul, Nat.add_sub_cancel, Nat.reduceEqDiff, Nat.reduceAdd, Nat.reduceMul, Nat.reduceSub, Nat.reduceLeDiff, Nat.reduceLT, Nat.reduceDiv, Nat.reduceMod, my.2, w.v]
  -- what was reckoned is put
  have v269 : ∀ k, vld s.1 k → y.1 269 k = nhK s.1 (x.1 268) k := fun k v => (Tab_e y3 (Nat.le_refl _) k).1 v
  have v270 : ∀ k, vld s.1 k → y.1 270 k = lsI s.1 k := fun k v => (Tab_e y4 (Nat.le_refl _) k).1 v
  refine Lp2.ind (fun i a z => ∃ h, h ≤ nv s.1 246 31 ∧ i = nv s.1 246 31 - h ∧ a = nI h ∧ (∀ c, c ≠ 266 → c ≠ 267 → c ≠ 271 → z.1 c = y.1 c) ∧ z.2 = x.2 ∧ Tab s.1 (s.1 266) (nhK s.1 (x.1 268)) (24 * h) (z.1 266) ∧ Tab s.1 (s.1 267) (fun k => s.1 267 k - lsI s.1 k) (24 * h) (z.1 267) ∧ TabB s.1 (s.1 271) (24 * h) (z.1 271)) (nv s.1 246 31) ⟨0, by omega, by omega, rfl, fun _ _ _ _ => rfl, y2, by rw [my.c266]; exact Tab_0, by rw [my.c267]; exact Tab_0, by rw [my.c271]; exact TabB_0⟩ ?_
  rintro i a z ⟨h, hh, rfl, rfl, z1, z2, z3, z4, z5⟩ L2 hL2
  unfold lX12_burn_148
  have z31 : z.1 246 31 = nI (nv s.1 246 31) := by rw [z1 246 (by decide) (by decide) (by decide), my.2, w.v]
  by_cases e3 : h = nv s.1 246 31
  · rw [e3] at z3 z4 z5 ⊢
    simp (disch := first | assumption | omega) only [prv_n, nxt_n, q_sw, mc4, mc6, mc8, mc20, mc24, mc100, nv_rd, nb_rd, wr_rd, nI_lit, nI_add, pk_mul, pk_sub, q_div, cl_nI, vpi, q_eq, q_le, q_lt, n1_eq, n1_eq', n1_le, n1_lt, n1_ge, n1_gt, i_0m1, nlt_t, nlt_f, nle_t, nle_f, neq_f, f_below, f_within, f_isCorner, f_isIn, f_isCornerM, f_isStreet, f_isHouse, f_isCrew, f_isRow, f_has10, f_has0, jx_I, jx_N, jx_m1, jr_I, jr_N1, jr_N2, wr_2, isB_0, isB_1, true_and, and_true, and_self, false_and, and_false, true_or, or_true, false_or, or_false, not_true_eq_false, not_false_eq_true, forall_const, implies_true, false_implies, ne_eq, eq_self, if_true, if_false, Nat.zero_add, Nat.add_zero, Nat.mul_zero, Nat.zero_mul, Nat.mul_one, Nat.one_mul, Nat.add_sub_cancel, Nat.reduceEqDiff, Nat.reduceAdd, Nat.reduceMul, Nat.reduceSub, Nat.reduceLeDiff, Nat.reduceLT, Nat.reduceDiv, Nat.reduceMod, z31]
    refine k z (fun c h1 h2 h3 h4 h5 => by rw [z1 c h1 h2 h5]; exact y1 c h3 h4) z2 ?_ ?_ ?_
    · rw [fs1_266]
      funext k
      by_cases q : vlb s.1 k = true
      · rw [if_pos q]; exact (Tab_e z3 (Nat.le_refl _) k).1 (vlb_t.mp q)
      · rw [if_neg q]; exact (Tab_e z3 (Nat.le_refl _) k).2 (fun u => q (vlb_t.mpr u))
    · rw [fs1_267]
      funext k
      by_cases q : vlb s.1 k = true
      · rw [if_pos q]; exact (Tab_e z4 (Nat.le_refl _) k).1 (vlb_t.mp q)
      · rw [if_neg q]; exact (Tab_e z4 (Nat.le_refl _) k).2 (fun u => q (vlb_t.mpr u))
    · rw [fs1_271]
      funext k
      exact TabB_e w z5 (Nat.le_refl _) rfl
  have hh2 : h < nv s.1 246 31 := by omega
  have rm := rm_le w hh2
  obtain ⟨-, -, w3, -, w5, w6, -⟩ := w.2.1.1 h hh2
  have u3 := w3.2
  have u5 := w5.2
  simp (disch := first | assumption | omega) only [prv_n, nxt_n, q_sw, mc4, mc6, mc8, mc20, mc24, mc100, nv_rd, nb_rd, wr_rd, nI_lit, nI_add, pk_mul, pk_sub, q_div, cl_nI, vpi, q_eq, q_le, q_lt, n1_eq, n1_eq', n1_le, n1_lt, n1_ge, n1_gt, i_0m1, nlt_t, nlt_f, nle_t, nle_f, neq_f, f_below, f_within, f_isCorner, f_isIn, f_isCornerM, f_isStreet, f_isHouse, f_isCrew, f_isRow, f_has10, f_has0, jx_I, jx_N, jx_m1, jr_I, jr_N1, jr_N2, wr_2, isB_0, isB_1, true_and, and_true, and_self, false_and, and_false, true_or, or_true, false_or, or_false, not_true_eq_false, not_false_eq_true, forall_const, implies_true, false_implies, ne_eq, eq_self, if_true, if_false, Nat.zero_add, Nat.add_zero, Nat.mul_zero, Nat.zero_mul, Nat.mul_one, Nat.one_mul, Nat.add_sub_cancel, Nat.reduceEqDiff, Nat.reduceAdd, Nat.reduceMul, Nat.reduceSub, Nat.reduceLeDiff, Nat.reduceLT, Nat.reduceDiv, Nat.reduceMod, z31]
  refine Lp2.ind (fun i a z => ∃ r, r ≤ nv s.1 256 h * nv s.1 257 h ∧ i = nv s.1 256 h * nv s.1 257 h - r ∧ a = nI r ∧ (∀ c, c ≠ 266 → c ≠ 267 → c ≠ 271 → z.1 c = y.1 c) ∧ z.2 = x.2 ∧ Tab s.1 (s.1 266) (nhK s.1 (x.1 268)) (24 * h + r) (z.1 266) ∧ Tab s.1 (s.1 267) (fun k => s.1 267 k - lsI s.1 k) (24 * h + r) (z.1 267) ∧ TabB s.1 (s.1 271) (24 * h + r) (z.1 271)) (nv s.1 256 h * nv s.1 257 h) ⟨0, by omega, by omega, rfl, z1, z2, z3, z4, z5⟩ ?_
  clear z1 z2 z3 z4 z5 z31
  rintro i a z ⟨r, hr, rfl, rfl, z1, z2, z3, z4, z5⟩ L3 hL3
  have a3 : z.1 256 h = nI (nv s.1 256 h) := by rw [z1 256 (by decide) (by decide) (by decide), my.c256, w3.1]
  have a5 : z.1 257 h = nI (nv s.1 257 h) := by rw [z1 257 (by decide) (by decide) (by decide), my.c257, w5.1]
  unfold lX12_burn_158 wX12_floorOf
  by_cases e2 : r = nv s.1 256 h * nv s.1 257 h
  · rw [e2] at z3 z4 z5 ⊢
    simp (disch := first | assumption | omega) only [prv_n, nxt_n, q_sw, mc4, mc6, mc8, mc20, mc24, mc100, nv_rd, nb_rd, wr_rd, nI_lit, nI_add, pk_mul, pk_sub, q_div, cl_nI, vpi, q_eq, q_le, q_lt, n1_eq, n1_eq', n1_le, n1_lt, n1_ge, n1_gt, i_0m1, nlt_t, nlt_f, nle_t, nle_f, neq_f, f_below, f_within, f_isCorner, f_isIn, f_isCornerM, f_isStreet, f_isHouse, f_isCrew, f_isRow, f_has10, f_has0, jx_I, jx_N, jx_m1, jr_I, jr_N1, jr_N2, wr_2, isB_0, isB_1, true_and, and_true, and_self, false_and, and_false, true_or, or_true, false_or, or_false, not_true_eq_false, not_false_eq_true, forall_const, implies_true, false_implies, ne_eq, eq_self, if_true, if_false, Nat.zero_add, Nat.add_zero, Nat.mul_zero, Nat.zero_mul, Nat.mul_one, Nat.one_mul, Nat.add_sub_cancel, Nat.reduceEqDiff, Nat.reduceAdd, Nat.reduceMul, Nat.reduceSub, Nat.reduceLeDiff, Nat.reduceLT, Nat.reduceDiv, Nat.reduceMod, a3, a5]
    exact hL2 _ _ _ (by omega) ⟨h + 1, by omega, rfl, rfl, z1, z2, Tab_r z3 rm, Tab_r z4 rm, TabB_r w hh2 z5⟩
  have hr2 : r < nv s.1 256 h * nv s.1 257 h := by omega
  obtain ⟨vl, -, -⟩ := vld_of w hh2 hr2
  obtain ⟨f, q, hf, hq, er, ed⟩ := r_split hr2
  have l9 : z.1 269 (24 * h + r) = nhK s.1 (x.1 268) (24 * h + r) := by rw [z1 269 (by decide) (by decide) (by decide)]; exact v269 _ vl
  have l0 : z.1 270 (24 * h + r) = lsI s.1 (24 * h + r) := by rw [z1 270 (by decide) (by decide) (by decide)]; exact v270 _ vl
  have l7 : z.1 267 (24 * h + r) = s.1 267 (24 * h + r) := Tab_at z4 (Nat.le_refl _)
  simp (disch := first | assumption | omega) only [prv_n, nxt_n, q_sw, mc4, mc6, mc8, mc20, mc24, mc100, nv_rd, nb_rd, wr_rd, nI_lit, nI_add, pk_mul, pk_sub, q_div, cl_nI, vpi, q_eq, q_le, q_lt, n1_eq, n1_eq', n1_le, n1_lt, n1_ge, n1_gt, i_0m1, nlt_t, nlt_f, nle_t, nle_f, neq_f, f_below, f_within, f_isCorner, f_isIn, f_isCornerM, f_isStreet, f_isHouse, f_isCrew, f_isRow, f_has10, f_has0, jx_I, jx_N, jx_m1, jr_I, jr_N1, jr_N2, wr_2, isB_0, isB_1, true_and, and_true, and_self, false_and, and_false, true_or, or_true, false_or, or_false, not_true_eq_false, not_false_eq_true, forall_const, implies_true, false_implies, ne_eq, eq_self, if_true, if_false, Nat.zero_add, Nat.add_zero, Nat.mul_zero, Nat.zero_mul, Nat.mul_one, Nat.one_mul, Nat.add_sub_cancel, Nat.reduceEqDiff, Nat.reduceAdd, Nat.reduceMul, Nat.reduceSub, Nat.reduceLeDiff, Nat.reduceLT, Nat.reduceDiv, Nat.reduceMod, a3, a5, ed, l9, l0, l7]
  refine hL3 _ _ _ (by omega) ⟨r + 1, by omega, rfl, rfl, fun c h1 h2 h3 => by rw [wr_n h3, wr_n h2, wr_n h1]; exact z1 c h1 h2 h3, z2, ?_, ?_, ?_⟩
  · rw [← Nat.add_assoc]
    exact Tab_n z3 vl (by rw [wr_n (by decide), wr_n (by decide), wr_e]) (fun j hj => by rw [wr_n (by decide), wr_n (by decide), wr_k hj])
  · rw [← Nat.add_assoc]
    exact Tab_n z4 vl (by rw [wr_n (by decide), wr_e]) (fun j hj => by rw [wr_n (by decide), wr_k hj, wr_n (by decide)])
  · rw [← Nat.add_assoc, er]
    rw [er] at z5
    exact TabB_n w hh2 hf hq z5 (by rw [wr_e]) (fun j hj => by rw [wr_k hj, wr_n (by decide), wr_n (by decide)])
