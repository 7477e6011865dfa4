/-! THE FIRE: what a room gains in a minute. -/
theorem dvm {f w q : Nat} (h : q < w) : (f * w + q) / w = f ∧ (f * w + q) % w = q := by
  constructor
  · rw [Nat.add_comm, Nat.add_mul_div_right _ _ (by omega), Nat.div_eq_of_lt h, Nat.zero_add]
  · rw [Nat.add_comm, Nat.add_mul_mod_self_right, Nat.mod_eq_of_lt h]
theorem rmlt {f F w q : Nat} (h : f < F) (h2 : q < w) : f * w + q < F * w := by
  have : (f + 1) * w ≤ F * w := Nat.mul_le_mul_right w h
  rw [Nat.succ_mul] at this
  omega
def sdI (Y : Nat → Nat → Int32) (h : Nat) : Int32 := if Y 265 h = nI 0 then nI 10 else nI 30
def gn1 (Y : Nat → Nat → Int32) (k q : Nat) (sd g : Int32) : Int32 := if 0 < q ∧ bu Y (k - 1) = true then g + sd else g
def gn2 (Y : Nat → Nat → Int32) (k q w : Nat) (sd g : Int32) : Int32 := if q + 1 < w ∧ bu Y (k + 1) = true then g + sd else g
def gn3 (Y : Nat → Nat → Int32) (k f q w : Nat) (sh g : Int32) : Int32 := if 0 < f ∧ bu Y (k - w) = true then (if nI q = sh then g + nI 60 else g + nI 20) else g
def gn4 (Y : Nat → Nat → Int32) (k f fl w : Nat) (g : Int32) : Int32 := if f + 1 < fl ∧ bu Y (k + w) = true then g + nI 5 else g
/-- the gain of the room q of the floor f, from its own house -/
def gnI (Y : Nat → Nat → Int32) (h f q : Nat) : Int32 := gn4 Y (24 * h + (f * nv Y 257 h + q)) f (nv Y 256 h) (nv Y 257 h) (gn3 Y (24 * h + (f * nv Y 257 h + q)) f q (nv Y 257 h) (Y 258 h) (gn2 Y (24 * h + (f * nv Y 257 h + q)) q (nv Y 257 h) (sdI Y h) (gn1 Y (24 * h + (f * nv Y 257 h + q)) q (sdI Y h) (if bu Y (24 * h + (f * nv Y 257 h + q)) = true then nI 50 else -nI 10))))
/-- burning rooms of a floor -/
def bf (Y : Nat → Nat → Int32) (h f : Nat) : Nat := cn (fun q => bu Y (24 * h + (f * nv Y 257 h + q))) (nv Y 257 h)
def glI (Y : Nat → Nat → Int32) (h : Nat) (o : Int32) (f : Nat) : Int32 := if o = -nI 1 then nI 0 else if nv Y 256 o.toNatClampNeg ≤ f then nI 0 else nI (bf Y o.toNatClampNeg f) * nI (24 / (1 + nv Y 259 h + nv Y 259 o.toNatClampNeg))
/-- as the minute began: which rooms burned -/
def LitR (v : Nat) (X Y : Nat → Nat → Int32) : Prop := (∀ h r, h < nv Y 246 31 → r < nv Y 256 h * nv Y 257 h → X (v + 6) (24 * h + r) = bb (bu Y (24 * h + r))) ∧ (∀ h f, h < nv Y 246 31 → f < nv Y 256 h → X (v + 7) (6 * h + f) = nI (bf Y h f))
theorem bb_n0 {b : Bool} (h : b = false) : bb b = nI 0 := by rw [h]; rfl
theorem bb_n1 {b : Bool} (h : b = true) : bb b = nI 1 := by rw [h]; rfl
theorem c_gain {x : ab_X} {Y : Nat → Nat → Int32} {v h f q : Nat} (t : Rho x.1 Y) (lt : LitR v x.1 Y) (w : TW Y) (hh : h < nv Y 246 31) (hf : f < nv Y 256 h) (hq : q < nv Y 257 h) {K : Int32 → Prop} (k : K (gnI Y h f q)) : wX3_gain v (30 + 3 * h) (nI f) (nI q) x K := by
  have b := w.b
  have rm := rm_le w hh
  obtain ⟨-, -, w3, -, w5, -⟩ := w.2.1.1 h hh
  obtain ⟨-, -, t3, t4, t5, -⟩ := t.2.2.1 h hh
  obtain ⟨t0, t6, -⟩ := t.1 h (by omega)
  have u3 := w3.2
  have u5 := w5.2
  have lit := lt.1 h
  have rl := rmlt hf hq
  have a3 := w3.1
  have a5 := w5.1
  clear w3 w5
  unfold wX3_gain wX4_place
  unfold gnI at k
  generalize nv Y 256 h = fl at *
  generalize nv Y 257 h = wd at *
  -- the last two steps
  have p4 : ∀ g, K (gn4 Y (24 * h + (f * wd + q)) f fl wd g) → wX3_gain_140 v (30 + 3 * h) (nI f) (nI (24 * h + (f * wd + q))) g x K := by
    intro g k
    unfold wX3_gain_140
    unfold gn4 at k
    by_cases q1 : f + 1 < fl
    · have rl2 := rmlt q1 hq
      have sm1 : (f + 1) * wd = f * wd + wd := Nat.succ_mul f wd
      have e := lit (f * wd + q + wd) hh (by omega)
      rw [← Nat.add_assoc] at e
      cases q2 : bu Y (24 * h + (f * wd + q) + wd)
      · rw [if_neg (fun u => by rw [q2] at u; exact absurd u.2 (by decide))] at k
        simp (disch := first | assumption | omega) only [prv_n, nxt_n, q_sw, mc4, mc6, mc8, mc20, mc24, mc100, nv_rd, nb_rd, wr_rd, nI_lit, nI_add, pk_mul, pk_sub, q_div, cl_nI, vpi, q_eq, q_le, q_lt, n1_eq, n1_eq', n1_le, n1_lt, n1_ge, n1_gt, i_0m1, nlt_t, nlt_f, nle_t, nle_f, neq_f, f_below, f_within, f_isCorner, f_isIn, f_isCornerM, f_isStreet, f_isHouse, f_isCrew, f_isRow, f_has10, f_has0, jx_I, jx_N, jx_m1, jr_I, jr_N1, jr_N2, wr_2, isB_0, isB_1, true_and, and_true, and_self, false_and, and_false, true_or, or_true, false_or, or_false, not_true_eq_false, not_false_eq_true, forall_const, implies_true, false_implies, ne_eq, eq_self, if_true, if_false, Nat.zero_add, Nat.add_zero, Nat.mul_zero, Nat.zero_mul, Nat.mul_one, Nat.one_mul, Nat.add_sub_cancel, Nat.reduceEqDiff, Nat.reduceAdd, Nat.reduceMul, Nat.reduceSub, Nat.reduceLeDiff, Nat.reduceLT, Nat.reduceDiv, Nat.reduceMod, t3, t4, a3, a5, e, bb_n0 q2]
        exact k
      · rw [if_pos ⟨q1, q2⟩] at k
        simp (disch := first | assumption | omega) only [prv_n, nxt_n, q_sw, mc4, mc6, mc8, mc20, mc24, mc100, nv_rd, nb_rd, wr_rd, nI_lit, nI_add, pk_mul, pk_sub, q_div, cl_nI, vpi, q_eq, q_le, q_lt, n1_eq, n1_eq', n1_le, n1_lt, n1_ge, n1_gt, i_0m1, nlt_t, nlt_f, nle_t, nle_f, neq_f, f_below, f_within, f_isCorner, f_isIn, f_isCornerM, f_isStreet, f_isHouse, f_isCrew, f_isRow, f_has10, f_has0, jx_I, jx_N, jx_m1, jr_I, jr_N1, jr_N2, wr_2, isB_0, isB_1, true_and, and_true, and_self, false_and, and_false, true_or, or_true, false_or, or_false, not_true_eq_false, not_false_eq_true, forall_const, implies_true, false_implies, ne_eq, eq_self, if_true, if_false, Nat.zero_add, Nat.add_zero, Nat.mul_zero, Nat.zero_mul, Nat.mul_one, Nat.one_mul, Nat.add_sub_cancel, Nat.reduceEqDiff, Nat.reduceAdd, Nat.reduceMul, Nat.reduceSub, Nat.reduceLeDiff, Nat.reduceLT, Nat.reduceDiv, Nat.reduceMod, t3, t4, a3, a5, e, bb_n1 q2]
        exact k
    · rw [if_neg (fun u => q1 u.1)] at k
      simp (disch := first | assumption | omega) only [prv_n, nxt_n, q_sw, mc4, mc6, mc8, mc20, mc24, mc100, nv_rd, nb_rd, wr_rd, nI_lit, nI_add, pk_mul, pk_sub, q_div, cl_nI, vpi, q_eq, q_le, q_lt, n1_eq, n1_eq', n1_le, n1_lt, n1_ge, n1_gt, i_0m1, nlt_t, nlt_f, nle_t, nle_f, neq_f, f_below, f_within, f_isCorner, f_isIn, f_isCornerM, f_isStreet, f_isHouse, f_isCrew, f_isRow, f_has10, f_has0, jx_I, jx_N, jx_m1, jr_I, jr_N1, jr_N2, wr_2, isB_0, isB_1, true_and, and_true, and_self, false_and, and_false, true_or, or_true, false_or, or_false, not_true_eq_false, not_false_eq_true, forall_const, implies_true, false_implies, ne_eq, eq_self, if_true, if_false, Nat.zero_add, Nat.add_zero, Nat.mul_zero, Nat.zero_mul, Nat.mul_one, Nat.one_mul, Nat.add_sub_cancel, Nat.reduceEqDiff, Nat.reduceAdd, Nat.reduceMul, Nat.reduceSub, Nat.reduceLeDiff, Nat.reduceLT, Nat.reduceDiv, Nat.reduceMod, t3, a3]
      exact k
  have p3 : ∀ g, K (gn4 Y (24 * h + (f * wd + q)) f fl wd (gn3 Y (24 * h + (f * wd + q)) f q wd (Y 258 h) g)) → wX3_gain_101 v (30 + 3 * h) (nI f) (nI q) (nI (24 * h + (f * wd + q))) g x K := by
    intro g k
    unfold wX3_gain_101 wX3_gain_137
    unfold gn3 at k
    by_cases q1 : 0 < f
    · obtain ⟨f', rfl⟩ : ∃ f', f = f' + 1 := ⟨f - 1, by omega⟩
      have sm1 : (f' + 1) * wd = f' * wd + wd := Nat.succ_mul f' wd
      have e := lit (f' * wd + q) hh (by omega)
      have ix : 24 * h + ((f' + 1) * wd + q) - wd = 24 * h + (f' * wd + q) := by omega
      have le : wd ≤ 24 * h + ((f' + 1) * wd + q) := by omega
      rw [ix] at k
      cases q2 : bu Y (24 * h + (f' * wd + q))
      · rw [if_neg (fun u => by rw [q2] at u; exact absurd u.2 (by decide))] at k
        simp (disch := first | assumption | omega) only [prv_n, nxt_n, q_sw, mc4, mc6, mc8, mc20, mc24, mc100, nv_rd, nb_rd, wr_rd, nI_lit, nI_add, pk_mul, pk_sub, q_div, cl_nI, vpi, q_eq, q_le, q_lt, n1_eq, n1_eq', n1_le, n1_lt, n1_ge, n1_gt, i_0m1, nlt_t, nlt_f, nle_t, nle_f, neq_f, f_below, f_within, f_isCorner, f_isIn, f_isCornerM, f_isStreet, f_isHouse, f_isCrew, f_isRow, f_has10, f_has0, jx_I, jx_N, jx_m1, jr_I, jr_N1, jr_N2, wr_2, isB_0, isB_1, true_and, and_true, and_self, false_and, and_false, true_or, or_true, false_or, or_false, not_true_eq_false, not_false_eq_true, forall_const, implies_true, false_implies, ne_eq, eq_self, if_true, if_false, Nat.zero_add, Nat.add_zero, Nat.mul_zero, Nat.zero_mul, Nat.mul_one, Nat.one_mul, Nat.add_sub_cancel, Nat.reduceEqDiff, Nat.reduceAdd, Nat.reduceMul, Nat.reduceSub, Nat.reduceLeDiff, Nat.reduceLT, Nat.reduceDiv, Nat.reduceMod, t4, a5, ix, e, bb_n0 q2]
        exact p4 _ k
      · rw [if_pos ⟨q1, q2⟩] at k
        by_cases q3 : nI q = Y 258 h
        · rw [if_pos q3] at k
          simp (disch := first | assumption | omega) only [prv_n, nxt_n, q_sw, mc4, mc6, mc8, mc20, mc24, mc100, nv_rd, nb_rd, wr_rd, nI_lit, nI_add, pk_mul, pk_sub, q_div, cl_nI, vpi, q_eq, q_le, q_lt, n1_eq, n1_eq', n1_le, n1_lt, n1_ge, n1_gt, i_0m1, nlt_t, nlt_f, nle_t, nle_f, neq_f, f_below, f_within, f_isCorner, f_isIn, f_isCornerM, f_isStreet, f_isHouse, f_isCrew, f_isRow, f_has10, f_has0, jx_I, jx_N, jx_m1, jr_I, jr_N1, jr_N2, wr_2, isB_0, isB_1, true_and, and_true, and_self, false_and, and_false, true_or, or_true, false_or, or_false, not_true_eq_false, not_false_eq_true, forall_const, implies_true, false_implies, ne_eq, eq_self, if_true, if_false, Nat.zero_add, Nat.add_zero, Nat.mul_zero, Nat.zero_mul, Nat.mul_one, Nat.one_mul, Nat.add_sub_cancel, Nat.reduceEqDiff, Nat.reduceAdd, Nat.reduceMul, Nat.reduceSub, Nat.reduceLeDiff, Nat.reduceLT, Nat.reduceDiv, Nat.reduceMod, t4, a5, ix, e, bb_n1 q2, t5, q3]
          exact p4 _ k
        · rw [if_neg q3] at k
          simp (disch := first | assumption | omega) only [prv_n, nxt_n, q_sw, mc4, mc6, mc8, mc20, mc24, mc100, nv_rd, nb_rd, wr_rd, nI_lit, nI_add, pk_mul, pk_sub, q_div, cl_nI, vpi, q_eq, q_le, q_lt, n1_eq, n1_eq', n1_le, n1_lt, n1_ge, n1_gt, i_0m1, nlt_t, nlt_f, nle_t, nle_f, neq_f, f_below, f_within, f_isCorner, f_isIn, f_isCornerM, f_isStreet, f_isHouse, f_isCrew, f_isRow, f_has10, f_has0, jx_I, jx_N, jx_m1, jr_I, jr_N1, jr_N2, wr_2, isB_0, isB_1, true_and, and_true, and_self, false_and, and_false, true_or, or_true, false_or, or_false, not_true_eq_false, not_false_eq_true, forall_const, implies_true, false_implies, ne_eq, eq_self, if_true, if_false, Nat.zero_add, Nat.add_zero, Nat.mul_zero, Nat.zero_mul, Nat.mul_one, Nat.one_mul, Nat.add_sub_cancel, Nat.reduceEqDiff, Nat.reduceAdd, Nat.reduceMul, Nat.reduceSub, Nat.reduceLeDiff, Nat.reduceLT, Nat.reduceDiv, Nat.reduceMod, t4, a5, ix, e, bb_n1 q2, t5, q3]
          exact p4 _ k
    · rw [if_neg (fun u => q1 u.1)] at k
      simp (disch := first | assumption | omega) only [prv_n, nxt_n, q_sw, mc4, mc6, mc8, mc20, mc24, mc100, nv_rd, nb_rd, wr_rd, nI_lit, nI_add, pk_mul, pk_sub, q_div, cl_nI, vpi, q_eq, q_le, q_lt, n1_eq, n1_eq', n1_le, n1_lt, n1_ge, n1_gt, i_0m1, nlt_t, nlt_f, nle_t, nle_f, neq_f, f_below, f_within, f_isCorner, f_isIn, f_isCornerM, f_isStreet, f_isHouse, f_isCrew, f_isRow, f_has10, f_has0, jx_I, jx_N, jx_m1, jr_I, jr_N1, jr_N2, wr_2, isB_0, isB_1, true_and, and_true, and_self, false_and, and_false, true_or, or_true, false_or, or_false, not_true_eq_false, not_false_eq_true, forall_const, implies_true, false_implies, ne_eq, eq_self, if_true, if_false, Nat.zero_add, Nat.add_zero, Nat.mul_zero, Nat.zero_mul, Nat.mul_one, Nat.one_mul, Nat.add_sub_cancel, Nat.reduceEqDiff, Nat.reduceAdd, Nat.reduceMul, Nat.reduceSub, Nat.reduceLeDiff, Nat.reduceLT, Nat.reduceDiv, Nat.reduceMod]
      exact p4 _ k
  have p2 : ∀ g sd, K (gn4 Y (24 * h + (f * wd + q)) f fl wd (gn3 Y (24 * h + (f * wd + q)) f q wd (Y 258 h) (gn2 Y (24 * h + (f * wd + q)) q wd sd g))) → wX3_gain_72 v (30 + 3 * h) (nI f) (nI q) (nI (24 * h + (f * wd + q))) g sd x K := by
    intro g sd k
    unfold wX3_gain_72
    unfold gn2 at k
    by_cases q1 : q + 1 < wd
    · have rl2 := rmlt hf q1
      have e := lit (f * wd + q + 1) hh (by omega)
      rw [← Nat.add_assoc] at e
      cases q2 : bu Y (24 * h + (f * wd + q) + 1)
      · rw [if_neg (fun u => by rw [q2] at u; exact absurd u.2 (by decide))] at k
        simp (disch := first | assumption | omega) only [prv_n, nxt_n, q_sw, mc4, mc6, mc8, mc20, mc24, mc100, nv_rd, nb_rd, wr_rd, nI_lit, nI_add, pk_mul, pk_sub, q_div, cl_nI, vpi, q_eq, q_le, q_lt, n1_eq, n1_eq', n1_le, n1_lt, n1_ge, n1_gt, i_0m1, nlt_t, nlt_f, nle_t, nle_f, neq_f, f_below, f_within, f_isCorner, f_isIn, f_isCornerM, f_isStreet, f_isHouse, f_isCrew, f_isRow, f_has10, f_has0, jx_I, jx_N, jx_m1, jr_I, jr_N1, jr_N2, wr_2, isB_0, isB_1, true_and, and_true, and_self, false_and, and_false, true_or, or_true, false_or, or_false, not_true_eq_false, not_false_eq_true, forall_const, implies_true, false_implies, ne_eq, eq_self, if_true, if_false, Nat.zero_add, Nat.add_zero, Nat.mul_zero, Nat.zero_mul, Nat.mul_one, Nat.one_mul, Nat.add_sub_cancel, Nat.reduceEqDiff, Nat.reduceAdd, Nat.reduceMul, Nat.reduceSub, Nat.reduceLeDiff, Nat.reduceLT, Nat.reduceDiv, Nat.reduceMod, t4, a5, e, bb_n0 q2]
        exact p3 _ k
      · rw [if_pos ⟨q1, q2⟩] at k
        simp (disch := first | assumption | omega) only [prv_n, nxt_n, q_sw, mc4, mc6, mc8, mc20, mc24, mc100, nv_rd, nb_rd, wr_rd, nI_lit, nI_add, pk_mul, pk_sub, q_div, cl_nI, vpi, q_eq, q_le, q_lt, n1_eq, n1_eq', n1_le, n1_lt, n1_ge, n1_gt, i_0m1, nlt_t, nlt_f, nle_t, nle_f, neq_f, f_below, f_within, f_isCorner, f_isIn, f_isCornerM, f_isStreet, f_isHouse, f_isCrew, f_isRow, f_has10, f_has0, jx_I, jx_N, jx_m1, jr_I, jr_N1, jr_N2, wr_2, isB_0, isB_1, true_and, and_true, and_self, false_and, and_false, true_or, or_true, false_or, or_false, not_true_eq_false, not_false_eq_true, forall_const, implies_true, false_implies, ne_eq, eq_self, if_true, if_false, Nat.zero_add, Nat.add_zero, Nat.mul_zero, Nat.zero_mul, Nat.mul_one, Nat.one_mul, Nat.add_sub_cancel, Nat.reduceEqDiff, Nat.reduceAdd, Nat.reduceMul, Nat.reduceSub, Nat.reduceLeDiff, Nat.reduceLT, Nat.reduceDiv, Nat.reduceMod, t4, a5, e, bb_n1 q2]
        exact p3 _ k
    · rw [if_neg (fun u => q1 u.1)] at k
      simp (disch := first | assumption | omega) only [prv_n, nxt_n, q_sw, mc4, mc6, mc8, mc20, mc24, mc100, nv_rd, nb_rd, wr_rd, nI_lit, nI_add, pk_mul, pk_sub, q_div, cl_nI, vpi, q_eq, q_le, q_lt, n1_eq, n1_eq', n1_le, n1_lt, n1_ge, n1_gt, i_0m1, nlt_t, nlt_f, nle_t, nle_f, neq_f, f_below, f_within, f_isCorner, f_isIn, f_isCornerM, f_isStreet, f_isHouse, f_isCrew, f_isRow, f_has10, f_has0, jx_I, jx_N, jx_m1, jr_I, jr_N1, jr_N2, wr_2, isB_0, isB_1, true_and, and_true, and_self, false_and, and_false, true_or, or_true, false_or, or_false, not_true_eq_false, not_false_eq_true, forall_const, implies_true, false_implies, ne_eq, eq_self, if_true, if_false, Nat.zero_add, Nat.add_zero, Nat.mul_zero, Nat.zero_mul, Nat.mul_one, Nat.one_mul, Nat.add_sub_cancel, Nat.reduceEqDiff, Nat.reduceAdd, Nat.reduceMul, Nat.reduceSub, Nat.reduceLeDiff, Nat.reduceLT, Nat.reduceDiv, Nat.reduceMod, t4, a5]
      exact p3 _ k
  have p1 : ∀ g sd, K (gn4 Y (24 * h + (f * wd + q)) f fl wd (gn3 Y (24 * h + (f * wd + q)) f q wd (Y 258 h) (gn2 Y (24 * h + (f * wd + q)) q wd sd (gn1 Y (24 * h + (f * wd + q)) q sd g)))) → wX3_gain_47 v (30 + 3 * h) (nI f) (nI q) (nI (24 * h + (f * wd + q))) g sd x K := by
    intro g sd k
    unfold wX3_gain_47
    unfold gn1 at k
    by_cases q1 : 0 < q
    · have e := lit (f * wd + q - 1) hh (by omega)
      have ix : 24 * h + (f * wd + q - 1) = 24 * h + (f * wd + q) - 1 := by omega
      rw [ix] at e
      cases q2 : bu Y (24 * h + (f * wd + q) - 1)
      · rw [if_neg (fun u => by rw [q2] at u; exact absurd u.2 (by decide))] at k
        simp (disch := first | assumption | omega) only [prv_n, nxt_n, q_sw, mc4, mc6, mc8, mc20, mc24, mc100, nv_rd, nb_rd, wr_rd, nI_lit, nI_add, pk_mul, pk_sub, q_div, cl_nI, vpi, q_eq, q_le, q_lt, n1_eq, n1_eq', n1_le, n1_lt, n1_ge, n1_gt, i_0m1, nlt_t, nlt_f, nle_t, nle_f, neq_f, f_below, f_within, f_isCorner, f_isIn, f_isCornerM, f_isStreet, f_isHouse, f_isCrew, f_isRow, f_has10, f_has0, jx_I, jx_N, jx_m1, jr_I, jr_N1, jr_N2, wr_2, isB_0, isB_1, true_and, and_true, and_self, false_and, and_false, true_or, or_true, false_or, or_false, not_true_eq_false, not_false_eq_true, forall_const, implies_true, false_implies, ne_eq, eq_self, if_true, if_false, Nat.zero_add, Nat.add_zero, Nat.mul_zero, Nat.zero_mul, Nat.mul_one, Nat.one_mul, Nat.add_sub_cancel, Nat.reduceEqDiff, Nat.reduceAdd, Nat.reduceMul, Nat.reduceSub, Nat.reduceLeDiff, Nat.reduceLT, Nat.reduceDiv, Nat.reduceMod, e, bb_n0 q2]
        exact p2 _ _ k
      · rw [if_pos ⟨q1, q2⟩] at k
        simp (disch := first | assumption | omega) only [prv_n, nxt_n, q_sw, mc4, mc6, mc8, mc20, mc24, mc100, nv_rd, nb_rd, wr_rd, nI_lit, nI_add, pk_mul, pk_sub, q_div, cl_nI, vpi, q_eq, q_le, q_lt, n1_eq, n1_eq', n1_le, n1_lt, n1_ge, n1_gt, i_0m1, nlt_t, nlt_f, nle_t, nle_f, neq_f, f_below, f_within, f_isCorner, f_isIn, f_isCornerM, f_isStreet, f_isHouse, f_isCrew, f_isRow, f_has10, f_has0, jx_I, jx_N, jx_m1, jr_I, jr_N1, jr_N2, wr_2, isB_0, isB_1, true_and, and_true, and_self, false_and, and_false, true_or, or_true, false_or, or_false, not_true_eq_false, not_false_eq_true, forall_const, implies_true, false_implies, ne_eq, eq_self, if_true, if_false, Nat.zero_add, Nat.add_zero, Nat.mul_zero, Nat.zero_mul, Nat.mul_one, Nat.one_mul, Nat.add_sub_cancel, Nat.reduceEqDiff, Nat.reduceAdd, Nat.reduceMul, Nat.reduceSub, Nat.reduceLeDiff, Nat.reduceLT, Nat.reduceDiv, Nat.reduceMod, e, bb_n1 q2]
        exact p2 _ _ k
    · rw [if_neg (fun u => q1 u.1)] at k
      simp (disch := first | assumption | omega) only [prv_n, nxt_n, q_sw, mc4, mc6, mc8, mc20, mc24, mc100, nv_rd, nb_rd, wr_rd, nI_lit, nI_add, pk_mul, pk_sub, q_div, cl_nI, vpi, q_eq, q_le, q_lt, n1_eq, n1_eq', n1_le, n1_lt, n1_ge, n1_gt, i_0m1, nlt_t, nlt_f, nle_t, nle_f, neq_f, f_below, f_within, f_isCorner, f_isIn, f_isCornerM, f_isStreet, f_isHouse, f_isCrew, f_isRow, f_has10, f_has0, jx_I, jx_N, jx_m1, jr_I, jr_N1, jr_N2, wr_2, isB_0, isB_1, true_and, and_true, and_self, false_and, and_false, true_or, or_true, false_or, or_false, not_true_eq_false, not_false_eq_true, forall_const, implies_true, false_implies, ne_eq, eq_self, if_true, if_false, Nat.zero_add, Nat.add_zero, Nat.mul_zero, Nat.zero_mul, Nat.mul_one, Nat.one_mul, Nat.add_sub_cancel, Nat.reduceEqDiff, Nat.reduceAdd, Nat.reduceMul, Nat.reduceSub, Nat.reduceLeDiff, Nat.reduceLT, Nat.reduceDiv, Nat.reduceMod]
      exact p2 _ _ k
  have p0 : ∀ g, K (gn4 Y (24 * h + (f * wd + q)) f fl wd (gn3 Y (24 * h + (f * wd + q)) f q wd (Y 258 h) (gn2 Y (24 * h + (f * wd + q)) q wd (sdI Y h) (gn1 Y (24 * h + (f * wd + q)) q (sdI Y h) g)))) → wX3_gain_31 v (30 + 3 * h) (nI f) (nI q) (nI (24 * h + (f * wd + q))) g x K := by
    intro g k
    unfold wX3_gain_31
    unfold sdI at k
    by_cases q1 : Y 265 h = nI 0
    · rw [if_pos q1] at k
      simp (disch := first | assumption | omega) only [prv_n, nxt_n, q_sw, mc4, mc6, mc8, mc20, mc24, mc100, nv_rd, nb_rd, wr_rd, nI_lit, nI_add, pk_mul, pk_sub, q_div, cl_nI, vpi, q_eq, q_le, q_lt, n1_eq, n1_eq', n1_le, n1_lt, n1_ge, n1_gt, i_0m1, nlt_t, nlt_f, nle_t, nle_f, neq_f, f_below, f_within, f_isCorner, f_isIn, f_isCornerM, f_isStreet, f_isHouse, f_isCrew, f_isRow, f_has10, f_has0, jx_I, jx_N, jx_m1, jr_I, jr_N1, jr_N2, wr_2, isB_0, isB_1, true_and, and_true, and_self, false_and, and_false, true_or, or_true, false_or, or_false, not_true_eq_false, not_false_eq_true, forall_const, implies_true, false_implies, ne_eq, eq_self, if_true, if_false, Nat.zero_add, Nat.add_zero, Nat.mul_zero, Nat.zero_mul, Nat.mul_one, Nat.one_mul, Nat.add_sub_cancel, Nat.reduceEqDiff, Nat.reduceAdd, Nat.reduceMul, Nat.reduceSub, Nat.reduceLeDiff, Nat.reduceLT, Nat.reduceDiv, Nat.reduceMod, t6, q1]
      exact p1 _ _ k
    · rw [if_neg q1] at k
      simp (disch := first | assumption | omega) only [prv_n, nxt_n, q_sw, mc4, mc6, mc8, mc20, mc24, mc100, nv_rd, nb_rd, wr_rd, nI_lit, nI_add, pk_mul, pk_sub, q_div, cl_nI, vpi, q_eq, q_le, q_lt, n1_eq, n1_eq', n1_le, n1_lt, n1_ge, n1_gt, i_0m1, nlt_t, nlt_f, nle_t, nle_f, neq_f, f_below, f_within, f_isCorner, f_isIn, f_isCornerM, f_isStreet, f_isHouse, f_isCrew, f_isRow, f_has10, f_has0, jx_I, jx_N, jx_m1, jr_I, jr_N1, jr_N2, wr_2, isB_0, isB_1, true_and, and_true, and_self, false_and, and_false, true_or, or_true, false_or, or_false, not_true_eq_false, not_false_eq_true, forall_const, implies_true, false_implies, ne_eq, eq_self, if_true, if_false, Nat.zero_add, Nat.add_zero, Nat.mul_zero, Nat.zero_mul, Nat.mul_one, Nat.one_mul, Nat.add_sub_cancel, Nat.reduceEqDiff, Nat.reduceAdd, Nat.reduceMul, Nat.reduceSub, Nat.reduceLeDiff, Nat.reduceLT, Nat.reduceDiv, Nat.reduceMod, t6, q1]
      exact p1 _ _ k
  have e := lit (f * wd + q) hh rl
  have h24 : 24 * h + (f * wd + q) < 288 := by omega
  cases q2 : bu Y (24 * h + (f * wd + q))
  · rw [q2, if_neg (by decide)] at k
    simp (disch := first | assumption | omega) only [prv_n, nxt_n, q_sw, mc4, mc6, mc8, mc20, mc24, mc100, nv_rd, nb_rd, wr_rd, nI_lit, nI_add, pk_mul, pk_sub, q_div, cl_nI, vpi, q_eq, q_le, q_lt, n1_eq, n1_eq', n1_le, n1_lt, n1_ge, n1_gt, i_0m1, nlt_t, nlt_f, nle_t, nle_f, neq_f, f_below, f_within, f_isCorner, f_isIn, f_isCornerM, f_isStreet, f_isHouse, f_isCrew, f_isRow, f_has10, f_has0, jx_I, jx_N, jx_m1, jr_I, jr_N1, jr_N2, wr_2, isB_0, isB_1, true_and, and_true, and_self, false_and, and_false, true_or, or_true, false_or, or_false, not_true_eq_false, not_false_eq_true, forall_const, implies_true, false_implies, ne_eq, eq_self, if_true, if_false, Nat.zero_add, Nat.add_zero, Nat.mul_zero, Nat.zero_mul, Nat.mul_one, Nat.one_mul, Nat.add_sub_cancel, Nat.reduceEqDiff, Nat.reduceAdd, Nat.reduceMul, Nat.reduceSub, Nat.reduceLeDiff, Nat.reduceLT, Nat.reduceDiv, Nat.reduceMod, t4, a5, t0, e, bb_n0 q2]
    exact p0 _ k
  · rw [q2, if_pos rfl] at k
    simp (disch := first | assumption | omega) only [prv_n, nxt_n, q_sw, mc4, mc6, mc8, mc20, mc24, mc100, nv_rd, nb_rd, wr_rd, nI_lit, nI_add, pk_mul, pk_sub, q_div, cl_nI, vpi, q_eq, q_le, q_lt, n1_eq, n1_eq', n1_le, n1_lt, n1_ge, n1_gt, i_0m1, nlt_t, nlt_f, nle_t, nle_f, neq_f, f_below, f_within, f_isCorner, f_isIn, f_isCornerM, f_isStreet, f_isHouse, f_isCrew, f_isRow, f_has10, f_has0, jx_I, jx_N, jx_m1, jr_I, jr_N1, jr_N2, wr_2, isB_0, isB_1, true_and, and_true, and_self, false_and, and_false, true_or, or_true, false_or, or_false, not_true_eq_false, not_false_eq_true, forall_const, implies_true, false_implies, ne_eq, eq_self, if_true, if_false, Nat.zero_add, Nat.add_zero, Nat.mul_zero, Nat.zero_mul, Nat.mul_one, Nat.one_mul, Nat.add_sub_cancel, Nat.reduceEqDiff, Nat.reduceAdd, Nat.reduceMul, Nat.reduceSub, Nat.reduceLeDiff, Nat.reduceLT, Nat.reduceDiv, Nat.reduceMod, t4, a5, t0, e, bb_n1 q2]
    exact p0 _ k
