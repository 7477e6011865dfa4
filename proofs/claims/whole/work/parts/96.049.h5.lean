/-! THE FIRE, the program: wasting and warming. -/
/-- the program's rows midway: heat up to p, stuff and what burnt up to p2 -/
def MidC (v : Nat) (Y : Nat → Nat → Int32) (Wa : Nat → Int32) (p p2 : Nat) (x y : ab_X) : Prop := (∀ c, c ≠ v + 1 → c ≠ v + 2 → c ≠ v + 4 → c ≠ v → y.1 c = x.1 c) ∧ (∀ f, f ≠ 7 → y.1 v f = x.1 v f) ∧ y.2 = x.2 ∧ Tab Y (x.1 (v + 1)) (nhK Y Wa) p (y.1 (v + 1)) ∧ Tab Y (x.1 (v + 2)) (fun k => Y 267 k - lsI Y k) p2 (y.1 (v + 2)) ∧ TabB Y (x.1 (v + 4)) p2 (y.1 (v + 4)) ∧ isB (y.1 v 7) ∧ (¬ y.1 v 7 = nI 0 → ∀ k, k < p → vld Y k → nhK Y Wa k = nI 0)
/-- what the program has at the beginning of its loops -/
def BegC (v : Nat) (Y : Nat → Nat → Int32) (Wa : Nat → Int32) (x : ab_X) : Prop := x.1 9 2 = Y 246 31 ∧ Rho x.1 Y ∧ LitR v x.1 Y ∧ (∀ k, k < 288 → x.1 (v + 1) k = Y 266 k ∧ x.1 (v + 2) k = Y 267 k ∧ isB (x.1 (v + 6) k) ∧ x.1 (v + 3) k = Wa k) ∧ (∀ k, k < 72 → x.1 (v + 4) k = Y 271 k ∧ x.1 (v + 5) k = Y 274 k)
theorem c_waste {x y : ab_X} {Y : Nat → Nat → Int32} {Wa : Nat → Int32} {v h : Nat} (hv : v = 11 ∨ v = 19) (g : BegC v Y Wa x) (w : TW Y) (hh : h < nv Y 246 31) (m : MidC v Y Wa (24 * h) (24 * h) x y) {K : ab_X → Prop} (k : ∀ z, MidC v Y Wa (24 * h) (24 * (h + 1)) x z → K z) : wX3_waste v (30 + 3 * h) y K := by
  have b := w.b
  have rm := rm_le w hh
  obtain ⟨g1, g2, g3, g4, g5⟩ := g
  obtain ⟨-, -, w3, -, w5, -⟩ := w.2.1.1 h hh
  obtain ⟨-, -, t3, t4, -⟩ := g2.2.2.1 h hh
  have t0 := (g2.1 h (by omega)).1
  have u3 := w3.2
  have u5 := w5.2
  have a3 := w3.1
  have a5 := w5.1
  unfold wX3_waste
  refine Lp2.ind (fun i a z => ∃ f, f ≤ nv Y 256 h ∧ i = nv Y 256 h - f ∧ a = nI f ∧ MidC v Y Wa (24 * h) (24 * h + f * nv Y 257 h) x z) (nv Y 256 h) ⟨0, by omega, by omega, rfl, by rw [Nat.zero_mul, Nat.add_zero]; exact m⟩ ?_
  rintro i a z ⟨f, hf, rfl, rfl, hz⟩ L hL
  have z3 : z.1 (30 + 3 * h) 3 = nI (nv Y 256 h) := by rw [hz.1 _ (by omega) (by omega) (by omega) (by omega), t3, a3]
  unfold lX3_waste_2
  by_cases e : f = nv Y 256 h
  · rw [e] at hz ⊢
    simp (disch := first | assumption | omega) only [prv_n, nxt_n, q_sw, mc4, mc6, mc8, mc20, mc24, mc100, nv_rd, nb_rd, wr_rd, nI_lit, nI_add, pk_mul, pk_sub, q_div, cl_nI, vpi, q_eq, q_le, q_lt, n1_eq, n1_eq', n1_le, n1_lt, n1_ge, n1_gt, i_0m1, nlt_t, nlt_f, nle_t, nle_f, neq_f, f_below, f_within, f_isCorner, f_isIn, f_isCornerM, f_isStreet, f_isHouse, f_isCrew, f_isRow, f_has10, f_has0, jx_I, jx_N, jx_m1, jr_I, jr_N1, jr_N2, wr_2, isB_0, isB_1, true_and, and_true, and_self, false_and, and_false, true_or, or_true, false_or, or_false, not_true_eq_false, not_false_eq_true, forall_const, implies_true, false_implies, ne_eq, eq_self, if_true, if_false, Nat.zero_add, Nat.add_zero, Nat.mul_zero, Nat.zero_mul, Nat.mul_one, Nat.one_mul, Nat.add_sub_cancel, Nat.reduceEqDiff, Nat.reduceAdd, Nat.reduceMul, Nat.reduceSub, Nat.reduceLeDiff, Nat.reduceLT, Nat.reduceDiv, Nat.reduceMod, z3]
    obtain ⟨m1, m2, m3, m4, m5, m6, m7, m8⟩ := hz
    exact k z ⟨m1, m2, m3, m4, Tab_r m5 rm, TabB_r w hh m6, m7, m8⟩
  simp (disch := first | assumption | omega) only [prv_n, nxt_n, q_sw, mc4, mc6, mc8, mc20, mc24, mc100, nv_rd, nb_rd, wr_rd, nI_lit, nI_add, pk_mul, pk_sub, q_div, cl_nI, vpi, q_eq, q_le, q_lt, n1_eq, n1_eq', n1_le, n1_lt, n1_ge, n1_gt, i_0m1, nlt_t, nlt_f, nle_t, nle_f, neq_f, f_below, f_within, f_isCorner, f_isIn, f_isCornerM, f_isStreet, f_isHouse, f_isCrew, f_isRow, f_has10, f_has0, jx_I, jx_N, jx_m1, jr_I, jr_N1, jr_N2, wr_2, isB_0, isB_1, true_and, and_true, and_self, false_and, and_false, true_or, or_true, false_or, or_false, not_true_eq_false, not_false_eq_true, forall_const, implies_true, false_implies, ne_eq, eq_self, if_true, if_false, Nat.zero_add, Nat.add_zero, Nat.mul_zero, Nat.zero_mul, Nat.mul_one, Nat.one_mul, Nat.add_sub_cancel, Nat.reduceEqDiff, Nat.reduceAdd, Nat.reduceMul, Nat.reduceSub, Nat.reduceLeDiff, Nat.reduceLT, Nat.reduceDiv, Nat.reduceMod, z3]
  have hf2 : f < nv Y 256 h := by omega
  refine Lp2.ind (fun i a z => ∃ q, q ≤ nv Y 257 h ∧ i = nv Y 257 h - q ∧ a = nI q ∧ MidC v Y Wa (24 * h) (24 * h + (f * nv Y 257 h + q)) x z) (nv Y 257 h) ⟨0, by omega, by omega, rfl, hz⟩ ?_
  clear hz z3
  rintro i a z ⟨q, hq, rfl, rfl, hz⟩ L2 hL2
  obtain ⟨m1, m2, m3, m4, m5, m6, m7, m8⟩ := hz
  have z4 : z.1 (30 + 3 * h) 4 = nI (nv Y 257 h) := by rw [m1 _ (by omega) (by omega) (by omega) (by omega), t4, a5]
  have z0 : z.1 (30 + 3 * h) 0 = nI h := by rw [m1 _ (by omega) (by omega) (by omega) (by omega), t0]
  unfold lX3_waste_12 wX4_place wX4_storey
  by_cases e2 : q = nv Y 257 h
  · rw [e2] at m5 m6 ⊢
    have sm1 : (f + 1) * nv Y 257 h = f * nv Y 257 h + nv Y 257 h := Nat.succ_mul _ _
    simp (disch := first | assumption | omega) only [prv_n, nxt_n, q_sw, mc4, mc6, mc8, mc20, mc24, mc100, nv_rd, nb_rd, wr_rd, nI_lit, nI_add, pk_mul, pk_sub, q_div, cl_nI, vpi, q_eq, q_le, q_lt, n1_eq, n1_eq', n1_le, n1_lt, n1_ge, n1_gt, i_0m1, nlt_t, nlt_f, nle_t, nle_f, neq_f, f_below, f_within, f_isCorner, f_isIn, f_isCornerM, f_isStreet, f_isHouse, f_isCrew, f_isRow, f_has10, f_has0, jx_I, jx_N, jx_m1, jr_I, jr_N1, jr_N2, wr_2, isB_0, isB_1, true_and, and_true, and_self, false_and, and_false, true_or, or_true, false_or, or_false, not_true_eq_false, not_false_eq_true, forall_const, implies_true, false_implies, ne_eq, eq_self, if_true, if_false, Nat.zero_add, Nat.add_zero, Nat.mul_zero, Nat.zero_mul, Nat.mul_one, Nat.one_mul, Nat.add_sub_cancel, Nat.reduceEqDiff, Nat.reduceAdd, Nat.reduceMul, Nat.reduceSub, Nat.reduceLeDiff, Nat.reduceLT, Nat.reduceDiv, Nat.reduceMod, z4]
    exact hL _ _ _ (by omega) ⟨f + 1, by omega, rfl, rfl, by rw [sm1]; exact ⟨m1, m2, m3, m4, m5, m6, m7, m8⟩⟩
  have hq2 : q < nv Y 257 h := by omega
  have rl := rmlt hf2 hq2
  obtain ⟨vl, -, -⟩ := vld_of w hh rl
  generalize hk : 24 * h + (f * nv Y 257 h + q) = p at *
  have hp : p < 288 := by omega
  have l6 : z.1 (v + 6) p = bb (bu Y p) := by rw [m1 _ (by omega) (by omega) (by omega) (by omega), ← hk]; exact g3.1 h _ hh rl
  have l1 : z.1 (v + 1) p = Y 266 p := by rw [Tab_at m4 (by omega)]; exact (g4 p hp).1
  have l2 : z.1 (v + 2) p = Y 267 p := by rw [Tab_at m5 (Nat.le_refl _)]; exact (g4 p hp).2.1
  have eq : 24 * h + (f * nv Y 257 h + (q + 1)) = p + 1 := by omega
  cases q2 : bu Y p
  · have ls : lsI Y p = nI 0 := by unfold lsI; rw [q2]; rfl
    simp (disch := first | assumption | omega) only [prv_n, nxt_n, q_sw, mc4, mc6, mc8, mc20, mc24, mc100, nv_rd, nb_rd, wr_rd, nI_lit, nI_add, pk_mul, pk_sub, q_div, cl_nI, vpi, q_eq, q_le, q_lt, n1_eq, n1_eq', n1_le, n1_lt, n1_ge, n1_gt, i_0m1, nlt_t, nlt_f, nle_t, nle_f, neq_f, f_below, f_within, f_isCorner, f_isIn, f_isCornerM, f_isStreet, f_isHouse, f_isCrew, f_isRow, f_has10, f_has0, jx_I, jx_N, jx_m1, jr_I, jr_N1, jr_N2, wr_2, isB_0, isB_1, true_and, and_true, and_self, false_and, and_false, true_or, or_true, false_or, or_false, not_true_eq_false, not_false_eq_true, forall_const, implies_true, false_implies, ne_eq, eq_self, if_true, if_false, Nat.zero_add, Nat.add_zero, Nat.mul_zero, Nat.zero_mul, Nat.mul_one, Nat.one_mul, Nat.add_sub_cancel, Nat.reduceEqDiff, Nat.reduceAdd, Nat.reduceMul, Nat.reduceSub, Nat.reduceLeDiff, Nat.reduceLT, Nat.reduceDiv, Nat.reduceMod, z4, z0, hk, l6, bb_n0 q2]
    refine hL2 _ _ _ (by omega) ⟨q + 1, by omega, rfl, rfl, ?_⟩
    rw [eq]
    refine ⟨m1, m2, m3, m4, Tab_n m5 vl ?_ (fun _ _ => rfl), hk ▸ TabB_n w hh hf2 hq2 (hk.symm ▸ m6) ?_ (fun _ _ => rfl), m7, m8⟩
    · show z.1 (v + 2) p = Y 267 p - lsI Y p
      rw [l2, ls]; exact (Int32.sub_zero _).symm
    · rw [hk, ls]; exact (Int32.add_zero _).symm
  · have ls : lsI Y p = imin (Y 267 p) (nI 1 + Y 266 p / nI 250) := by unfold lsI; rw [q2]; rfl
    simp (disch := first | assumption | omega) only [prv_n, nxt_n, q_sw, mc4, mc6, mc8, mc20, mc24, mc100, nv_rd, nb_rd, wr_rd, nI_lit, nI_add, pk_mul, pk_sub, q_div, cl_nI, vpi, q_eq, q_le, q_lt, n1_eq, n1_eq', n1_le, n1_lt, n1_ge, n1_gt, i_0m1, nlt_t, nlt_f, nle_t, nle_f, neq_f, f_below, f_within, f_isCorner, f_isIn, f_isCornerM, f_isStreet, f_isHouse, f_isCrew, f_isRow, f_has10, f_has0, jx_I, jx_N, jx_m1, jr_I, jr_N1, jr_N2, wr_2, isB_0, isB_1, true_and, and_true, and_self, false_and, and_false, true_or, or_true, false_or, or_false, not_true_eq_false, not_false_eq_true, forall_const, implies_true, false_implies, ne_eq, eq_self, if_true, if_false, Nat.zero_add, Nat.add_zero, Nat.mul_zero, Nat.zero_mul, Nat.mul_one, Nat.one_mul, Nat.add_sub_cancel, Nat.reduceEqDiff, Nat.reduceAdd, Nat.reduceMul, Nat.reduceSub, Nat.reduceLeDiff, Nat.reduceLT, Nat.reduceDiv, Nat.reduceMod, z4, z0, hk, l6, bb_n1 q2, l1, l2]
    rw [← ls]
    refine hL2 _ _ _ (by omega) ⟨q + 1, by omega, rfl, rfl, ?_⟩
    rw [eq]
    refine ⟨fun c h1 h2 h3 h4 => ?_, fun f' hf' => ?_, m3, ?_, Tab_n m5 vl ?_ (fun j hj => ?_), hk ▸ TabB_n w hh hf2 hq2 (hk.symm ▸ m6) ?_ (fun j hj => ?_), ?_, ?_⟩
    · rw [wr_n h3, wr_n h2]; exact m1 c h1 h2 h3 h4
    · rw [wr_n (by omega), wr_n (by omega)]; exact m2 f' hf'
    · rw [wr_n (by omega), wr_n (by omega)]; exact m4
    · rw [wr_n (by omega), wr_e]
    · rw [wr_n (by omega), wr_k hj]
    · rw [wr_e, hk]
    · rw [wr_k hj, wr_n (by omega)]
    · rw [wr_n (by omega), wr_n (by omega)]; exact m7
    · rw [wr_n (by omega), wr_n (by omega)]; exact m8
