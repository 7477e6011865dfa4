/-! THE FIRE: falls in the reference; all falls of a minute. -/
theorem brN_b {Y : Nat → Nat → Int32} (w : TW Y) {h : Nat} (hh : h < nv Y 246 31) : 60 ≤ brN Y h ∧ brN Y h ≤ 560 := by
  obtain ⟨-, -, -, -, w5, w6, -⟩ := w.2.1.1 h hh
  have u5 := w5.2
  unfold brN
  split
  · omega
  · split <;> omega
theorem c_limit {x : ab_X} {Y : Nat → Nat → Int32} {h : Nat} (t : Rho x.1 Y) (w : TW Y) (hh : h < nv Y 246 31) {K : Int32 → Prop} (k : K (nI (brN Y h))) : wX4_limit (30 + 3 * h) x K := by
  obtain ⟨-, w2, -, -, w5, w6, -⟩ := w.2.1.1 h hh
  obtain ⟨-, t2, -, t4, -⟩ := t.2.2.1 h hh
  have u2 := w2.2
  have u5 := w5.2
  unfold wX4_limit
  unfold brN at k
  by_cases q0 : nv Y 255 h = 0
  · rw [if_pos q0] at k
    simp (disch := first | assumption | omega) only [prv_n, nxt_n, q_sw, mc4, mc6, mc8, mc20, mc24, mc100, nv_rd, nb_rd, wr_rd, nI_lit, nI_add, pk_mul, pk_sub, q_div, cl_nI, vpi, q_eq, q_le, q_lt, n1_eq, n1_eq', n1_le, n1_lt, n1_ge, n1_gt, i_0m1, nlt_t, nlt_f, nle_t, nle_f, neq_f, f_below, f_within, f_isCorner, f_isIn, f_isCornerM, f_isStreet, f_isHouse, f_isCrew, f_isRow, f_has10, f_has0, jx_I, jx_N, jx_m1, jr_I, jr_N1, jr_N2, wr_2, isB_0, isB_1, true_and, and_true, and_self, false_and, and_false, true_or, or_true, false_or, or_false, not_true_eq_false, not_false_eq_true, forall_const, implies_true, false_implies, ne_eq, eq_self, if_true, if_false, Nat.zero_add, Nat.add_zero, Nat.mul_zero, Nat.zero_mul, Nat.mul_one, Nat.one_mul, Nat.add_sub_cancel, Nat.reduceEqDiff, Nat.reduceAdd, Nat.reduceMul, Nat.reduceSub, Nat.reduceLeDiff, Nat.reduceLT, Nat.reduceDiv, Nat.reduceMod, t2, t4, w2.1, w5.1, q0]
    exact k
  · rw [if_neg q0] at k
    by_cases q1 : nv Y 255 h = 1
    · rw [if_pos q1] at k
      simp (disch := first | assumption | omega) only [prv_n, nxt_n, q_sw, mc4, mc6, mc8, mc20, mc24, mc100, nv_rd, nb_rd, wr_rd, nI_lit, nI_add, pk_mul, pk_sub, q_div, cl_nI, vpi, q_eq, q_le, q_lt, n1_eq, n1_eq', n1_le, n1_lt, n1_ge, n1_gt, i_0m1, nlt_t, nlt_f, nle_t, nle_f, neq_f, f_below, f_within, f_isCorner, f_isIn, f_isCornerM, f_isStreet, f_isHouse, f_isCrew, f_isRow, f_has10, f_has0, jx_I, jx_N, jx_m1, jr_I, jr_N1, jr_N2, wr_2, isB_0, isB_1, true_and, and_true, and_self, false_and, and_false, true_or, or_true, false_or, or_false, not_true_eq_false, not_false_eq_true, forall_const, implies_true, false_implies, ne_eq, eq_self, if_true, if_false, Nat.zero_add, Nat.add_zero, Nat.mul_zero, Nat.zero_mul, Nat.mul_one, Nat.one_mul, Nat.add_sub_cancel, Nat.reduceEqDiff, Nat.reduceAdd, Nat.reduceMul, Nat.reduceSub, Nat.reduceLeDiff, Nat.reduceLT, Nat.reduceDiv, Nat.reduceMod, t2, t4, w2.1, w5.1, q1]
      rw [Nat.mul_comm] at k
      exact k
    · rw [if_neg q1] at k
      simp (disch := first | assumption | omega) only [prv_n, nxt_n, q_sw, mc4, mc6, mc8, mc20, mc24, mc100, nv_rd, nb_rd, wr_rd, nI_lit, nI_add, pk_mul, pk_sub, q_div, cl_nI, vpi, q_eq, q_le, q_lt, n1_eq, n1_eq', n1_le, n1_lt, n1_ge, n1_gt, i_0m1, nlt_t, nlt_f, nle_t, nle_f, neq_f, f_below, f_within, f_isCorner, f_isIn, f_isCornerM, f_isStreet, f_isHouse, f_isCrew, f_isRow, f_has10, f_has0, jx_I, jx_N, jx_m1, jr_I, jr_N1, jr_N2, wr_2, isB_0, isB_1, true_and, and_true, and_self, false_and, and_false, true_or, or_true, false_or, or_false, not_true_eq_false, not_false_eq_true, forall_const, implies_true, false_implies, ne_eq, eq_self, if_true, if_false, Nat.zero_add, Nat.add_zero, Nat.mul_zero, Nat.zero_mul, Nat.mul_one, Nat.one_mul, Nat.add_sub_cancel, Nat.reduceEqDiff, Nat.reduceAdd, Nat.reduceMul, Nat.reduceSub, Nat.reduceLeDiff, Nat.reduceLT, Nat.reduceDiv, Nat.reduceMod, t2, t4, w2.1, w5.1]
      exact k
theorem m_bears {x : ab_X} {Y : Nat → Nat → Int32} {h : Nat} (m : keepF Y x.1) (w : TW Y) (hh : h < nv Y 246 31) {K : Int32 → Prop} (k : K (nI (brN Y h))) : wX12_bears (nI h) x K := by
  have b := w.b
  obtain ⟨-, w2, -, -, w5, w6, -⟩ := w.2.1.1 h hh
  have u2 := w2.2
  have u5 := w5.2
  unfold wX12_bears
  unfold brN at k
  by_cases q0 : nv Y 255 h = 0
  · rw [if_pos q0] at k
    simp (disch := first | assumption | omega) only [prv_n, nxt_n, q_sw, mc4, mc6, mc8, mc20, mc24, mc100, nv_rd, nb_rd, wr_rd, nI_lit, nI_add, pk_mul, pk_sub, q_div, cl_nI, vpi, q_eq, q_le, q_lt, n1_eq, n1_eq', n1_le, n1_lt, n1_ge, n1_gt, i_0m1, nlt_t, nlt_f, nle_t, nle_f, neq_f, f_below, f_within, f_isCorner, f_isIn, f_isCornerM, f_isStreet, f_isHouse, f_isCrew, f_isRow, f_has10, f_has0, jx_I, jx_N, jx_m1, jr_I, jr_N1, jr_N2, wr_2, isB_0, isB_1, true_and, and_true, and_self, false_and, and_false, true_or, or_true, false_or, or_false, not_true_eq_false, not_false_eq_true, forall_const, implies_true, false_implies, ne_eq, eq_self, if_true, if_false, Nat.zero_add, Nat.add_zero, Nat.mul_zero, Nat.zero_mul, Nat.mul_one, Nat.one_mul, Nat.add_sub_cancel, Nat.reduceEqDiff, Nat.reduceAdd, Nat.reduceMul, Nat.reduceSub, Nat.reduceLeDiff, Nat.reduceLT, Nat.reduceDiv, Nat.reduceMod, m.c255, m.c257, w2.1, w5.1, q0]
    exact k
  · rw [if_neg q0] at k
    by_cases q1 : nv Y 255 h = 1
    · rw [if_pos q1] at k
      simp (disch := first | assumption | omega) only [prv_n, nxt_n, q_sw, mc4, mc6, mc8, mc20, mc24, mc100, nv_rd, nb_rd, wr_rd, nI_lit, nI_add, pk_mul, pk_sub, q_div, cl_nI, vpi, q_eq, q_le, q_lt, n1_eq, n1_eq', n1_le, n1_lt, n1_ge, n1_gt, i_0m1, nlt_t, nlt_f, nle_t, nle_f, neq_f, f_below, f_within, f_isCorner, f_isIn, f_isCornerM, f_isStreet, f_isHouse, f_isCrew, f_isRow, f_has10, f_has0, jx_I, jx_N, jx_m1, jr_I, jr_N1, jr_N2, wr_2, isB_0, isB_1, true_and, and_true, and_self, false_and, and_false, true_or, or_true, false_or, or_false, not_true_eq_false, not_false_eq_true, forall_const, implies_true, false_implies, ne_eq, eq_self, if_true, if_false, Nat.zero_add, Nat.add_zero, Nat.mul_zero, Nat.zero_mul, Nat.mul_one, Nat.one_mul, Nat.add_sub_cancel, Nat.reduceEqDiff, Nat.reduceAdd, Nat.reduceMul, Nat.reduceSub, Nat.reduceLeDiff, Nat.reduceLT, Nat.reduceDiv, Nat.reduceMod, m.c255, m.c257, w2.1, w5.1, q1]
      rw [Nat.mul_comm] at k
      exact k
    · rw [if_neg q1] at k
      simp (disch := first | assumption | omega) only [prv_n, nxt_n, q_sw, mc4, mc6, mc8, mc20, mc24, mc100, nv_rd, nb_rd, wr_rd, nI_lit, nI_add, pk_mul, pk_sub, q_div, cl_nI, vpi, q_eq, q_le, q_lt, n1_eq, n1_eq', n1_le, n1_lt, n1_ge, n1_gt, i_0m1, nlt_t, nlt_f, nle_t, nle_f, neq_f, f_below, f_within, f_isCorner, f_isIn, f_isCornerM, f_isStreet, f_isHouse, f_isCrew, f_isRow, f_has10, f_has0, jx_I, jx_N, jx_m1, jr_I, jr_N1, jr_N2, wr_2, isB_0, isB_1, true_and, and_true, and_self, false_and, and_false, true_or, or_true, false_or, or_false, not_true_eq_false, not_false_eq_true, forall_const, implies_true, false_implies, ne_eq, eq_self, if_true, if_false, Nat.zero_add, Nat.add_zero, Nat.mul_zero, Nat.zero_mul, Nat.mul_one, Nat.one_mul, Nat.add_sub_cancel, Nat.reduceEqDiff, Nat.reduceAdd, Nat.reduceMul, Nat.reduceSub, Nat.reduceLeDiff, Nat.reduceLT, Nat.reduceDiv, Nat.reduceMod, m.c255, m.c257, w2.1, w5.1]
      exact k
/-- who worked on it is hurt; those on it are lost -/
def hrS (s : ab_X) (h f : Nat) : Nat → ab_X
  | 0 => s
  | c + 1 => if (hrS s h f c).1 286 c = nI 2 ∧ (hrS s h f c).1 290 c = nI h ∧ (hrS s h f c).1 291 c = nI f then wr (wr (wr (wr (wr (hrS s h f c) 286 c (nI 4)) 287 c ((hrS s h f c).1 280 c)) 288 c (-nI 1)) 290 c (-nI 1)) 291 c (-nI 1) else hrS s h f c
def plS (s : ab_X) (h f : Nat) : ab_X := wr (wr s 263 h (s.1 263 h + s.1 272 (6 * h + f))) 272 (6 * h + f) (nI 0)
def drV (V : Int32) (s : ab_X) (h g : Nat) : ab_X := if V = nI 0 then drS s h g else hrS (plS (drS s h g) h (g + 1)) h (g + 1) (nv s.1 246 58)
theorem hrS_o {s : ab_X} {h f c : Nat} (hc : c ≠ 286 ∧ c ≠ 287 ∧ c ≠ 288 ∧ c ≠ 290 ∧ c ≠ 291) : ∀ n, (hrS s h f n).1 c = s.1 c
  | 0 => rfl
  | n + 1 => by
    show (if (hrS s h f n).1 286 n = nI 2 ∧ (hrS s h f n).1 290 n = nI h ∧ (hrS s h f n).1 291 n = nI f then wr (wr (wr (wr (wr (hrS s h f n) 286 n (nI 4)) 287 n ((hrS s h f n).1 280 n)) 288 n (-nI 1)) 290 n (-nI 1)) 291 n (-nI 1) else hrS s h f n).1 c = s.1 c
    split
    · simp (disch := omega) only [wr_n]; exact hrS_o hc n
    · exact hrS_o hc n
theorem hrS_2 {s : ab_X} {h f : Nat} : ∀ n, (hrS s h f n).2 = s.2
  | 0 => rfl
  | n + 1 => by
    show (if (hrS s h f n).1 286 n = nI 2 ∧ (hrS s h f n).1 290 n = nI h ∧ (hrS s h f n).1 291 n = nI f then wr (wr (wr (wr (wr (hrS s h f n) 286 n (nI 4)) 287 n ((hrS s h f n).1 280 n)) 288 n (-nI 1)) 290 n (-nI 1)) 291 n (-nI 1) else hrS s h f n).2 = s.2
    split <;> exact hrS_2 n
theorem m_falls {x s : ab_X} {V : Int32} {h g : Nat} (m : keepM s.1 x.1) (w : TW s.1) (b58 : nv s.1 246 58 ≤ 16) (v58 : s.1 246 58 = nI (nv s.1 246 58)) (hh : h < nv s.1 246 31) (hg : g + 1 < nv s.1 256 h) {K : ab_X → Prop} (k : ∀ z : ab_X, keepM (drV V s h g).1 z.1 → (∀ c, ¬ kM c → z.1 c = x.1 c) → z.2 = x.2 → K z) : wX12_falls (nI h) (nI (g + 1)) V x K := by
  have b := w.b
  have rm := rm_le w hh
  obtain ⟨-, -, w3, -, w5, -⟩ := w.2.1.1 h hh
  have f6 := w3.2
  have u5 := w5.2
  have a5 := w5.1
  have sm1 : (g + 1) * nv s.1 257 h = g * nv s.1 257 h + nv s.1 257 h := Nat.succ_mul _ _
  have sm2 : (g + 2) * nv s.1 257 h = (g + 1) * nv s.1 257 h + nv s.1 257 h := Nat.succ_mul _ _
  have le2 : (g + 2) * nv s.1 257 h ≤ nv s.1 256 h * nv s.1 257 h := Nat.mul_le_mul_right _ hg
  unfold wX12_falls
  simp (disch := first | assumption | omega) only [prv_n, nxt_n, q_sw, mc4, mc6, mc8, mc20, mc24, mc100, nv_rd, nb_rd, wr_rd, nI_lit, nI_add, pk_mul, pk_sub, q_div, cl_nI, vpi, q_eq, q_le, q_lt, n1_eq, n1_eq', n1_le, n1_lt, n1_ge, n1_gt, i_0m1, nlt_t, nlt_f, nle_t, nle_f, neq_f, f_below, f_within, f_isCorner, f_isIn, f_isCornerM, f_isStreet, f_isHouse, f_isCrew, f_isRow, f_has10, f_has0, jx_I, jx_N, jx_m1, jr_I, jr_N1, jr_N2, wr_2, isB_0, isB_1, true_and, and_true, and_self, false_and, and_false, true_or, or_true, false_or, or_false, not_true_eq_false, not_false_eq_true, forall_const, implies_true, false_implies, ne_eq, eq_self, if_true, if_false, Nat.zero_add, Nat.add_zero, Nat.mul_zero, Nat.zero_mul, Nat.mul_one, Nat.one_mul, Nat.add_sub_cancel, Nat.reduceEqDiff, Nat.reduceAdd, Nat.reduceMul, Nat.reduceSub, Nat.reduceLeDiff, Nat.reduceLT, Nat.reduceDiv, Nat.reduceMod]
  refine Lp2.ind (fun i a z => ∃ q, q ≤ nv s.1 257 h ∧ i = nv s.1 257 h - q ∧ a = nI q ∧ (∀ c, c ≠ 266 → c ≠ 267 → c ≠ 274 → z.1 c = x.1 c) ∧ z.2 = x.2 ∧ (∀ j, z.1 274 j = if j = 6 * h + (g + 1) then nI 1 else s.1 274 j) ∧ (∀ k, z.1 266 k = dT (s.1 266) (fH s.1 h g) (24 * h + g * nv s.1 257 h) (nv s.1 257 h) q k) ∧ (∀ k, z.1 267 k = dT (s.1 267) (fS s.1 h) (24 * h + g * nv s.1 257 h) (nv s.1 257 h) q k)) (nv s.1 257 h) ⟨0, by omega, by omega, rfl, fun c _ _ h3 => wr_n h3, rfl, fun j => ?_, fun k => by rw [dT_0, wr_n (by decide), m.c266], fun k => by rw [dT_0, wr_n (by decide), m.c267]⟩ ?_
  · by_cases e : j = 6 * h + (g + 1)
    · rw [if_pos e, e, wr_e]
    · rw [if_neg e, wr_k e, m.c274]
  rintro i a z ⟨q, hq, rfl, rfl, z1, z2, z5, z3, z4⟩ L hL
  have c5 : z.1 257 h = nI (nv s.1 257 h) := by rw [z1 257 (by decide) (by decide) (by decide), m.c257, a5]
  unfold lX12_falls_15 wX12_falls_123
  by_cases e : q = nv s.1 257 h
  · rw [e] at z3 z4 ⊢
    have mz : keepM (drS s h g).1 z.1 := by
      refine ⟨fun c p => ?_, fun f p => ?_⟩
      · by_cases e1 : c = 266
        · subst e1; rw [drS_266]; funext k; exact z3 k
        · by_cases e2 : c = 267
          · subst e2; rw [drS_267]; funext k; exact z4 k
          · by_cases e3 : c = 274
            · subst e3; funext j; rw [z5 j, drS_274]
            · rw [drS_o e1 e2 e3, z1 c e1 e2 e3]; exact m.1 c p
      · rw [drS_o (by decide) (by decide) (by decide), z1 246 (by decide) (by decide) (by decide)]; exact m.2 f p
    have fr : ∀ c, ¬ kM c → z.1 c = x.1 c := fun c hc => z1 c (fun e => hc (by unfold kM; omega)) (fun e => hc (by unfold kM; omega)) (fun e => hc (by unfold kM; omega))
    by_cases qV : V = nI 0
    · unfold drV at k
      rw [if_pos qV] at k
      simp (disch := first | assumption | omega) only [prv_n, nxt_n, q_sw, mc4, mc6, mc8, mc20, mc24, mc100, nv_rd, nb_rd, wr_rd, nI_lit, nI_add, pk_mul, pk_sub, q_div, cl_nI, vpi, q_eq, q_le, q_lt, n1_eq, n1_eq', n1_le, n1_lt, n1_ge, n1_gt, i_0m1, nlt_t, nlt_f, nle_t, nle_f, neq_f, f_below, f_within, f_isCorner, f_isIn, f_isCornerM, f_isStreet, f_isHouse, f_isCrew, f_isRow, f_has10, f_has0, jx_I, jx_N, jx_m1, jr_I, jr_N1, jr_N2, wr_2, isB_0, isB_1, true_and, and_true, and_self, false_and, and_false, true_or, or_true, false_or, or_false, not_true_eq_false, not_false_eq_true, forall_const, implies_true, false_implies, ne_eq, eq_self, if_true, if_false, Nat.zero_add, Nat.add_zero, Nat.mul_zero, Nat.zero_mul, Nat.mul_one, Nat.one_mul, Nat.add_sub_cancel, Nat.reduceEqDiff, Nat.reduceAdd, Nat.reduceMul, Nat.reduceSub, Nat.reduceLeDiff, Nat.reduceLT, Nat.reduceDiv, Nat.reduceMod, c5, qV]
      exact k z mz fr z2
    · unfold drV at k
      rw [if_neg qV] at k
      have p1 : keepM (plS (drS s h g) h (g + 1)).1 (wr (wr z 263 h (z.1 263 h + z.1 272 (6 * h + (g + 1)))) 272 (6 * h + (g + 1)) (nI 0)).1 := by
        unfold plS
        rw [mz.c263, mz.c272]
        exact keepM_wr (keepM_wr mz)
      simp (disch := first | assumption | omega) only [prv_n, nxt_n, q_sw, mc4, mc6, mc8, mc20, mc24, mc100, nv_rd, nb_rd, wr_rd, nI_lit, nI_add, pk_mul, pk_sub, q_div, cl_nI, vpi, q_eq, q_le, q_lt, n1_eq, n1_eq', n1_le, n1_lt, n1_ge, n1_gt, i_0m1, nlt_t, nlt_f, nle_t, nle_f, neq_f, f_below, f_within, f_isCorner, f_isIn, f_isCornerM, f_isStreet, f_isHouse, f_isCrew, f_isRow, f_has10, f_has0, jx_I, jx_N, jx_m1, jr_I, jr_N1, jr_N2, wr_2, isB_0, isB_1, true_and, and_true, and_self, false_and, and_false, true_or, or_true, false_or, or_false, not_true_eq_false, not_false_eq_true, forall_const, implies_true, false_implies, ne_eq, eq_self, if_true, if_false, Nat.zero_add, Nat.add_zero, Nat.mul_zero, Nat.zero_mul, Nat.mul_one, Nat.one_mul, Nat.add_sub_cancel, Nat.reduceEqDiff, Nat.reduceAdd, Nat.reduceMul, Nat.reduceSub, Nat.reduceLeDiff, Nat.reduceLT, Nat.reduceDiv, Nat.reduceMod, c5, qV]
      -- the crews
      have n58 : ∀ c, (hrS (plS (drS s h g) h (g + 1)) h (g + 1) c).1 246 58 = nI (nv s.1 246 58) := fun c => by
        rw [hrS_o (by decide)]
        unfold plS
        rw [wr_n (by decide), wr_n (by decide), drS_o (by decide) (by decide) (by decide)]
        exact v58
      refine Lp2.ind (fun i a y => ∃ c, c ≤ nv s.1 246 58 ∧ i = nv s.1 246 58 - c ∧ a = nI c ∧ keepM (hrS (plS (drS s h g) h (g + 1)) h (g + 1) c).1 y.1 ∧ (∀ c, ¬ kM c → y.1 c = x.1 c) ∧ y.2 = x.2) (nv s.1 246 58) ⟨0, by omega, by omega, rfl, p1, fun c hc => by rw [wr_n (fun e => hc (by unfold kM; omega)), wr_n (fun e => hc (by unfold kM; omega))]; exact fr c hc, z2⟩ ?_
      rintro i a y ⟨c, hc, rfl, rfl, my, y1, y2⟩ L2 hL2
      unfold lX12_falls_185
      have y58 := my.s58.trans (n58 c)
      by_cases e2 : c = nv s.1 246 58
      · rw [e2] at my ⊢
        simp (disch := first | assumption | omega) only [prv_n, nxt_n, q_sw, mc4, mc6, mc8, mc20, mc24, mc100, nv_rd, nb_rd, wr_rd, nI_lit, nI_add, pk_mul, pk_sub, q_div, cl_nI, vpi, q_eq, q_le, q_lt, n1_eq, n1_eq', n1_le, n1_lt, n1_ge, n1_gt, i_0m1, nlt_t, nlt_f, nle_t, nle_f, neq_f, f_below, f_within, f_isCorner, f_isIn, f_isCornerM, f_isStreet, f_isHouse, f_isCrew, f_isRow, f_has10, f_has0, jx_I, jx_N, jx_m1, jr_I, jr_N1, jr_N2, wr_2, isB_0, isB_1, true_and, and_true, and_self, false_and, and_false, true_or, or_true, false_or, or_false, not_true_eq_false, not_false_eq_true, forall_const, implies_true, false_implies, ne_eq, eq_self, if_true, if_false, Nat.zero_add, Nat.add_zero, Nat.mul_zero, Nat.zero_mul, Nat.mul_one, Nat.one_mul, Nat.add_sub_cancel, Nat.reduceEqDiff, Nat.reduceAdd, Nat.reduceMul, Nat.reduceSub, Nat.reduceLeDiff, Nat.reduceLT, Nat.reduceDiv, Nat.reduceMod, y58]
        exact k y my y1 y2
      have st : hrS (plS (drS s h g) h (g + 1)) h (g + 1) (c + 1) = if (hrS (plS (drS s h g) h (g + 1)) h (g + 1) c).1 286 c = nI 2 ∧ (hrS (plS (drS s h g) h (g + 1)) h (g + 1) c).1 290 c = nI h ∧ (hrS (plS (drS s h g) h (g + 1)) h (g + 1) c).1 291 c = nI (g + 1) then wr (wr (wr (wr (wr (hrS (plS (drS s h g) h (g + 1)) h (g + 1) c) 286 c (nI 4)) 287 c ((hrS (plS (drS s h g) h (g + 1)) h (g + 1) c).1 280 c)) 288 c (-nI 1)) 290 c (-nI 1)) 291 c (-nI 1) else hrS (plS (drS s h g) h (g + 1)) h (g + 1) c := rfl
      have next : ∀ y' : ab_X, keepM (hrS (plS (drS s h g) h (g + 1)) h (g + 1) (c + 1)).1 y'.1 → (∀ c, ¬ kM c → y'.1 c = x.1 c) → y'.2 = x.2 → L2 (nI (c + 1)) y' := fun y' m' f' s' => hL2 _ _ _ (by omega) ⟨c + 1, by omega, rfl, rfl, m', f', s'⟩
      rw [st] at next
      generalize hrS (plS (drS s h g) h (g + 1)) h (g + 1) c = t at *
      by_cases q1 : t.1 286 c = nI 2
      · by_cases q2 : t.1 290 c = nI h
        · by_cases q3 : t.1 291 c = nI (g + 1)
          · rw [if_pos ⟨q1, q2, q3⟩] at next
            simp (disch := first | assumption | omega) only [prv_n, nxt_n, q_sw, mc4, mc6, mc8, mc20, mc24, mc100, nv_rd, nb_rd, wr_rd, nI_lit, nI_add, pk_mul, pk_sub, q_div, cl_nI, vpi, q_eq, q_le, q_lt, n1_eq, n1_eq', n1_le, n1_lt, n1_ge, n1_gt, i_0m1, nlt_t, nlt_f, nle_t, nle_f, neq_f, f_below, f_within, f_isCorner, f_isIn, f_isCornerM, f_isStreet, f_isHouse, f_isCrew, f_isRow, f_has10, f_has0, jx_I, jx_N, jx_m1, jr_I, jr_N1, jr_N2, wr_2, isB_0, isB_1, true_and, and_true, and_self, false_and, and_false, true_or, or_true, false_or, or_false, not_true_eq_false, not_false_eq_true, forall_const, implies_true, false_implies, ne_eq, eq_self, if_true, if_false, Nat.zero_add, Nat.add_zero, Nat.mul_zero, Nat.zero_mul, Nat.mul_one, Nat.one_mul, Nat.add_sub_cancel, Nat.reduceEqDiff, Nat.reduceAdd, Nat.reduceMul, Nat.reduceSub, Nat.reduceLeDiff, Nat.reduceLT, Nat.reduceDiv, Nat.reduceMod, y58, my.c286, my.c290, my.c291, q1, q2, q3]
            refine next _ (by rw [my.c280]; exact keepM_wr (keepM_wr (keepM_wr (keepM_wr (keepM_wr my))))) (fun c hc => ?_) y2
            rw [wr_n (fun e => hc (by unfold kM; omega)), wr_n (fun e => hc (by unfold kM; omega)), wr_n (fun e => hc (by unfold kM; omega)), wr_n (fun e => hc (by unfold kM; omega)), wr_n (fun e => hc (by unfold kM; omega))]
            exact y1 c hc
          · rw [if_neg (fun u => q3 u.2.2)] at next
            simp (disch := first | assumption | omega) only [prv_n, nxt_n, q_sw, mc4, mc6, mc8, mc20, mc24, mc100, nv_rd, nb_rd, wr_rd, nI_lit, nI_add, pk_mul, pk_sub, q_div, cl_nI, vpi, q_eq, q_le, q_lt, n1_eq, n1_eq', n1_le, n1_lt, n1_ge, n1_gt, i_0m1, nlt_t, nlt_f, nle_t, nle_f, neq_f, f_below, f_within, f_isCorner, f_isIn, f_isCornerM, f_isStreet, f_isHouse, f_isCrew, f_isRow, f_has10, f_has0, jx_I, jx_N, jx_m1, jr_I, jr_N1, jr_N2, wr_2, isB_0, isB_1, true_and, and_true, and_self, false_and, and_false, true_or, or_true, false_or, or_false, not_true_eq_false, not_false_eq_true, forall_const, implies_true, false_implies, ne_eq, eq_self, if_true, if_false, Nat.zero_add, Nat.add_zero, Nat.mul_zero, Nat.zero_mul, Nat.mul_one, Nat.one_mul, Nat.add_sub_cancel, Nat.reduceEqDiff, Nat.reduceAdd, Nat.reduceMul, Nat.reduceSub, Nat.reduceLeDiff, Nat.reduceLT, Nat.reduceDiv, Nat.reduceMod, y58, my.c286, my.c290, my.c291, q1, q2, q3]
            exact next y my y1 y2
        · rw [if_neg (fun u => q2 u.2.1)] at next
          simp (disch := first | assumption | omega) only [prv_n, nxt_n, q_sw, mc4, mc6, mc8, mc20, mc24, mc100, nv_rd, nb_rd, wr_rd, nI_lit, nI_add, pk_mul, pk_sub, q_div, cl_nI, vpi, q_eq, q_le, q_lt, n1_eq, n1_eq', n1_le, n1_lt, n1_ge, n1_gt, i_0m1, nlt_t, nlt_f, nle_t, nle_f, neq_f, f_below, f_within, f_isCorner, f_isIn, f_isCornerM, f_isStreet, f_isHouse, f_isCrew, f_isRow, f_has10, f_has0, jx_I, jx_N, jx_m1, jr_I, jr_N1, jr_N2, wr_2, isB_0, isB_1, true_and, and_true, and_self, false_and, and_false, true_or, or_true, false_or, or_false, not_true_eq_false, not_false_eq_true, forall_const, implies_true, false_implies, ne_eq, eq_self, if_true, if_false, Nat.zero_add, Nat.add_zero, Nat.mul_zero, Nat.zero_mul, Nat.mul_one, Nat.one_mul, Nat.add_sub_cancel, Nat.reduceEqDiff, Nat.reduceAdd, Nat.reduceMul, Nat.reduceSub, Nat.reduceLeDiff, Nat.reduceLT, Nat.reduceDiv, Nat.reduceMod, y58, my.c286, my.c290, q1, q2]
          exact next y my y1 y2
      · rw [if_neg (fun u => q1 u.1)] at next
        simp (disch := first | assumption | omega) only [prv_n, nxt_n, q_sw, mc4, mc6, mc8, mc20, mc24, mc100, nv_rd, nb_rd, wr_rd, nI_lit, nI_add, pk_mul, pk_sub, q_div, cl_nI, vpi, q_eq, q_le, q_lt, n1_eq, n1_eq', n1_le, n1_lt, n1_ge, n1_gt, i_0m1, nlt_t, nlt_f, nle_t, nle_f, neq_f, f_below, f_within, f_isCorner, f_isIn, f_isCornerM, f_isStreet, f_isHouse, f_isCrew, f_isRow, f_has10, f_has0, jx_I, jx_N, jx_m1, jr_I, jr_N1, jr_N2, wr_2, isB_0, isB_1, true_and, and_true, and_self, false_and, and_false, true_or, or_true, false_or, or_false, not_true_eq_false, not_false_eq_true, forall_const, implies_true, false_implies, ne_eq, eq_self, if_true, if_false, Nat.zero_add, Nat.add_zero, Nat.mul_zero, Nat.zero_mul, Nat.mul_one, Nat.one_mul, Nat.add_sub_cancel, Nat.reduceEqDiff, Nat.reduceAdd, Nat.reduceMul, Nat.reduceSub, Nat.reduceLeDiff, Nat.reduceLT, Nat.reduceDiv, Nat.reduceMod, y58, my.c286, q1]
        exact next y my y1 y2
  have hq2 : q < nv s.1 257 h := by omega
  generalize hU : 24 * h + g * nv s.1 257 h = U at *
  have ip : 24 * h + (g + 1) * nv s.1 257 h + q = U + nv s.1 257 h + q := by omega
  have iu : U + nv s.1 257 h + q - nv s.1 257 h = U + q := by omega
  have r1u : z.1 266 (U + q) = s.1 266 (U + q) := by rw [z3 _, dT_u hq2]
  have r1b : z.1 266 (U + nv s.1 257 h + q) = s.1 266 (U + nv s.1 257 h + q) := by rw [z3 _, dT_b hq2]
  have r2u : z.1 267 (U + q) = s.1 267 (U + q) := by rw [z4 _, dT_u hq2]
  have r2b : z.1 267 (U + nv s.1 257 h + q) = s.1 267 (U + nv s.1 257 h + q) := by rw [z4 _, dT_b hq2]
  have r5 : z.1 274 (6 * h + g) = s.1 274 (6 * h + g) := by rw [z5 _, if_neg (by omega)]
  have i5 : 6 * h + (g + 1) - 1 = 6 * h + g := by omega
  have ia : U + q + nv s.1 257 h = U + nv s.1 257 h + q := by omega
  have fin : ∀ y : ab_X, (∀ c, c ≠ 266 → c ≠ 267 → y.1 c = z.1 c) → y.2 = z.2 → y.1 266 (U + q) = fH s.1 h g (U + q) → y.1 266 (U + nv s.1 257 h + q) = nI 0 → (∀ k, k ≠ U + q → k ≠ U + nv s.1 257 h + q → y.1 266 k = z.1 266 k) → y.1 267 (U + q) = fS s.1 h (U + q) → y.1 267 (U + nv s.1 257 h + q) = nI 0 → (∀ k, k ≠ U + q → k ≠ U + nv s.1 257 h + q → y.1 267 k = z.1 267 k) → L (nI (q + 1)) y := by
    intro y y1 y2 y3 y4 y5 y6 y7 y8
    refine hL _ _ _ (by omega) ⟨q + 1, by omega, rfl, rfl, fun c h1 h2 h3 => (y1 c h1 h2).trans (z1 c h1 h2 h3), y2.trans z2, fun j => by rw [y1 274 (by decide) (by decide)]; exact z5 j, fun k => ?_, fun k => ?_⟩
    · rw [dT_n hq2]
      by_cases e1 : k = U + nv s.1 257 h + q
      · rw [if_pos e1, e1]; exact y4
      · rw [if_neg e1]
        by_cases e2 : k = U + q
        · rw [if_pos e2, e2]; exact y3
        · rw [if_neg e2, y5 k e2 e1]; exact z3 k
    · rw [dT_n hq2]
      by_cases e1 : k = U + nv s.1 257 h + q
      · rw [if_pos e1, e1]; exact y7
      · rw [if_neg e1]
        by_cases e2 : k = U + q
        · rw [if_pos e2, e2]; exact y6
        · rw [if_neg e2, y8 k e2 e1]; exact z4 k
  by_cases q5 : s.1 274 (6 * h + g) = nI 0
  · simp (disch := first | assumption | omega) only [prv_n, nxt_n, q_sw, mc4, mc6, mc8, mc20, mc24, mc100, nv_rd, nb_rd, wr_rd, nI_lit, nI_add, pk_mul, pk_sub, q_div, cl_nI, vpi, q_eq, q_le, q_lt, n1_eq, n1_eq', n1_le, n1_lt, n1_ge, n1_gt, i_0m1, nlt_t, nlt_f, nle_t, nle_f, neq_f, f_below, f_within, f_isCorner, f_isIn, f_isCornerM, f_isStreet, f_isHouse, f_isCrew, f_isRow, f_has10, f_has0, jx_I, jx_N, jx_m1, jr_I, jr_N1, jr_N2, wr_2, isB_0, isB_1, true_and, and_true, and_self, false_and, and_false, true_or, or_true, false_or, or_false, not_true_eq_false, not_false_eq_true, forall_const, implies_true, false_implies, ne_eq, eq_self, if_true, if_false, Nat.zero_add, Nat.add_zero, Nat.mul_zero, Nat.zero_mul, Nat.mul_one, Nat.one_mul, Nat.add_sub_cancel, Nat.reduceEqDiff, Nat.reduceAdd, Nat.reduceMul, Nat.reduceSub, Nat.reduceLeDiff, Nat.reduceLT, Nat.reduceDiv, Nat.reduceMod, c5, ip, iu, r1u, r1b, r2u, r2b, i5, r5, q5]
    refine fin _ (fun c h1 h2 => by simp (disch := omega) only [wr_n]) rfl ?_ ?_ (fun k h1 h2 => ?_) ?_ ?_ (fun k h1 h2 => ?_)
    · simp (disch := omega) only [wr_ne, wr_e]
      unfold fH; rw [if_pos q5, ia]
    · simp (disch := omega) only [wr_ne, wr_e]
    · simp (disch := omega) only [wr_ne]
    · simp (disch := omega) only [wr_ne, wr_e]
      unfold fS; rw [ia]
    · simp (disch := omega) only [wr_ne, wr_e]
    · simp (disch := omega) only [wr_ne]
  · simp (disch := first | assumption | omega) only [prv_n, nxt_n, q_sw, mc4, mc6, mc8, mc20, mc24, mc100, nv_rd, nb_rd, wr_rd, nI_lit, nI_add, pk_mul, pk_sub, q_div, cl_nI, vpi, q_eq, q_le, q_lt, n1_eq, n1_eq', n1_le, n1_lt, n1_ge, n1_gt, i_0m1, nlt_t, nlt_f, nle_t, nle_f, neq_f, f_below, f_within, f_isCorner, f_isIn, f_isCornerM, f_isStreet, f_isHouse, f_isCrew, f_isRow, f_has10, f_has0, jx_I, jx_N, jx_m1, jr_I, jr_N1, jr_N2, wr_2, isB_0, isB_1, true_and, and_true, and_self, false_and, and_false, true_or, or_true, false_or, or_false, not_true_eq_false, not_false_eq_true, forall_const, implies_true, false_implies, ne_eq, eq_self, if_true, if_false, Nat.zero_add, Nat.add_zero, Nat.mul_zero, Nat.zero_mul, Nat.mul_one, Nat.one_mul, Nat.add_sub_cancel, Nat.reduceEqDiff, Nat.reduceAdd, Nat.reduceMul, Nat.reduceSub, Nat.reduceLeDiff, Nat.reduceLT, Nat.reduceDiv, Nat.reduceMod, c5, ip, iu, r1u, r1b, r2u, r2b, i5, r5, q5]
    refine fin _ (fun c h1 h2 => by simp (disch := omega) only [wr_n]) rfl ?_ ?_ (fun k h1 h2 => ?_) ?_ ?_ (fun k h1 h2 => ?_)
    · simp (disch := omega) only [wr_ne, wr_e]
      unfold fH; rw [if_neg q5, r1u]
    · simp (disch := omega) only [wr_ne, wr_e]
    · simp (disch := omega) only [wr_ne]
    · simp (disch := omega) only [wr_ne, wr_e]
      unfold fS; rw [ia]
    · simp (disch := omega) only [wr_ne, wr_e]
    · simp (disch := omega) only [wr_ne]
