/-! what -/
theorem c_what {x : ab_X} (h : InvA x) {i f gal n : Nat} (hi : i < nv x.1 246 31) (hf : f < nv x.1 256 i * nv x.1 257 i) (hg : gal ≤ 500) (hn : n ≤ 200) {K : Int32 → ab_X → Prop} (k : ∀ y : ab_X, (∀ c, c < 19 ∨ 26 < c → y.1 c = x.1 c) → y.2 = x.2 → (∀ k, k < 288 → isB (y.1 25 k)) → (∀ k, k < 72 → isB (y.1 24 k)) → K (bt' (stI x ((wr x 268 (24 * i + f) (nI gal)).1 268) n).1 i - bt' x.1 i) y) : wX10_tryWater (30 + 3 * i) (nI f) (nI gal) (nI n) x K := by
  have b := h.2.b31
  have w := h.2.tw
  have rm := rm_le w hi
  have t0 := (h.1.ho.1 i (by omega)).1
  generalize hW : (wr x 268 (24 * i + f) (nI gal)).1 268 = Wa at k
  have wa : ∀ k, k < 288 → Wa k = if k = 24 * i + f then nI gal else nI 0 := by
    intro k hk
    rw [← hW]
    by_cases e : k = 24 * i + f
    · rw [if_pos e, e, wr_e]
    · rw [if_neg e, wr_k e]; exact h.1.wa k hk
  unfold wX10_tryWater
  refine c_become (fun k p => by rw [(h.1.fi.2.1 k p).2.1]; exact h.2.fi.2.1 k p) h.1.fi.2.2.1 (fun y y1 y2 y3 y4 y5 y6 => ?_)
  have y0 : y.1 (30 + 3 * i) 0 = nI i := by rw [y1 _ (by omega) (by omega) (by omega) (by omega) (by omega) (by omega), t0]
  unfold wX4_place
  simp (disch := first | assumption | omega) only [prv_n, nxt_n, q_sw, mc4, mc6, mc8, mc20, mc24, mc100, nv_rd, nb_rd, wr_rd, nI_lit, nI_add, pk_mul, pk_sub, q_div, cl_nI, vpi, q_eq, q_le, q_lt, n1_eq, n1_eq', n1_le, n1_lt, n1_ge, n1_gt, i_0m1, nlt_t, nlt_f, nle_t, nle_f, neq_f, f_below, f_within, f_isCorner, f_isIn, f_isCornerM, f_isStreet, f_isHouse, f_isCrew, f_isRow, f_has10, f_has0, jx_I, jx_N, jx_m1, jr_I, jr_N1, jr_N2, wr_2, isB_0, isB_1, true_and, and_true, and_self, false_and, and_false, true_or, or_true, false_or, or_false, not_true_eq_false, not_false_eq_true, forall_const, implies_true, false_implies, ne_eq, eq_self, if_true, if_false, Nat.zero_add, Nat.add_zero, Nat.mul_zero, Nat.zero_mul, Nat.mul_one, Nat.one_mul, Nat.add_sub_cancel, Nat.reduceEqDiff, Nat.reduceAdd, Nat.reduceMul, Nat.reduceSub, Nat.reduceLeDiff, Nat.reduceLT, Nat.reduceDiv, Nat.reduceMod, y0]
  have ty : TR 19 (wr y 22 (24 * i + f) (nI gal)).1 x.1 := by
    refine ⟨?_, ?_, fun k p => ⟨?_, ?_, ?_⟩, fun k p => ⟨?_, ?_⟩, ?_, fun u => ?_⟩
    · rw [wr_n (by decide), y1 9 (by decide) (by decide) (by decide) (by decide) (by decide) (by decide)]; exact h.1.s31
    · exact Rho_cells w h.1.ho (fun c h1 h2 => by rw [wr_n (by omega)]; exact y1 c (by omega) (by omega) (by omega) (by omega) (by omega) (by omega))
    · rw [wr_n (by decide)]; exact (y4 k p).1.trans (h.1.fi.1 k p).1
    · rw [wr_n (by decide)]; exact (y4 k p).2.1.trans (h.1.fi.1 k p).2.1
    · rw [wr_n (by decide), y1 25 (by decide) (by decide) (by decide) (by decide) (by decide) (by decide)]; exact (h.1.fi.1 k p).2.2.2
    · rw [wr_n (by decide)]; exact (y5 k p).1.trans (h.1.fi.2.1 k p).1
    · rw [wr_n (by decide)]; exact (y5 k p).2.trans (h.1.fi.2.1 k p).2.1
    · rw [wr_n (by decide), y6]; exact h.1.fi.2.2.1
    · rw [wr_n (by decide), y6] at u; exact h.1.fi.2.2.2 u
  have yw : ∀ k, k < 288 → (wr y 22 (24 * i + f) (nI gal)).1 22 k = Wa k := by
    intro k hk
    rw [wa k hk]
    by_cases e : k = 24 * i + f
    · rw [if_pos e, e, wr_e]
    · rw [if_neg e, wr_k e]; exact (y4 k hk).2.2
  have yo : ∀ c, c < 19 ∨ 26 < c → (wr y 22 (24 * i + f) (nI gal)).1 c = x.1 c := fun c hc => by rw [wr_n (by omega)]; exact y1 c (by omega) (by omega) (by omega) (by omega) (by omega) (by omega)
  have y2' : (wr y 22 (24 * i + f) (nI gal)).2 = x.2 := y3
  generalize wr y 22 (24 * i + f) (nI gal) = z0 at ty yw yo y2'
  refine Lp2.ind (fun ii a z => ∃ j, j ≤ n ∧ ii = n - j ∧ a = nI j ∧ TR 19 z.1 (stI x Wa j).1 ∧ (∀ c, c < 19 ∨ 26 < c → z.1 c = x.1 c) ∧ z.1 22 = z0.1 22 ∧ z.2 = x.2) n ⟨0, by omega, by omega, rfl, ty, yo, rfl, y2'⟩ ?_
  rintro ii a z ⟨j, hj, hii, rfl, tz, zo, zw, z2⟩ L hL
  have wj := stI_tw (Wa := Wa) w j
  have nj : nv (stI x Wa j).1 246 31 = nv x.1 246 31 := by unfold nv; rw [(stI_o (Wa := Wa) w j).1 246 (by decide) (by decide) (by decide) (by decide)]
  unfold lX10_tryWater_28
  by_cases e : j = n
  · rw [e] at tz wj nj ⊢
    simp (disch := first | assumption | omega) only [prv_n, nxt_n, q_sw, mc4, mc6, mc8, mc20, mc24, mc100, nv_rd, nb_rd, wr_rd, nI_lit, nI_add, pk_mul, pk_sub, q_div, cl_nI, vpi, q_eq, q_le, q_lt, n1_eq, n1_eq', n1_le, n1_lt, n1_ge, n1_gt, i_0m1, nlt_t, nlt_f, nle_t, nle_f, neq_f, f_below, f_within, f_isCorner, f_isIn, f_isCornerM, f_isStreet, f_isHouse, f_isCrew, f_isRow, f_has10, f_has0, jx_I, jx_N, jx_m1, jr_I, jr_N1, jr_N2, wr_2, isB_0, isB_1, true_and, and_true, and_self, false_and, and_false, true_or, or_true, false_or, or_false, not_true_eq_false, not_false_eq_true, forall_const, implies_true, false_implies, ne_eq, eq_self, if_true, if_false, Nat.zero_add, Nat.add_zero, Nat.mul_zero, Nat.zero_mul, Nat.mul_one, Nat.one_mul, Nat.add_sub_cancel, Nat.reduceEqDiff, Nat.reduceAdd, Nat.reduceMul, Nat.reduceSub, Nat.reduceLeDiff, Nat.reduceLT, Nat.reduceDiv, Nat.reduceMod]
    refine c_burntOf tz wj (by omega) ?_
    have t11 : TR 11 z.1 x.1 := by
      have t := h.1.tr
      refine ⟨by rw [zo 9 (by decide)]; exact t.1, Rho_cells w t.2.1 (fun c h1 h2 => zo c (by omega)), fun k p => ?_, fun k p => ?_, ?_, ?_⟩
      · rw [zo 12 (by decide), zo 13 (by decide), zo 17 (by decide)]; exact t.2.2.1 k p
      · rw [zo 15 (by decide), zo 16 (by decide)]; exact t.2.2.2.1 k p
      · rw [zo 11 (by decide)]; exact t.2.2.2.2.1
      · rw [zo 11 (by decide)]; exact t.2.2.2.2.2
    refine c_burntOf t11 w hi ?_
    exact k z zo z2 (fun k p => (tz.2.2.1 k p).2.2) (fun k p => by rw [(tz.2.2.2.1 k p).2]; exact wj.2.2.2.1 k p)
  · have z9 : z.1 9 2 = nI (nv (stI x Wa j).1 246 31) := by rw [tz.1]; exact wj.v
    simp (disch := first | assumption | omega) only [prv_n, nxt_n, q_sw, mc4, mc6, mc8, mc20, mc24, mc100, nv_rd, nb_rd, wr_rd, nI_lit, nI_add, pk_mul, pk_sub, q_div, cl_nI, vpi, q_eq, q_le, q_lt, n1_eq, n1_eq', n1_le, n1_lt, n1_ge, n1_gt, i_0m1, nlt_t, nlt_f, nle_t, nle_f, neq_f, f_below, f_within, f_isCorner, f_isIn, f_isCornerM, f_isStreet, f_isHouse, f_isCrew, f_isRow, f_has10, f_has0, jx_I, jx_N, jx_m1, jr_I, jr_N1, jr_N2, wr_2, isB_0, isB_1, true_and, and_true, and_self, false_and, and_false, true_or, or_true, false_or, or_false, not_true_eq_false, not_false_eq_true, forall_const, implies_true, false_implies, ne_eq, eq_self, if_true, if_false, Nat.zero_add, Nat.add_zero, Nat.mul_zero, Nat.zero_mul, Nat.mul_one, Nat.one_mul, Nat.add_sub_cancel, Nat.reduceEqDiff, Nat.reduceAdd, Nat.reduceMul, Nat.reduceSub, Nat.reduceLeDiff, Nat.reduceLT, Nat.reduceDiv, Nat.reduceMod, z9]
    refine c_step (Wa := Wa) (Or.inr rfl) tz wj (stI_L w h.2.fi.2.2.2.2.2.1 j) (fun _ k p => by rw [zw]; exact yw k p) (fun k p => ?_) (fun s ts s1 s2 s3 s4 => ?_)
    · rw [wa k p]
      split
      · exact ⟨gal, by omega, rfl⟩
      · exact ⟨0, by omega, rfl⟩
    · exact hL _ _ _ (by omega) ⟨j + 1, by omega, rfl, rfl, ts, fun c hc => by rw [s1 c (by omega)]; exact zo c hc, s3.trans zw, s4.trans z2⟩
theorem m_what {x s : ab_X} {i f gal n : Nat} (w : WW s.1) (m : keepM s.1 x.1) (wa : x.1 268 = s.1 268) (hi : i < nv s.1 246 31) (hf : f < nv s.1 256 i * nv s.1 257 i) (hn : n ≤ 200) (z268 : ∀ k, k < 288 → s.1 268 k = nI 0) {K : Int32 → ab_X → Prop} (k : ∀ z : ab_X, keepM s.1 z.1 → (∀ k, k < 288 → z.1 268 k = nI 0) → (∀ c, c < 246 → z.1 c = x.1 c) → z.2 = x.2 → K (bt' (stI s ((wr s 268 (24 * i + f) (nI gal)).1 268) n).1 i - bt' s.1 i) z) : Lp2 (lX12_what_42 (nI i) (nI f) (nI gal) (nI n) K) 0 x := by
  have b := w.b31
  have rm := rm_le w.tw hi
  refine Lp2.ind (fun ii a y => ∃ j, j ≤ 288 ∧ ii = 288 - j ∧ a = nI j ∧ (∀ c, c ≠ 333 → c ≠ 334 → y.1 c = x.1 c) ∧ y.2 = x.2 ∧ (∀ k, k < j → y.1 333 k = s.1 266 k ∧ y.1 334 k = s.1 267 k)) 288 ⟨0, by omega, by omega, rfl, fun _ _ _ => rfl, rfl, fun k hk => by omega⟩ ?_
  rintro ii a y ⟨j, hj, hii, rfl, y1, y2, y3⟩ L hL
  unfold lX12_what_42
  by_cases e : j = 288
  case neg =>
    have a6 : y.1 266 = s.1 266 := by rw [y1 266 (by decide) (by decide), m.c266]
    have a7 : y.1 267 = s.1 267 := by rw [y1 267 (by decide) (by decide), m.c267]
    simp (disch := first | assumption | omega) only [prv_n, nxt_n, q_sw, mc4, mc6, mc8, mc20, mc24, mc100, nv_rd, nb_rd, wr_rd, nI_lit, nI_add, pk_mul, pk_sub, q_div, cl_nI, vpi, q_eq, q_le, q_lt, n1_eq, n1_eq', n1_le, n1_lt, n1_ge, n1_gt, i_0m1, nlt_t, nlt_f, nle_t, nle_f, neq_f, f_below, f_within, f_isCorner, f_isIn, f_isCornerM, f_isStreet, f_isHouse, f_isCrew, f_isRow, f_has10, f_has0, jx_I, jx_N, jx_m1, jr_I, jr_N1, jr_N2, wr_2, isB_0, isB_1, true_and, and_true, and_self, false_and, and_false, true_or, or_true, false_or, or_false, not_true_eq_false, not_false_eq_true, forall_const, implies_true, false_implies, ne_eq, eq_self, if_true, if_false, Nat.zero_add, Nat.add_zero, Nat.mul_zero, Nat.zero_mul, Nat.mul_one, Nat.one_mul, Nat.add_sub_cancel, Nat.reduceEqDiff, Nat.reduceAdd, Nat.reduceMul, Nat.reduceSub, Nat.reduceLeDiff, Nat.reduceLT, Nat.reduceDiv, Nat.reduceMod, a6, a7]
    refine hL _ _ _ (by omega) ⟨j + 1, by omega, rfl, rfl, fun c h1 h2 => by rw [wr_n h2, wr_n h1]; exact y1 c h1 h2, y2, fun k hk => ?_⟩
    by_cases e2 : k = j
    · subst e2; rw [wr_n (by decide), wr_e, wr_e]; exact ⟨rfl, rfl⟩
    · rw [wr_n (by decide), wr_k e2, wr_k e2, wr_n (by decide)]; exact y3 k (by omega)
  subst e
  simp (disch := first | assumption | omega) only [prv_n, nxt_n, q_sw, mc4, mc6, mc8, mc20, mc24, mc100, nv_rd, nb_rd, wr_rd, nI_lit, nI_add, pk_mul, pk_sub, q_div, cl_nI, vpi, q_eq, q_le, q_lt, n1_eq, n1_eq', n1_le, n1_lt, n1_ge, n1_gt, i_0m1, nlt_t, nlt_f, nle_t, nle_f, neq_f, f_below, f_within, f_isCorner, f_isIn, f_isCornerM, f_isStreet, f_isHouse, f_isCrew, f_isRow, f_has10, f_has0, jx_I, jx_N, jx_m1, jr_I, jr_N1, jr_N2, wr_2, isB_0, isB_1, true_and, and_true, and_self, false_and, and_false, true_or, or_true, false_or, or_false, not_true_eq_false, not_false_eq_true, forall_const, implies_true, false_implies, ne_eq, eq_self, if_true, if_false, Nat.zero_add, Nat.add_zero, Nat.mul_zero, Nat.zero_mul, Nat.mul_one, Nat.one_mul, Nat.add_sub_cancel, Nat.reduceEqDiff, Nat.reduceAdd, Nat.reduceMul, Nat.reduceSub, Nat.reduceLeDiff, Nat.reduceLT, Nat.reduceDiv, Nat.reduceMod]
  refine Lp2.ind (fun ii a z => ∃ j, j ≤ 72 ∧ ii = 72 - j ∧ a = nI j ∧ (∀ c, c ≠ 333 → c ≠ 334 → c ≠ 335 → c ≠ 336 → z.1 c = x.1 c) ∧ z.2 = x.2 ∧ (∀ k, k < 288 → z.1 333 k = s.1 266 k ∧ z.1 334 k = s.1 267 k) ∧ (∀ k, k < j → z.1 335 k = s.1 271 k ∧ z.1 336 k = s.1 274 k)) 72 ⟨0, by omega, by omega, rfl, fun c h1 h2 _ _ => y1 c h1 h2, y2, y3, fun k hk => by omega⟩ ?_
  clear hL y1 y2 y3
  rintro ii a z ⟨j, hj, hii, rfl, y1, y2, y3, y4⟩ L hL
  unfold lX12_what_87
  by_cases e : j = 72
  case neg =>
    have a6 : z.1 271 = s.1 271 := by rw [y1 271 (by decide) (by decide) (by decide) (by decide), m.c271]
    have a7 : z.1 274 = s.1 274 := by rw [y1 274 (by decide) (by decide) (by decide) (by decide), m.c274]
    have b7 : isB (s.1 274 j) := w.fi.2.1 j (by omega)
    simp (disch := first | assumption | omega) only [prv_n, nxt_n, q_sw, mc4, mc6, mc8, mc20, mc24, mc100, nv_rd, nb_rd, wr_rd, nI_lit, nI_add, pk_mul, pk_sub, q_div, cl_nI, vpi, q_eq, q_le, q_lt, n1_eq, n1_eq', n1_le, n1_lt, n1_ge, n1_gt, i_0m1, nlt_t, nlt_f, nle_t, nle_f, neq_f, f_below, f_within, f_isCorner, f_isIn, f_isCornerM, f_isStreet, f_isHouse, f_isCrew, f_isRow, f_has10, f_has0, jx_I, jx_N, jx_m1, jr_I, jr_N1, jr_N2, wr_2, isB_0, isB_1, true_and, and_true, and_self, false_and, and_false, true_or, or_true, false_or, or_false, not_true_eq_false, not_false_eq_true, forall_const, implies_true, false_implies, ne_eq, eq_self, if_true, if_false, Nat.zero_add, Nat.add_zero, Nat.mul_zero, Nat.zero_mul, Nat.mul_one, Nat.one_mul, Nat.add_sub_cancel, Nat.reduceEqDiff, Nat.reduceAdd, Nat.reduceMul, Nat.reduceSub, Nat.reduceLeDiff, Nat.reduceLT, Nat.reduceDiv, Nat.reduceMod, a6, a7, b7]
    refine hL _ _ _ (by omega) ⟨j + 1, by omega, rfl, rfl, fun c h1 h2 h3 h4 => by rw [wr_n h4, wr_n h3]; exact y1 c h1 h2 h3 h4, y2, fun k hk => by rw [wr_n (by decide), wr_n (by decide), wr_n (by decide), wr_n (by decide)]; exact y3 k hk, fun k hk => ?_⟩
    by_cases e2 : k = j
    · subst e2; rw [wr_n (by decide), wr_e, wr_e]; exact ⟨rfl, rfl⟩
    · rw [wr_n (by decide), wr_k e2, wr_k e2, wr_n (by decide)]; exact y4 k (by omega)
  subst e
  have mz : keepM s.1 z.1 := ⟨fun c p => by rw [y1 c (by unfold kM at p; omega) (by unfold kM at p; omega) (by unfold kM at p; omega) (by unfold kM at p; omega)]; exact m.1 c p, fun g p => by rw [y1 246 (by decide) (by decide) (by decide) (by decide)]; exact m.2 g p⟩
  simp (disch := first | assumption | omega) only [prv_n, nxt_n, q_sw, mc4, mc6, mc8, mc20, mc24, mc100, nv_rd, nb_rd, wr_rd, nI_lit, nI_add, pk_mul, pk_sub, q_div, cl_nI, vpi, q_eq, q_le, q_lt, n1_eq, n1_eq', n1_le, n1_lt, n1_ge, n1_gt, i_0m1, nlt_t, nlt_f, nle_t, nle_f, neq_f, f_below, f_within, f_isCorner, f_isIn, f_isCornerM, f_isStreet, f_isHouse, f_isCrew, f_isRow, f_has10, f_has0, jx_I, jx_N, jx_m1, jr_I, jr_N1, jr_N2, wr_2, isB_0, isB_1, true_and, and_true, and_self, false_and, and_false, true_or, or_true, false_or, or_false, not_true_eq_false, not_false_eq_true, forall_const, implies_true, false_implies, ne_eq, eq_self, if_true, if_false, Nat.zero_add, Nat.add_zero, Nat.mul_zero, Nat.zero_mul, Nat.mul_one, Nat.one_mul, Nat.add_sub_cancel, Nat.reduceEqDiff, Nat.reduceAdd, Nat.reduceMul, Nat.reduceSub, Nat.reduceLeDiff, Nat.reduceLT, Nat.reduceDiv, Nat.reduceMod]
  refine m_burntOf mz.f w.tw hi ?_
  have z8 : z.1 268 = s.1 268 := by rw [y1 268 (by decide) (by decide) (by decide) (by decide), wa]
  generalize hW : (wr s 268 (24 * i + f) (nI gal)).1 268 = Wa at k
  have hW2 : (wr z 268 (24 * i + f) (nI gal)).1 268 = Wa := by
    rw [← hW]
    funext k
    by_cases e : k = 24 * i + f
    · rw [e, wr_e, wr_e]
    · rw [wr_k e, wr_k e, z8]
  have kM8 : ¬ kM 268 := by unfold kM; omega
  have mz' : keepM s.1 (wr z 268 (24 * i + f) (nI gal)).1 := ⟨fun c p => by rw [wr_n (by unfold kM at p; omega)]; exact mz.1 c p, fun g p => by rw [wr_n (by decide)]; exact mz.2 g p⟩
  refine Lp2.ind (fun ii a y => ∃ j, j ≤ n ∧ ii = n - j ∧ a = nI j ∧ keepM (stI s Wa j).1 y.1 ∧ y.1 268 = Wa ∧ (∀ c, c < 246 → y.1 c = x.1 c) ∧ y.2 = x.2 ∧ (∀ k, k < 288 → y.1 333 k = s.1 266 k ∧ y.1 334 k = s.1 267 k) ∧ (∀ k, k < 72 → y.1 335 k = s.1 271 k ∧ y.1 336 k = s.1 274 k)) n ⟨0, by omega, by omega, rfl, mz', hW2, fun c hc => by rw [wr_n (by omega)]; exact y1 c (by omega) (by omega) (by omega) (by omega), y2, fun k p => by rw [wr_n (by decide), wr_n (by decide)]; exact y3 k p, fun k p => by rw [wr_n (by decide), wr_n (by decide)]; exact y4 k p⟩ ?_
  clear hL
  rintro ii a y ⟨j, hj, hii, rfl, u1, u2, u3, u4, u5, u6⟩ L hL
  have wj := stI_tw (Wa := Wa) w.tw j
  obtain ⟨o1, o2, o3, o4⟩ := stI_o (Wa := Wa) w.tw j
  have nj : ∀ g, nv (stI s Wa j).1 246 g = nv s.1 246 g := fun g => by unfold nv; rw [o1 246 (by decide) (by decide) (by decide) (by decide)]
  unfold lX12_what_150
  by_cases e : j = n
  case neg =>
    simp (disch := first | assumption | omega) only [prv_n, nxt_n, q_sw, mc4, mc6, mc8, mc20, mc24, mc100, nv_rd, nb_rd, wr_rd, nI_lit, nI_add, pk_mul, pk_sub, q_div, cl_nI, vpi, q_eq, q_le, q_lt, n1_eq, n1_eq', n1_le, n1_lt, n1_ge, n1_gt, i_0m1, nlt_t, nlt_f, nle_t, nle_f, neq_f, f_below, f_within, f_isCorner, f_isIn, f_isCornerM, f_isStreet, f_isHouse, f_isCrew, f_isRow, f_has10, f_has0, jx_I, jx_N, jx_m1, jr_I, jr_N1, jr_N2, wr_2, isB_0, isB_1, true_and, and_true, and_self, false_and, and_false, true_or, or_true, false_or, or_false, not_true_eq_false, not_false_eq_true, forall_const, implies_true, false_implies, ne_eq, eq_self, if_true, if_false, Nat.zero_add, Nat.add_zero, Nat.mul_zero, Nat.zero_mul, Nat.mul_one, Nat.one_mul, Nat.add_sub_cancel, Nat.reduceEqDiff, Nat.reduceAdd, Nat.reduceMul, Nat.reduceSub, Nat.reduceLeDiff, Nat.reduceLT, Nat.reduceDiv, Nat.reduceMod]
    refine m_step0 u1 wj (by rw [nj]; exact w.b58) (by rw [nj, o1 246 (by decide) (by decide) (by decide) (by decide)]; exact w.v58) (fun t mt t1 t2 => ?_)
    rw [u2] at mt
    exact hL _ _ _ (by omega) ⟨j + 1, by omega, rfl, rfl, mt, by rw [t1 268 kM8 (by decide) (by decide)]; exact u2, fun c hc => by rw [t1 c (by unfold kM; omega) (by omega) (by omega)]; exact u3 c hc, t2.trans u4, fun k p => by rw [t1 333 (by unfold kM; omega) (by decide) (by decide), t1 334 (by unfold kM; omega) (by decide) (by decide)]; exact u5 k p, fun k p => by rw [t1 335 (by unfold kM; omega) (by decide) (by decide), t1 336 (by unfold kM; omega) (by decide) (by decide)]; exact u6 k p⟩
  rw [e] at u1 wj nj o1 o2 o3 o4 ⊢
  have mv : keepM (stI s Wa n).1 (wr y 268 (24 * i + f) (nI 0)).1 := ⟨fun c p => by rw [wr_n (by unfold kM at p; omega)]; exact u1.1 c p, fun g p => by rw [wr_n (by decide)]; exact u1.2 g p⟩
  simp (disch := first | assumption | omega) only [prv_n, nxt_n, q_sw, mc4, mc6, mc8, mc20, mc24, mc100, nv_rd, nb_rd, wr_rd, nI_lit, nI_add, pk_mul, pk_sub, q_div, cl_nI, vpi, q_eq, q_le, q_lt, n1_eq, n1_eq', n1_le, n1_lt, n1_ge, n1_gt, i_0m1, nlt_t, nlt_f, nle_t, nle_f, neq_f, f_below, f_within, f_isCorner, f_isIn, f_isCornerM, f_isStreet, f_isHouse, f_isCrew, f_isRow, f_has10, f_has0, jx_I, jx_N, jx_m1, jr_I, jr_N1, jr_N2, wr_2, isB_0, isB_1, true_and, and_true, and_self, false_and, and_false, true_or, or_true, false_or, or_false, not_true_eq_false, not_false_eq_true, forall_const, implies_true, false_implies, ne_eq, eq_self, if_true, if_false, Nat.zero_add, Nat.add_zero, Nat.mul_zero, Nat.zero_mul, Nat.mul_one, Nat.one_mul, Nat.add_sub_cancel, Nat.reduceEqDiff, Nat.reduceAdd, Nat.reduceMul, Nat.reduceSub, Nat.reduceLeDiff, Nat.reduceLT, Nat.reduceDiv, Nat.reduceMod]
  refine m_burntOf mv.f wj (by rw [nj]; exact hi) ?_
  have v8 : ∀ k, k < 288 → (wr y 268 (24 * i + f) (nI 0)).1 268 k = nI 0 := by
    intro k hk
    by_cases e : k = 24 * i + f
    · rw [e, wr_e]
    · rw [wr_k e, u2, ← hW, wr_k e]; exact z268 k hk
  have v3 : ∀ c, c < 246 → (wr y 268 (24 * i + f) (nI 0)).1 c = x.1 c := fun c hc => by rw [wr_n (by omega)]; exact u3 c hc
  have v5 : ∀ k, k < 288 → (wr y 268 (24 * i + f) (nI 0)).1 333 k = s.1 266 k ∧ (wr y 268 (24 * i + f) (nI 0)).1 334 k = s.1 267 k := fun k p => by rw [wr_n (by decide), wr_n (by decide)]; exact u5 k p
  have v6 : ∀ k, k < 72 → (wr y 268 (24 * i + f) (nI 0)).1 335 k = s.1 271 k ∧ (wr y 268 (24 * i + f) (nI 0)).1 336 k = s.1 274 k := fun k p => by rw [wr_n (by decide), wr_n (by decide)]; exact u6 k p
  have v4 : (wr y 268 (24 * i + f) (nI 0)).2 = x.2 := u4
  generalize wr y 268 (24 * i + f) (nI 0) = q at mv v8 v3 v5 v6 v4 ⊢
  refine Lp2.ind (fun ii a y => ∃ j, j ≤ 288 ∧ ii = 288 - j ∧ a = nI j ∧ (∀ c, c ≠ 266 → c ≠ 267 → y.1 c = q.1 c) ∧ y.2 = x.2 ∧ (∀ k, k < j → y.1 266 k = s.1 266 k ∧ y.1 267 k = s.1 267 k) ∧ (∀ k, 288 ≤ k → y.1 266 k = q.1 266 k ∧ y.1 267 k = q.1 267 k)) 288 ⟨0, by omega, by omega, rfl, fun _ _ _ => rfl, v4, fun k hk => by omega, fun _ _ => ⟨rfl, rfl⟩⟩ ?_
  clear hL
  rintro ii a y' ⟨j', hj', hii', rfl, p1, p2, p3, p4⟩ L hL
  unfold lX12_what_193
  by_cases e2 : j' = 288
  case neg =>
    have b3 : y'.1 333 j' = s.1 266 j' := by rw [p1 333 (by decide) (by decide)]; exact (v5 j' (by omega)).1
    have b4 : y'.1 334 j' = s.1 267 j' := by rw [p1 334 (by decide) (by decide)]; exact (v5 j' (by omega)).2
    simp (disch := first | assumption | omega) only [prv_n, nxt_n, q_sw, mc4, mc6, mc8, mc20, mc24, mc100, nv_rd, nb_rd, wr_rd, nI_lit, nI_add, pk_mul, pk_sub, q_div, cl_nI, vpi, q_eq, q_le, q_lt, n1_eq, n1_eq', n1_le, n1_lt, n1_ge, n1_gt, i_0m1, nlt_t, nlt_f, nle_t, nle_f, neq_f, f_below, f_within, f_isCorner, f_isIn, f_isCornerM, f_isStreet, f_isHouse, f_isCrew, f_isRow, f_has10, f_has0, jx_I, jx_N, jx_m1, jr_I, jr_N1, jr_N2, wr_2, isB_0, isB_1, true_and, and_true, and_self, false_and, and_false, true_or, or_true, false_or, or_false, not_true_eq_false, not_false_eq_true, forall_const, implies_true, false_implies, ne_eq, eq_self, if_true, if_false, Nat.zero_add, Nat.add_zero, Nat.mul_zero, Nat.zero_mul, Nat.mul_one, Nat.one_mul, Nat.add_sub_cancel, Nat.reduceEqDiff, Nat.reduceAdd, Nat.reduceMul, Nat.reduceSub, Nat.reduceLeDiff, Nat.reduceLT, Nat.reduceDiv, Nat.reduceMod, b3, b4]
    refine hL _ _ _ (by omega) ⟨j' + 1, by omega, rfl, rfl, fun c h1 h2 => by rw [wr_n h2, wr_n h1]; exact p1 c h1 h2, p2, fun k hk => ?_, fun k hk => ?_⟩
    · by_cases e3 : k = j'
      · subst e3; rw [wr_n (by decide), wr_e, wr_e]; exact ⟨rfl, rfl⟩
      · rw [wr_n (by decide), wr_k e3, wr_k e3, wr_n (by decide)]; exact p3 k (by omega)
    · rw [wr_n (by decide), wr_k (by omega), wr_k (by omega), wr_n (by decide)]; exact p4 k hk
  subst e2
  simp (disch := first | assumption | omega) only [prv_n, nxt_n, q_sw, mc4, mc6, mc8, mc20, mc24, mc100, nv_rd, nb_rd, wr_rd, nI_lit, nI_add, pk_mul, pk_sub, q_div, cl_nI, vpi, q_eq, q_le, q_lt, n1_eq, n1_eq', n1_le, n1_lt, n1_ge, n1_gt, i_0m1, nlt_t, nlt_f, nle_t, nle_f, neq_f, f_below, f_within, f_isCorner, f_isIn, f_isCornerM, f_isStreet, f_isHouse, f_isCrew, f_isRow, f_has10, f_has0, jx_I, jx_N, jx_m1, jr_I, jr_N1, jr_N2, wr_2, isB_0, isB_1, true_and, and_true, and_self, false_and, and_false, true_or, or_true, false_or, or_false, not_true_eq_false, not_false_eq_true, forall_const, implies_true, false_implies, ne_eq, eq_self, if_true, if_false, Nat.zero_add, Nat.add_zero, Nat.mul_zero, Nat.zero_mul, Nat.mul_one, Nat.one_mul, Nat.add_sub_cancel, Nat.reduceEqDiff, Nat.reduceAdd, Nat.reduceMul, Nat.reduceSub, Nat.reduceLeDiff, Nat.reduceLT, Nat.reduceDiv, Nat.reduceMod]
  refine Lp2.ind (fun ii a t => ∃ j, j ≤ 72 ∧ ii = 72 - j ∧ a = nI j ∧ (∀ c, c ≠ 271 → c ≠ 274 → t.1 c = y'.1 c) ∧ t.2 = x.2 ∧ (∀ k, k < j → t.1 271 k = s.1 271 k ∧ t.1 274 k = s.1 274 k) ∧ (∀ k, 72 ≤ k → t.1 271 k = y'.1 271 k ∧ t.1 274 k = y'.1 274 k)) 72 ⟨0, by omega, by omega, rfl, fun _ _ _ => rfl, p2, fun k hk => by omega, fun _ _ => ⟨rfl, rfl⟩⟩ ?_
  clear hL
  rintro ii a t ⟨j2, hj2, hii2, rfl, r1, r2, r3, r4⟩ L hL
  unfold lX12_what_238
  by_cases e3 : j2 = 72
  case neg =>
    have b3 : t.1 335 j2 = s.1 271 j2 := by rw [r1 335 (by decide) (by decide), p1 335 (by decide) (by decide)]; exact (v6 j2 (by omega)).1
    have b4 : t.1 336 j2 = s.1 274 j2 := by rw [r1 336 (by decide) (by decide), p1 336 (by decide) (by decide)]; exact (v6 j2 (by omega)).2
    have b7 : isB (s.1 274 j2) := w.fi.2.1 j2 (by omega)
    simp (disch := first | assumption | omega) only [prv_n, nxt_n, q_sw, mc4, mc6, mc8, mc20, mc24, mc100, nv_rd, nb_rd, wr_rd, nI_lit, nI_add, pk_mul, pk_sub, q_div, cl_nI, vpi, q_eq, q_le, q_lt, n1_eq, n1_eq', n1_le, n1_lt, n1_ge, n1_gt, i_0m1, nlt_t, nlt_f, nle_t, nle_f, neq_f, f_below, f_within, f_isCorner, f_isIn, f_isCornerM, f_isStreet, f_isHouse, f_isCrew, f_isRow, f_has10, f_has0, jx_I, jx_N, jx_m1, jr_I, jr_N1, jr_N2, wr_2, isB_0, isB_1, true_and, and_true, and_self, false_and, and_false, true_or, or_true, false_or, or_false, not_true_eq_false, not_false_eq_true, forall_const, implies_true, false_implies, ne_eq, eq_self, if_true, if_false, Nat.zero_add, Nat.add_zero, Nat.mul_zero, Nat.zero_mul, Nat.mul_one, Nat.one_mul, Nat.add_sub_cancel, Nat.reduceEqDiff, Nat.reduceAdd, Nat.reduceMul, Nat.reduceSub, Nat.reduceLeDiff, Nat.reduceLT, Nat.reduceDiv, Nat.reduceMod, b3, b4, b7]
    refine hL _ _ _ (by omega) ⟨j2 + 1, by omega, rfl, rfl, fun c h1 h2 => by rw [wr_n h2, wr_n h1]; exact r1 c h1 h2, r2, fun k hk => ?_, fun k hk => ?_⟩
    · by_cases e4 : k = j2
      · subst e4; rw [wr_n (by decide), wr_e, wr_e]; exact ⟨rfl, rfl⟩
      · rw [wr_n (by decide), wr_k e4, wr_k e4, wr_n (by decide)]; exact r3 k (by omega)
    · rw [wr_n (by decide), wr_k (by omega), wr_k (by omega), wr_n (by decide)]; exact r4 k hk
  subst e3
  simp (disch := first | assumption | omega) only [prv_n, nxt_n, q_sw, mc4, mc6, mc8, mc20, mc24, mc100, nv_rd, nb_rd, wr_rd, nI_lit, nI_add, pk_mul, pk_sub, q_div, cl_nI, vpi, q_eq, q_le, q_lt, n1_eq, n1_eq', n1_le, n1_lt, n1_ge, n1_gt, i_0m1, nlt_t, nlt_f, nle_t, nle_f, neq_f, f_below, f_within, f_isCorner, f_isIn, f_isCornerM, f_isStreet, f_isHouse, f_isCrew, f_isRow, f_has10, f_has0, jx_I, jx_N, jx_m1, jr_I, jr_N1, jr_N2, wr_2, isB_0, isB_1, true_and, and_true, and_self, false_and, and_false, true_or, or_true, false_or, or_false, not_true_eq_false, not_false_eq_true, forall_const, implies_true, false_implies, ne_eq, eq_self, if_true, if_false, Nat.zero_add, Nat.add_zero, Nat.mul_zero, Nat.zero_mul, Nat.mul_one, Nat.one_mul, Nat.add_sub_cancel, Nat.reduceEqDiff, Nat.reduceAdd, Nat.reduceMul, Nat.reduceSub, Nat.reduceLeDiff, Nat.reduceLT, Nat.reduceDiv, Nat.reduceMod]
  refine k t ⟨fun c p => ?_, fun g p => ?_⟩ (fun k p => ?_) (fun c hc => ?_) r2
  · by_cases c1 : c = 271
    · subst c1
      funext k
      by_cases lt : k < 72
      · exact (r3 k lt).1
      · rw [(r4 k (by omega)).1, p1 271 (by decide) (by decide), mv.c271]; exact (o3 k (by omega)).1
    · by_cases c2 : c = 274
      · subst c2
        funext k
        by_cases lt : k < 72
        · exact (r3 k lt).2
        · rw [(r4 k (by omega)).2, p1 274 (by decide) (by decide), mv.c274]; exact (o3 k (by omega)).2
      · rw [r1 c c1 c2]
        by_cases c3 : c = 266
        · subst c3
          funext k
          by_cases lt : k < 288
          · exact (p3 k lt).1
          · rw [(p4 k (by omega)).1, mv.c266]; exact (o2 k (by omega)).1
        · by_cases c4 : c = 267
          · subst c4
            funext k
            by_cases lt : k < 288
            · exact (p3 k lt).2
            · rw [(p4 k (by omega)).2, mv.c267]; exact (o2 k (by omega)).2
          · rw [p1 c c3 c4, mv.1 c p]; exact o1 c c3 c4 c1 c2
  · rw [r1 246 (by decide) (by decide), p1 246 (by decide) (by decide), mv.2 g p, o1 246 (by decide) (by decide) (by decide) (by decide)]
  · rw [r1 268 (by decide) (by decide), p1 268 (by decide) (by decide)]; exact v8 k p
  · rw [r1 c (by omega) (by omega), p1 c (by omega) (by omega)]; exact v3 c hc
theorem p_what {x : ab_X} {a b c d : Int32} (h : InvA x) {K : ab_X → Prop} (hk : ∀ z, InvA z → keepT x.1 z.1 → K z) :
    wX11_what a b c d x (fun r y => wX12_what a b c d y (fun r' z => r = r' ∧ K z)) := by
  have m : keepM x.1 (wr x 246 0 0).1 := keepM_th
  have bn := h.2.b31
  unfold wX11_what
  rcases rm_d a b h.1 h.2 with ⟨q1, q2⟩ | ⟨i, f, hi, hf, rfl, rfl⟩
  · refine q1 _ ?_
    simp (disch := first | assumption | omega) only [prv_n, nxt_n, q_sw, mc4, mc6, mc8, mc20, mc24, mc100, nv_rd, nb_rd, wr_rd, nI_lit, nI_add, pk_mul, pk_sub, q_div, cl_nI, vpi, q_eq, q_le, q_lt, n1_eq, n1_eq', n1_le, n1_lt, n1_ge, n1_gt, i_0m1, nlt_t, nlt_f, nle_t, nle_f, neq_f, f_below, f_within, f_isCorner, f_isIn, f_isCornerM, f_isStreet, f_isHouse, f_isCrew, f_isRow, f_has10, f_has0, jx_I, jx_N, jx_m1, jr_I, jr_N1, jr_N2, wr_2, isB_0, isB_1, true_and, and_true, and_self, false_and, and_false, true_or, or_true, false_or, or_false, not_true_eq_false, not_false_eq_true, forall_const, implies_true, false_implies, ne_eq, eq_self, if_true, if_false, Nat.zero_add, Nat.add_zero, Nat.mul_zero, Nat.zero_mul, Nat.mul_one, Nat.one_mul, Nat.add_sub_cancel, Nat.reduceEqDiff, Nat.reduceAdd, Nat.reduceMul, Nat.reduceSub, Nat.reduceLeDiff, Nat.reduceLT, Nat.reduceDiv, Nat.reduceMod]
    unfold wX12_what
    refine q2 _ m _ ?_
    simp (disch := first | assumption | omega) only [prv_n, nxt_n, q_sw, mc4, mc6, mc8, mc20, mc24, mc100, nv_rd, nb_rd, wr_rd, nI_lit, nI_add, pk_mul, pk_sub, q_div, cl_nI, vpi, q_eq, q_le, q_lt, n1_eq, n1_eq', n1_le, n1_lt, n1_ge, n1_gt, i_0m1, nlt_t, nlt_f, nle_t, nle_f, neq_f, f_below, f_within, f_isCorner, f_isIn, f_isCornerM, f_isStreet, f_isHouse, f_isCrew, f_isRow, f_has10, f_has0, jx_I, jx_N, jx_m1, jr_I, jr_N1, jr_N2, wr_2, isB_0, isB_1, true_and, and_true, and_self, false_and, and_false, true_or, or_true, false_or, or_false, not_true_eq_false, not_false_eq_true, forall_const, implies_true, false_implies, ne_eq, eq_self, if_true, if_false, Nat.zero_add, Nat.add_zero, Nat.mul_zero, Nat.zero_mul, Nat.mul_one, Nat.one_mul, Nat.add_sub_cancel, Nat.reduceEqDiff, Nat.reduceAdd, Nat.reduceMul, Nat.reduceSub, Nat.reduceLeDiff, Nat.reduceLT, Nat.reduceDiv, Nat.reduceMod]
    exact hk _ (InvA_th h) keepT_th
  refine c_hasRoom h.1 h.2 hi hf ?_
  rcases jr_d c (lo := 0) (hi := 500) (by omega) (by omega) with e | ⟨gal, -, hg, rfl⟩
  · simp (disch := first | assumption | omega) only [prv_n, nxt_n, q_sw, mc4, mc6, mc8, mc20, mc24, mc100, nv_rd, nb_rd, wr_rd, nI_lit, nI_add, pk_mul, pk_sub, q_div, cl_nI, vpi, q_eq, q_le, q_lt, n1_eq, n1_eq', n1_le, n1_lt, n1_ge, n1_gt, i_0m1, nlt_t, nlt_f, nle_t, nle_f, neq_f, f_below, f_within, f_isCorner, f_isIn, f_isCornerM, f_isStreet, f_isHouse, f_isCrew, f_isRow, f_has10, f_has0, jx_I, jx_N, jx_m1, jr_I, jr_N1, jr_N2, wr_2, isB_0, isB_1, true_and, and_true, and_self, false_and, and_false, true_or, or_true, false_or, or_false, not_true_eq_false, not_false_eq_true, forall_const, implies_true, false_implies, ne_eq, eq_self, if_true, if_false, Nat.zero_add, Nat.add_zero, Nat.mul_zero, Nat.zero_mul, Nat.mul_one, Nat.one_mul, Nat.add_sub_cancel, Nat.reduceEqDiff, Nat.reduceAdd, Nat.reduceMul, Nat.reduceSub, Nat.reduceLeDiff, Nat.reduceLT, Nat.reduceDiv, Nat.reduceMod, e]
    unfold wX12_what
    refine m_isRoom m h.2 hi hf ?_
    simp (disch := first | assumption | omega) only [prv_n, nxt_n, q_sw, mc4, mc6, mc8, mc20, mc24, mc100, nv_rd, nb_rd, wr_rd, nI_lit, nI_add, pk_mul, pk_sub, q_div, cl_nI, vpi, q_eq, q_le, q_lt, n1_eq, n1_eq', n1_le, n1_lt, n1_ge, n1_gt, i_0m1, nlt_t, nlt_f, nle_t, nle_f, neq_f, f_below, f_within, f_isCorner, f_isIn, f_isCornerM, f_isStreet, f_isHouse, f_isCrew, f_isRow, f_has10, f_has0, jx_I, jx_N, jx_m1, jr_I, jr_N1, jr_N2, wr_2, isB_0, isB_1, true_and, and_true, and_self, false_and, and_false, true_or, or_true, false_or, or_false, not_true_eq_false, not_false_eq_true, forall_const, implies_true, false_implies, ne_eq, eq_self, if_true, if_false, Nat.zero_add, Nat.add_zero, Nat.mul_zero, Nat.zero_mul, Nat.mul_one, Nat.one_mul, Nat.add_sub_cancel, Nat.reduceEqDiff, Nat.reduceAdd, Nat.reduceMul, Nat.reduceSub, Nat.reduceLeDiff, Nat.reduceLT, Nat.reduceDiv, Nat.reduceMod, e]
    exact hk _ (InvA_th h) keepT_th
  rcases jr_d d (lo := 1) (hi := 200) (by omega) (by omega) with e | ⟨n, hn1, hn, rfl⟩
  · simp (disch := first | assumption | omega) only [prv_n, nxt_n, q_sw, mc4, mc6, mc8, mc20, mc24, mc100, nv_rd, nb_rd, wr_rd, nI_lit, nI_add, pk_mul, pk_sub, q_div, cl_nI, vpi, q_eq, q_le, q_lt, n1_eq, n1_eq', n1_le, n1_lt, n1_ge, n1_gt, i_0m1, nlt_t, nlt_f, nle_t, nle_f, neq_f, f_below, f_within, f_isCorner, f_isIn, f_isCornerM, f_isStreet, f_isHouse, f_isCrew, f_isRow, f_has10, f_has0, jx_I, jx_N, jx_m1, jr_I, jr_N1, jr_N2, wr_2, isB_0, isB_1, true_and, and_true, and_self, false_and, and_false, true_or, or_true, false_or, or_false, not_true_eq_false, not_false_eq_true, forall_const, implies_true, false_implies, ne_eq, eq_self, if_true, if_false, Nat.zero_add, Nat.add_zero, Nat.mul_zero, Nat.zero_mul, Nat.mul_one, Nat.one_mul, Nat.add_sub_cancel, Nat.reduceEqDiff, Nat.reduceAdd, Nat.reduceMul, Nat.reduceSub, Nat.reduceLeDiff, Nat.reduceLT, Nat.reduceDiv, Nat.reduceMod, e]
    unfold wX12_what
    refine m_isRoom m h.2 hi hf ?_
    simp (disch := first | assumption | omega) only [prv_n, nxt_n, q_sw, mc4, mc6, mc8, mc20, mc24, mc100, nv_rd, nb_rd, wr_rd, nI_lit, nI_add, pk_mul, pk_sub, q_div, cl_nI, vpi, q_eq, q_le, q_lt, n1_eq, n1_eq', n1_le, n1_lt, n1_ge, n1_gt, i_0m1, nlt_t, nlt_f, nle_t, nle_f, neq_f, f_below, f_within, f_isCorner, f_isIn, f_isCornerM, f_isStreet, f_isHouse, f_isCrew, f_isRow, f_has10, f_has0, jx_I, jx_N, jx_m1, jr_I, jr_N1, jr_N2, wr_2, isB_0, isB_1, true_and, and_true, and_self, false_and, and_false, true_or, or_true, false_or, or_false, not_true_eq_false, not_false_eq_true, forall_const, implies_true, false_implies, ne_eq, eq_self, if_true, if_false, Nat.zero_add, Nat.add_zero, Nat.mul_zero, Nat.zero_mul, Nat.mul_one, Nat.one_mul, Nat.add_sub_cancel, Nat.reduceEqDiff, Nat.reduceAdd, Nat.reduceMul, Nat.reduceSub, Nat.reduceLeDiff, Nat.reduceLT, Nat.reduceDiv, Nat.reduceMod, e]
    exact hk _ (InvA_th h) keepT_th
  simp (disch := first | assumption | omega) only [prv_n, nxt_n, q_sw, mc4, mc6, mc8, mc20, mc24, mc100, nv_rd, nb_rd, wr_rd, nI_lit, nI_add, pk_mul, pk_sub, q_div, cl_nI, vpi, q_eq, q_le, q_lt, n1_eq, n1_eq', n1_le, n1_lt, n1_ge, n1_gt, i_0m1, nlt_t, nlt_f, nle_t, nle_f, neq_f, f_below, f_within, f_isCorner, f_isIn, f_isCornerM, f_isStreet, f_isHouse, f_isCrew, f_isRow, f_has10, f_has0, jx_I, jx_N, jx_m1, jr_I, jr_N1, jr_N2, wr_2, isB_0, isB_1, true_and, and_true, and_self, false_and, and_false, true_or, or_true, false_or, or_false, not_true_eq_false, not_false_eq_true, forall_const, implies_true, false_implies, ne_eq, eq_self, if_true, if_false, Nat.zero_add, Nat.add_zero, Nat.mul_zero, Nat.zero_mul, Nat.mul_one, Nat.one_mul, Nat.add_sub_cancel, Nat.reduceEqDiff, Nat.reduceAdd, Nat.reduceMul, Nat.reduceSub, Nat.reduceLeDiff, Nat.reduceLT, Nat.reduceDiv, Nat.reduceMod]
  refine c_what h hi hf hg hn (fun y y1 y2 y3 y4 => ?_)
  have my : keepM x.1 (wr y 246 0 (nI 0)).1 := ⟨fun c q => by rw [wr_n (by unfold kM at q; omega)]; exact y1 c (by unfold kM at q; omega), fun g q => by rw [wr_k (by unfold kS at q; omega), y1 246 (by decide)]⟩
  unfold wX12_what
  refine m_isRoom my h.2 hi hf ?_
  simp (disch := first | assumption | omega) only [prv_n, nxt_n, q_sw, mc4, mc6, mc8, mc20, mc24, mc100, nv_rd, nb_rd, wr_rd, nI_lit, nI_add, pk_mul, pk_sub, q_div, cl_nI, vpi, q_eq, q_le, q_lt, n1_eq, n1_eq', n1_le, n1_lt, n1_ge, n1_gt, i_0m1, nlt_t, nlt_f, nle_t, nle_f, neq_f, f_below, f_within, f_isCorner, f_isIn, f_isCornerM, f_isStreet, f_isHouse, f_isCrew, f_isRow, f_has10, f_has0, jx_I, jx_N, jx_m1, jr_I, jr_N1, jr_N2, wr_2, isB_0, isB_1, true_and, and_true, and_self, false_and, and_false, true_or, or_true, false_or, or_false, not_true_eq_false, not_false_eq_true, forall_const, implies_true, false_implies, ne_eq, eq_self, if_true, if_false, Nat.zero_add, Nat.add_zero, Nat.mul_zero, Nat.zero_mul, Nat.mul_one, Nat.one_mul, Nat.add_sub_cancel, Nat.reduceEqDiff, Nat.reduceAdd, Nat.reduceMul, Nat.reduceSub, Nat.reduceLeDiff, Nat.reduceLT, Nat.reduceDiv, Nat.reduceMod]
  refine m_what h.2 my (by rw [wr_n (by decide), y1 268 (by decide)]) hi hf hn h.1.wa (fun z z1 z2 z3 z4 => ⟨rfl, hk z ?_ ?_⟩)
  · have iy : Inv2 y x := by
      have r := h.1
      refine Inv2_of ⟨?_, ?_, ?_, ?_, ?_, ?_, ?_, ?_, ?_, ?_, r.wa⟩ h.2
      · unfold Rsc
        rw [y1 1 (by decide), y1 9 (by decide), y1 66 (by decide), y1 158 (by decide), y1 165 (by decide), y1 0 (by decide)]
        exact r.sc
      · exact Rst_fr r.st (fun c p q => y1 c (by omega)) (fun _ _ _ => rfl) rfl
      · exact Rho_cells h.2.tw r.ho (fun c p q => y1 c (by omega))
      · obtain ⟨f1, f2, f3, f4⟩ := r.fi
        refine ⟨fun k p => ?_, fun k p => ?_, ?_, ?_⟩
        · rw [y1 12 (by decide), y1 13 (by decide), y1 17 (by decide)]
          exact ⟨(f1 k p).1, (f1 k p).2.1, (f1 k p).2.2.1, y3 k p⟩
        · rw [y1 15 (by decide), y1 16 (by decide)]
          exact ⟨(f2 k p).1, (f2 k p).2.1, y4 k p⟩
        · rw [y1 11 (by decide)]; exact f3
        · rw [y1 11 (by decide)]; exact f4
      · exact Rmh_fr r.mh (fun c p q => y1 c (by omega)) (fun _ _ _ => rfl) rfl rfl
      · exact Rcr_fr r.cr (fun c f p q => by rw [y1 (82 + c) (by omega)]) (fun _ _ _ => rfl) (fun _ _ _ => rfl) (fun _ _ _ => rfl) rfl (fun i p => by have := h.2.b58; omega)
      · exact Rca_fr r.ca (fun c p q => y1 c (by omega)) (fun _ _ _ => rfl) rfl (fun i p => by have := h.2.b92; omega)
      · exact Rev_fr r.ev (fun c p q => y1 c (by omega)) (fun _ _ _ => rfl) (fun _ _ _ => rfl) rfl rfl
      · exact Rta_fr r.ta (fun c p q => y1 c (by omega)) (fun _ _ _ => rfl) rfl
      · exact Rro_fr r.ro (fun c p q => y1 c (by omega)) (fun _ _ _ => rfl) rfl rfl
    refine iy.fin (fun c hc => by rw [z3 c hc, wr_n (by omega)]) z1 z2 (by rw [z4]; show y.2.1 329 = _; rw [y2])
  · intro c k q
    by_cases lt : c < 246
    · rw [z3 c lt, wr_n (by omega), y1 c (by unfold tk at q; omega)]
    · unfold tk at q
      by_cases e : c = 246
      · subst e
        exact z1.2 k (by unfold kS; omega)
      · rw [z1.1 c (by unfold kM; omega)]
