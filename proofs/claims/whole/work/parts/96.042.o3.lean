/-! LAW: the calls fails, code, failing. -/
theorem fin_Q {x y z : ab_X} (h : InvA x) (kc : keepC x.1 y.1) (kt : keepT x.1 y.1) (sm : smM x y) (f : rgB (wr y 246 0 0) z) : InvA z ∧ keepT x.1 z.1 := by
  have c : ∀ c, c < 246 → z.1 c = y.1 c := fun c hc => by rw [f.c c hc, wr_n (by omega)]
  have my : keepM x.1 (wr y 246 0 0).1 := (sm.m keepM.rfl').tr keepM_th
  refine ⟨InvA_keep h ⟨fun d q => by rw [c d (kC_lt q)]; exact kc.1 d q, by rw [c 158 (by decide)]; exact kc.2.1, fun d f p q => by rw [c _ (by omega)]; exact kc.2.2 d f p q⟩ (f.m my) (fun k _ => ?_) ?_, (kt.tr keepT_th).tr f.t⟩
  · rw [f.1 _ _ (by omega) (by omega) (by omega) (by omega), wr_n (by decide), sm.1 268 (by decide)]
  · rw [f.2.1]
    show y.2.1 329 = _
    rw [sm.2]
theorem p_fails {x : ab_X} {a b : Int32} (ht : InvT x.1) (h : InvA x) {K : ab_X → Prop} (hk : ∀ z, InvA z → keepT x.1 z.1 → K z) : wX11_fails a b x (fun r y => wX12_fails a b y (fun r' z => r = r' ∧ K z)) := by
  have b1 := h.2.b1
  have b31 := h.2.b31
  unfold wX11_fails wX11_isKnown
  rcases jx_d a (n := nv x.1 246 31) (by omega) with e | ⟨j, hj, rfl⟩
  · unfold wX12_fails
    simp (disch := first | assumption | omega) only [prv_n, nxt_n, q_sw, mc4, mc6, mc8, mc20, mc24, mc100, nv_rd, nb_rd, wr_rd, nI_lit, nI_add, pk_mul, pk_sub, q_div, cl_nI, vpi, q_eq, q_le, q_lt, n1_eq, n1_eq', n1_le, n1_lt, n1_ge, n1_gt, i_0m1, nlt_t, nlt_f, nle_t, nle_f, neq_f, f_below, f_within, f_isCorner, f_isIn, f_isCornerM, f_isStreet, f_isHouse, f_isCrew, f_isRow, f_has10, f_has0, jx_I, jx_N, jx_m1, jr_I, jr_N1, jr_N2, wr_2, isB_0, isB_1, true_and, and_true, and_self, false_and, and_false, true_or, or_true, false_or, or_false, not_true_eq_false, not_false_eq_true, forall_const, implies_true, false_implies, ne_eq, eq_self, if_true, if_false, Nat.zero_add, Nat.add_zero, Nat.mul_zero, Nat.zero_mul, Nat.mul_one, Nat.one_mul, Nat.add_sub_cancel, Nat.reduceEqDiff, Nat.reduceAdd, Nat.reduceMul, Nat.reduceSub, Nat.reduceLeDiff, Nat.reduceLT, Nat.reduceDiv, Nat.reduceMod, h.1.s31, h.2.v31, e]
    exact hk _ (InvA_th h) keepT_th
  rcases jr_d b (lo := 0) (hi := nv x.1 246 1) (by omega) (by omega) with e | ⟨q, hq, hq2, rfl⟩
  · unfold wX12_fails
    simp (disch := first | assumption | omega) only [prv_n, nxt_n, q_sw, mc4, mc6, mc8, mc20, mc24, mc100, nv_rd, nb_rd, wr_rd, nI_lit, nI_add, pk_mul, pk_sub, q_div, cl_nI, vpi, q_eq, q_le, q_lt, n1_eq, n1_eq', n1_le, n1_lt, n1_ge, n1_gt, i_0m1, nlt_t, nlt_f, nle_t, nle_f, neq_f, f_below, f_within, f_isCorner, f_isIn, f_isCornerM, f_isStreet, f_isHouse, f_isCrew, f_isRow, f_has10, f_has0, jx_I, jx_N, jx_m1, jr_I, jr_N1, jr_N2, wr_2, isB_0, isB_1, true_and, and_true, and_self, false_and, and_false, true_or, or_true, false_or, or_false, not_true_eq_false, not_false_eq_true, forall_const, implies_true, false_implies, ne_eq, eq_self, if_true, if_false, Nat.zero_add, Nat.add_zero, Nat.mul_zero, Nat.zero_mul, Nat.mul_one, Nat.one_mul, Nat.add_sub_cancel, Nat.reduceEqDiff, Nat.reduceAdd, Nat.reduceMul, Nat.reduceSub, Nat.reduceLeDiff, Nat.reduceLT, Nat.reduceDiv, Nat.reduceMod, h.1.s31, h.2.v31, h.1.s1, h.2.v1, e]
    exact hk _ (InvA_th h) keepT_th
  simp (disch := first | assumption | omega) only [prv_n, nxt_n, q_sw, mc4, mc6, mc8, mc20, mc24, mc100, nv_rd, nb_rd, wr_rd, nI_lit, nI_add, pk_mul, pk_sub, q_div, cl_nI, vpi, q_eq, q_le, q_lt, n1_eq, n1_eq', n1_le, n1_lt, n1_ge, n1_gt, i_0m1, nlt_t, nlt_f, nle_t, nle_f, neq_f, f_below, f_within, f_isCorner, f_isIn, f_isCornerM, f_isStreet, f_isHouse, f_isCrew, f_isRow, f_has10, f_has0, jx_I, jx_N, jx_m1, jr_I, jr_N1, jr_N2, wr_2, isB_0, isB_1, true_and, and_true, and_self, false_and, and_false, true_or, or_true, false_or, or_false, not_true_eq_false, not_false_eq_true, forall_const, implies_true, false_implies, ne_eq, eq_self, if_true, if_false, Nat.zero_add, Nat.add_zero, Nat.mul_zero, Nat.zero_mul, Nat.mul_one, Nat.one_mul, Nat.add_sub_cancel, Nat.reduceEqDiff, Nat.reduceAdd, Nat.reduceMul, Nat.reduceSub, Nat.reduceLeDiff, Nat.reduceLT, Nat.reduceDiv, Nat.reduceMod, h.1.s31, h.2.v31, h.1.s1, h.2.v1]
  refine c_failures h.1 h.2 ht keepT.rfl' hj (fun y kc kt sm _ => ?_)
  have my : keepM x.1 (wr y 246 0 0).1 := (sm.m keepM.rfl').tr keepM_th
  have e31 : y.1 246 31 = nI (nv x.1 246 31) := by rw [sm.1 246 (by decide), h.2.v31]
  have e1 : y.1 246 1 = nI (nv x.1 246 1) := by rw [sm.1 246 (by decide), h.2.v1]
  unfold wX12_fails
  simp (disch := first | assumption | omega) only [prv_n, nxt_n, q_sw, mc4, mc6, mc8, mc20, mc24, mc100, nv_rd, nb_rd, wr_rd, nI_lit, nI_add, pk_mul, pk_sub, q_div, cl_nI, vpi, q_eq, q_le, q_lt, n1_eq, n1_eq', n1_le, n1_lt, n1_ge, n1_gt, i_0m1, nlt_t, nlt_f, nle_t, nle_f, neq_f, f_below, f_within, f_isCorner, f_isIn, f_isCornerM, f_isStreet, f_isHouse, f_isCrew, f_isRow, f_has10, f_has0, jx_I, jx_N, jx_m1, jr_I, jr_N1, jr_N2, wr_2, isB_0, isB_1, true_and, and_true, and_self, false_and, and_false, true_or, or_true, false_or, or_false, not_true_eq_false, not_false_eq_true, forall_const, implies_true, false_implies, ne_eq, eq_self, if_true, if_false, Nat.zero_add, Nat.add_zero, Nat.mul_zero, Nat.zero_mul, Nat.mul_one, Nat.one_mul, Nat.add_sub_cancel, Nat.reduceEqDiff, Nat.reduceAdd, Nat.reduceMul, Nat.reduceSub, Nat.reduceLeDiff, Nat.reduceLT, Nat.reduceDiv, Nat.reduceMod, e31, e1]
  exact m_failsBy my h.2 ht (kt.tr keepT_th) hj (by omega) (fun z f _ => ⟨rfl, hk z (fin_Q h kc kt sm f).1 (fin_Q h kc kt sm f).2⟩)
theorem jr_len (a : Int32) {n : Nat} (hn : n < 2147483647) : jr a (nI 0) (nI n - nI 1) = jx a (nI n) := by
  by_cases e : n = 0
  · rw [e, i_0m1]; exact jr_jx0 a
  · rw [pk_sub (by omega)]; exact jr_jx a hn (by omega)
theorem p_code {x : ab_X} {a b c : Int32} (ht : InvT x.1) (h : InvA x) {K : ab_X → Prop} (hk : ∀ z, InvA z → keepT x.1 z.1 → K z) : wX11_code a b c x (fun r y => wX12_code a b c y (fun r' z => r = r' ∧ K z)) := by
  have b1 := h.2.b1
  have b31 := h.2.b31
  have b72 := h.2.b72
  unfold wX11_code wX11_isKnown
  rcases jx_d a (n := nv x.1 246 31) (by omega) with e | ⟨j, hj, rfl⟩
  · unfold wX12_code
    simp (disch := first | assumption | omega) only [prv_n, nxt_n, q_sw, mc4, mc6, mc8, mc20, mc24, mc100, nv_rd, nb_rd, wr_rd, nI_lit, nI_add, pk_mul, pk_sub, q_div, cl_nI, vpi, q_eq, q_le, q_lt, n1_eq, n1_eq', n1_le, n1_lt, n1_ge, n1_gt, i_0m1, nlt_t, nlt_f, nle_t, nle_f, neq_f, f_below, f_within, f_isCorner, f_isIn, f_isCornerM, f_isStreet, f_isHouse, f_isCrew, f_isRow, f_has10, f_has0, jx_I, jx_N, jx_m1, jr_I, jr_N1, jr_N2, wr_2, isB_0, isB_1, true_and, and_true, and_self, false_and, and_false, true_or, or_true, false_or, or_false, not_true_eq_false, not_false_eq_true, forall_const, implies_true, false_implies, ne_eq, eq_self, if_true, if_false, Nat.zero_add, Nat.add_zero, Nat.mul_zero, Nat.zero_mul, Nat.mul_one, Nat.one_mul, Nat.add_sub_cancel, Nat.reduceEqDiff, Nat.reduceAdd, Nat.reduceMul, Nat.reduceSub, Nat.reduceLeDiff, Nat.reduceLT, Nat.reduceDiv, Nat.reduceMod, h.1.s31, h.2.v31, e]
    exact hk _ (InvA_th h) keepT_th
  rcases jr_d b (lo := 0) (hi := nv x.1 246 1) (by omega) (by omega) with e | ⟨q, hq, hq2, rfl⟩
  · unfold wX12_code
    simp (disch := first | assumption | omega) only [prv_n, nxt_n, q_sw, mc4, mc6, mc8, mc20, mc24, mc100, nv_rd, nb_rd, wr_rd, nI_lit, nI_add, pk_mul, pk_sub, q_div, cl_nI, vpi, q_eq, q_le, q_lt, n1_eq, n1_eq', n1_le, n1_lt, n1_ge, n1_gt, i_0m1, nlt_t, nlt_f, nle_t, nle_f, neq_f, f_below, f_within, f_isCorner, f_isIn, f_isCornerM, f_isStreet, f_isHouse, f_isCrew, f_isRow, f_has10, f_has0, jx_I, jx_N, jx_m1, jr_I, jr_N1, jr_N2, wr_2, isB_0, isB_1, true_and, and_true, and_self, false_and, and_false, true_or, or_true, false_or, or_false, not_true_eq_false, not_false_eq_true, forall_const, implies_true, false_implies, ne_eq, eq_self, if_true, if_false, Nat.zero_add, Nat.add_zero, Nat.mul_zero, Nat.zero_mul, Nat.mul_one, Nat.one_mul, Nat.add_sub_cancel, Nat.reduceEqDiff, Nat.reduceAdd, Nat.reduceMul, Nat.reduceSub, Nat.reduceLeDiff, Nat.reduceLT, Nat.reduceDiv, Nat.reduceMod, h.1.s31, h.2.v31, h.1.s1, h.2.v1, e]
    exact hk _ (InvA_th h) keepT_th
  simp (disch := first | assumption | omega) only [prv_n, nxt_n, q_sw, mc4, mc6, mc8, mc20, mc24, mc100, nv_rd, nb_rd, wr_rd, nI_lit, nI_add, pk_mul, pk_sub, q_div, cl_nI, vpi, q_eq, q_le, q_lt, n1_eq, n1_eq', n1_le, n1_lt, n1_ge, n1_gt, i_0m1, nlt_t, nlt_f, nle_t, nle_f, neq_f, f_below, f_within, f_isCorner, f_isIn, f_isCornerM, f_isStreet, f_isHouse, f_isCrew, f_isRow, f_has10, f_has0, jx_I, jx_N, jx_m1, jr_I, jr_N1, jr_N2, wr_2, isB_0, isB_1, true_and, and_true, and_self, false_and, and_false, true_or, or_true, false_or, or_false, not_true_eq_false, not_false_eq_true, forall_const, implies_true, false_implies, ne_eq, eq_self, if_true, if_false, Nat.zero_add, Nat.add_zero, Nat.mul_zero, Nat.zero_mul, Nat.mul_one, Nat.one_mul, Nat.add_sub_cancel, Nat.reduceEqDiff, Nat.reduceAdd, Nat.reduceMul, Nat.reduceSub, Nat.reduceLeDiff, Nat.reduceLT, Nat.reduceDiv, Nat.reduceMod, h.1.s31, h.2.v31, h.1.s1, h.2.v1]
  have len := fcS_len (h := j) (q := nI q) ht b72
  refine c_failures h.1 h.2 ht keepT.rfl' hj (fun y kc kt sm _ => ?_)
  have ref : ∀ (y : ab_X) (r : Int32), keepC x.1 y.1 → keepT x.1 y.1 → smM x y → (jx c (nI (fcS x.1 j (nI q)).2.2.length) = nI 0 → r = -nI 1) → (∀ i, i < (fcS x.1 j (nI q)).2.2.length → c = nI i → r = (fcS x.1 j (nI q)).2.2.getD i 0) → wX12_code (nI j) (nI q) c y (fun r' z => r = r' ∧ K z) := by
    intro y r kc kt sm r0 r1
    have my : keepM x.1 (wr y 246 0 0).1 := (sm.m keepM.rfl').tr keepM_th
    have e31 : y.1 246 31 = nI (nv x.1 246 31) := by rw [sm.1 246 (by decide), h.2.v31]
    have e1 : y.1 246 1 = nI (nv x.1 246 1) := by rw [sm.1 246 (by decide), h.2.v1]
    unfold wX12_code
    simp (disch := first | assumption | omega) only [prv_n, nxt_n, q_sw, mc4, mc6, mc8, mc20, mc24, mc100, nv_rd, nb_rd, wr_rd, nI_lit, nI_add, pk_mul, pk_sub, q_div, cl_nI, vpi, q_eq, q_le, q_lt, n1_eq, n1_eq', n1_le, n1_lt, n1_ge, n1_gt, i_0m1, nlt_t, nlt_f, nle_t, nle_f, neq_f, f_below, f_within, f_isCorner, f_isIn, f_isCornerM, f_isStreet, f_isHouse, f_isCrew, f_isRow, f_has10, f_has0, jx_I, jx_N, jx_m1, jr_I, jr_N1, jr_N2, wr_2, isB_0, isB_1, true_and, and_true, and_self, false_and, and_false, true_or, or_true, false_or, or_false, not_true_eq_false, not_false_eq_true, forall_const, implies_true, false_implies, ne_eq, eq_self, if_true, if_false, Nat.zero_add, Nat.add_zero, Nat.mul_zero, Nat.zero_mul, Nat.mul_one, Nat.one_mul, Nat.add_sub_cancel, Nat.reduceEqDiff, Nat.reduceAdd, Nat.reduceMul, Nat.reduceSub, Nat.reduceLeDiff, Nat.reduceLT, Nat.reduceDiv, Nat.reduceMod, e31, e1]
    refine m_failsBy my h.2 ht (kt.tr keepT_th) hj (by omega) (fun z f cz => ?_)
    first | rw [f_isIn, jr_len _ (by omega)] | rw [jr_len _ (by omega)]
    have fin := fin_Q h kc kt sm f
    rcases jx_d c (n := (fcS x.1 j (nI q)).2.2.length) (by omega) with e | ⟨i, hi, rfl⟩
    · rw [e]
      exact y0 ⟨r0 e, hk z fin.1 fin.2⟩
    · rw [jx_I hi (by omega)]
      refine y1 ⟨(vpi (by omega) (by decide)).mpr trivial, ?_, hk z fin.1 fin.2⟩
      rw [cl_nI (by omega), cz i hi]
      exact r1 i hi rfl
  rcases jx_d c (n := (fcS x.1 j (nI q)).2.2.length) (by omega) with e | ⟨i, hi, rfl⟩
  · rw [e]
    refine x0 (ref y _ kc kt sm (fun _ => rfl) (fun i hi e2 => ?_))
    rw [e2, jx_I hi (by omega)] at e
    exact absurd e (by decide)
  · rw [jx_I hi (by omega)]
    refine x1 ?_
    have ry : RR y.1 x.1 (x.2.1 329) := RR_keep h.2 h.1 kc keepM.rfl' (fun _ _ => rfl)
    unfold wX5_codeAt
    refine c_actFor ry h.2 hj ?_
    rw [f_below, ry.s72, h.2.v72]
    rcases pkb_d (afo x.1 j (nI q)) (x.1 305) (nv x.1 246 72) with e | ⟨k, hk', e, -⟩
    · have e : af x.1 j (nI q) = -nI 1 := e
      have e1 : fcS x.1 j (nI q) = S0 := by unfold fcS; rw [if_pos e]
      rw [e1] at hi
      exact absurd hi (Nat.not_lt_zero i)
    have e : af x.1 j (nI q) = nI k := e
    rw [e, jx_I hk' (by omega), cl_nI (by omega)]
    refine y1 ?_
    refine c_failures ry h.2 ht kt hj (fun y2 kc2 kt2 sm2 cs => ?_)
    rw [f_below, jx_I hi (by omega), cl_nI (by omega), cs k e (by omega) i hi]
    refine y1 ⟨(vpi (by omega) (by decide)).mpr trivial, (vpi (by omega) (by decide)).mpr trivial, ?_⟩
    refine ref y2 _ (kc.tr kc2) (kt.tr kt2) (sm.tr sm2) (fun e3 => ?_) (fun i2 hi2 e3 => ?_)
    · rw [jx_I hi (by omega)] at e3
      exact absurd e3 (by decide)
    · have e4 := (q_eq (by omega) (by omega)).mp e3
      rw [e4]
noncomputable def fbB (Y : Nat → Nat → Int32) (q : Int32) : Nat → Int32
  | 0 => nI 0
  | i + 1 => if (fcS Y i q).2.2.length = 0 then fbB Y q i else fbB Y q i ||| (nI 1 <<< (nI i &&& nI 31))
theorem p_failing {x : ab_X} (ht : InvT x.1) (h : InvA x) {K : ab_X → Prop} (hk : ∀ z, InvA z → keepT x.1 z.1 → K z) : wX11_failing x (fun r y => wX12_failing y (fun r' z => r = r' ∧ K z)) := by
  have b1 := h.2.b1
  have b31 := h.2.b31
  have b72 := h.2.b72
  unfold wX11_failing
  refine Lp3.ind (fun ii a b y => ∃ i, i ≤ nv x.1 246 31 ∧ ii = nv x.1 246 31 - i ∧ a = fbB x.1 (nI (nv x.1 246 1)) i ∧ b = nI i ∧ keepC x.1 y.1 ∧ keepT x.1 y.1 ∧ smM x y) (nv x.1 246 31) ⟨0, Nat.zero_le _, rfl, rfl, rfl, keepC.rfl', keepT.rfl', smM.rfl'⟩ ?_
  rintro ii a b y ⟨i, hi, hii, rfl, rfl, kc, kt, sm⟩ L hL
  have ry : RR y.1 x.1 (x.2.1 329) := RR_keep h.2 h.1 kc keepM.rfl' (fun _ _ => rfl)
  unfold lX11_failing_4
  rw [ry.s31, h.2.v31, ry.s1, h.2.v1, q_le (by omega) (by omega)]
  refine ⟨fun q => ?_, fun q => ?_⟩
  · have e : i = nv x.1 246 31 := by omega
    subst e
    unfold wX12_failing
    refine Lp3.ind (fun ii a b z => ∃ i, i ≤ nv x.1 246 31 ∧ ii = nv x.1 246 31 - i ∧ a = fbB x.1 (nI (nv x.1 246 1)) i ∧ b = nI i ∧ rgB (wr y 246 0 0) z) (nv x.1 246 31) ⟨0, Nat.zero_le _, rfl, rfl, rfl, rgB.rfl'⟩ ?_
    rintro ii a b z ⟨i, hi, hii, rfl, rfl, fz⟩ L2 hL2
    have my : keepM x.1 (wr y 246 0 0).1 := (sm.m keepM.rfl').tr keepM_th
    have mz := fz.m my
    unfold lX12_failing_9
    rw [mz.s31, h.2.v31, mz.s1, h.2.v1, q_le (by omega) (by omega)]
    refine ⟨fun q2 => ?_, fun q2 => ?_⟩
    · have e : i = nv x.1 246 31 := by omega
      subst e
      have fin := fin_Q h kc kt sm fz
      exact ⟨rfl, hk z fin.1 fin.2⟩
    · have len := fcS_len (h := i) (q := nI (nv x.1 246 1)) ht b72
      refine m_failsBy mz h.2 ht ((kt.tr keepT_th).tr fz.t) (by omega) (by omega) (fun w fw _ => ?_)
      unfold wX12_failing_37
      simp only [nI_lit]
      rw [q_le (by omega) (by omega), nI_add]
      refine ⟨fun q3 => ?_, fun q3 => ?_⟩
      · refine hL2 _ _ _ _ (by omega) ⟨i + 1, by omega, rfl, ?_, rfl, fz.tr fw⟩
        show _ = if (fcS x.1 i (nI (nv x.1 246 1))).2.2.length = 0 then _ else _
        rw [if_pos (by omega)]
        exact Int32.or_zero
      · refine hL2 _ _ _ _ (by omega) ⟨i + 1, by omega, rfl, ?_, rfl, fz.tr fw⟩
        show _ = if (fcS x.1 i (nI (nv x.1 246 1))).2.2.length = 0 then _ else _
        rw [if_neg (by omega)]
  · have len := fcS_len (h := i) (q := nI (nv x.1 246 1)) ht b72
    refine c_failures ry h.2 ht kt (by omega) (fun y2 kc2 kt2 sm2 _ => ?_)
    simp only [nI_lit]
    rw [q_le (by omega) (by omega), nI_add]
    refine ⟨fun q3 => ?_, fun q3 => ?_⟩
    · refine hL _ _ _ _ (by omega) ⟨i + 1, by omega, rfl, ?_, rfl, kc.tr kc2, kt.tr kt2, sm.tr sm2⟩
      show _ = if (fcS x.1 i (nI (nv x.1 246 1))).2.2.length = 0 then _ else _
      rw [if_pos (by omega)]
    · refine hL _ _ _ _ (by omega) ⟨i + 1, by omega, rfl, ?_, rfl, kc.tr kc2, kt.tr kt2, sm.tr sm2⟩
      show _ = if (fcS x.1 i (nI (nv x.1 246 1))).2.2.length = 0 then _ else _
      rw [if_neg (by omega)]
