/-! copy -/
def iw (a n : Int32) : Int32 := if a < nI 0 then nI 0 else if n < nI 0 then nI 0 else if nI 20 < a then nI 0 else if nI 20 - a < n then nI 0 else nI 1
theorem f_iw {a n : Int32} {x : ab_X} {K : Int32 → Prop} : wX12_isWithin a n x K ↔ K (iw a n) := by
  have e0 : (0 : Int32) = nI 0 := rfl
  have e1 : (1 : Int32) = nI 1 := rfl
  have e2 : (20 : Int32) = nI 20 := rfl
  unfold wX12_isWithin iw
  rw [e0, e1, e2]
  by_cases h1 : a < nI 0
  · simp [h1]
  · by_cases h2 : n < nI 0
    · simp [h1, h2]
    · by_cases h3 : nI 20 < a
      · simp [h1, h2, h3]
      · by_cases h4 : nI 20 - a < n <;> simp [h1, h2, h3, h4]
theorem iw_n {a n : Int32} (h : jr n (nI 0) (nI 20) = nI 0) : iw a n = nI 0 := by
  unfold iw
  by_cases h1 : a < nI 0
  · rw [if_pos h1]
  · rw [if_neg h1]
    by_cases h2 : n < nI 0
    · rw [if_pos h2]
    · rw [if_neg h2]
      by_cases h3 : nI 20 < a
      · rw [if_pos h3]
      · rw [if_neg h3, if_pos]
        unfold jr at h
        rw [if_neg h2] at h
        by_cases h4 : nI 20 < n
        · obtain ⟨va, ha, rfl⟩ := nI_of h1
          rw [q_lt (by decide) ha] at h3
          rw [pk_sub (by omega)]
          have : nI (20 - va) ≤ nI 20 := nI_le (by omega) (by decide)
          rw [Int32.lt_iff_toInt_lt] at h4 ⊢
          rw [Int32.le_iff_toInt_le] at this
          omega
        · rw [if_neg h4] at h; exact absurd h (by decide)
theorem iw_a {a : Int32} {v : Nat} (hv : v ≤ 20) : iw a (nI v) = jr a (nI 0) (nI (20 - v)) := by
  unfold iw jr
  by_cases h1 : a < nI 0
  · rw [if_pos h1, if_pos h1]; rfl
  · rw [if_neg h1, if_neg h1, if_neg (nI_nlt (Nat.zero_le v) (by omega))]
    obtain ⟨va, ha, rfl⟩ := nI_of h1
    by_cases h2 : va ≤ 20
    · rw [if_neg (fun u => by rw [q_lt (by decide) ha] at u; omega), pk_sub h2]
      by_cases h3 : 20 - v < va
      · rw [if_pos ((q_lt (by omega) ha).mpr h3), if_pos ((q_lt (by omega) (by omega)).mpr (by omega))]; rfl
      · rw [if_neg (fun u => by rw [q_lt (by omega) (by omega)] at u; omega), if_neg (fun u => by rw [q_lt (by omega) (by omega)] at u; omega)]; rfl
    · rw [if_pos ((q_lt (by decide) ha).mpr (by omega)), if_pos ((q_lt (by omega) ha).mpr (by omega))]; rfl
theorem copy_ok {x z : ab_X} (h : InvA x) {f a t p n : Nat} (hf : f < nv x.1 246 116) (ht : t < nv x.1 246 116) (hkd : x.1 331 f = x.1 331 t) (hn : n ≤ 20) (ha : a ≤ 20 - n) (hp : p ≤ 20 - n) (chg : Chg x.1 z.1 [(245, 245)] [0] []) (c1 : ∀ j, z.1 245 j = if 20 * t + p ≤ j ∧ j < 20 * t + p + n then x.1 245 (20 * f + a + (j - (20 * t + p))) else x.1 245 j) (d1 : ∀ j, z.2.1 329 j = if 20 * t + p ≤ j ∧ j < 20 * t + p + n then x.2.1 329 (20 * f + a + (j - (20 * t + p))) else x.2.1 329 j) : InvA z := by
  have bn := h.2.b116
  refine InvA_chg h chg (Or.inl rfl) (Or.inl rfl) (Or.inl rfl) (Or.inl rfl) (Or.inl rfl) (Or.inl rfl) (Or.inl rfl) (Or.inl rfl) (Or.inl rfl) (Or.inl rfl) (Or.inr ?ro) (Or.inl rfl) (Or.inl rfl) (Or.inl rfl) (Or.inl rfl) (Or.inl rfl) (Or.inl rfl) (Or.inl rfl) (Or.inl rfl) (Or.inl rfl) (Or.inl rfl)
  obtain ⟨s1, s2, s3, s4⟩ := h.1.ro
  have e116 : z.1 246 116 = x.1 246 116 := chg.2.1 116 (by simp)
  have n116 : nv z.1 246 116 = nv x.1 246 116 := by unfold nv; rw [e116]
  have o : ∀ d, d = 243 ∨ d = 244 ∨ d = 331 ∨ d = 332 → z.1 d = x.1 d := fun d q => chg.1 d (by omega) (by unfold scC; omega) (by intro p hp; simp at hp; subst hp; simp; omega)
  refine ⟨fun k q => ?_, fun k q => ?_, fun k q => ?_, fun k q q' i hi => ?_⟩
  · rw [n116] at q
    obtain ⟨a1, a2, a3⟩ := s1 k q
    unfold nbd nv at a2 ⊢
    rw [o 243 (by omega), o 331 (by omega)]
    refine ⟨a1, a2, fun i hi => ?_⟩
    rw [c1, d1]
    by_cases e : 20 * t + p ≤ 20 * k + i ∧ 20 * k + i < 20 * t + p + n
    · have e1 : k = t := by omega
      subst e1
      rw [if_pos e, if_pos e, show 20 * f + a + (20 * k + i - (20 * k + p)) = 20 * f + (a + (i - p)) by omega]
      have := (s1 f hf).2.2 (a + (i - p)) (by omega)
      rw [hkd] at this
      exact this
    · rw [if_neg e, if_neg e]; exact a3 i hi
  · rw [o 244 (by omega), o 332 (by omega)]; exact s2 k q
  · rw [c1]
    split
    · exact s3 _ (by omega)
    · exact s3 k q
  · rw [n116] at q
    rw [c1, d1, if_neg (by omega), if_neg (by omega)]
    exact s4 k q q' i hi
theorem m_cp {x : ab_X} {f a t p n : Nat} (hf : f < 6) (ht : t < 6) (hn : n ≤ 20) (ha : a ≤ 20 - n) (hp : p ≤ 20 - n) {K : Int32 → ab_X → Prop} (k : ∀ z : ab_X, z.1 = x.1 → (∀ j, z.2.1 329 j = if 20 * t + p ≤ j ∧ j < 20 * t + p + n then x.2.1 329 (20 * f + a + (j - (20 * t + p))) else x.2.1 329 j) → K (nI 0) z) : Lp2 (lX12_copy_84 (nI f) (nI a) (nI t) (nI p) (nI n) K) 0 x := by
  refine Lp2.ind (fun i b y => ∃ s, s ≤ n ∧ i = n - s ∧ b = nI s ∧ y.1 = x.1 ∧ y.2.1 329 = x.2.1 329 ∧ ∀ j, j < s → y.2.1 330 j = x.2.1 329 (20 * f + a + j)) n ⟨0, by omega, by omega, rfl, rfl, rfl, fun j hj => by omega⟩ ?_
  rintro i b y ⟨s, hs, rfl, rfl, g1, g2, g3⟩ L hL
  unfold lX12_copy_84
  by_cases e : s = n
  · subst e
    simp (disch := first | assumption | omega) only [prv_n, nxt_n, q_sw, mc4, mc6, mc8, mc20, mc24, mc100, nv_rd, nb_rd, wr_rd, nI_lit, nI_add, pk_mul, pk_sub, q_div, cl_nI, vpi, q_eq, q_le, q_lt, n1_eq, n1_eq', n1_le, n1_lt, n1_ge, n1_gt, i_0m1, nlt_t, nlt_f, nle_t, nle_f, neq_f, f_below, f_within, f_isCorner, f_isIn, f_isCornerM, f_isStreet, f_isHouse, f_isCrew, f_isRow, f_has10, f_has0, jx_I, jx_N, jx_m1, jr_I, jr_N1, jr_N2, wr_2, isB_0, isB_1, true_and, and_true, and_self, false_and, and_false, true_or, or_true, false_or, or_false, not_true_eq_false, not_false_eq_true, forall_const, implies_true, false_implies, ne_eq, eq_self, if_true, if_false, Nat.zero_add, Nat.add_zero, Nat.mul_zero, Nat.zero_mul, Nat.mul_one, Nat.one_mul, Nat.add_sub_cancel, Nat.reduceEqDiff, Nat.reduceAdd, Nat.reduceMul, Nat.reduceSub, Nat.reduceLeDiff, Nat.reduceLT, Nat.reduceDiv, Nat.reduceMod]
    refine Lp2.ind (fun i b z => ∃ u, u ≤ s ∧ i = s - u ∧ b = nI u ∧ z.1 = x.1 ∧ z.2.1 330 = y.2.1 330 ∧ ∀ j, z.2.1 329 j = if 20 * t + p ≤ j ∧ j < 20 * t + p + u then x.2.1 329 (20 * f + a + (j - (20 * t + p))) else x.2.1 329 j) s ⟨0, by omega, by omega, rfl, g1, rfl, fun j => by rw [if_neg (by omega), g2]⟩ ?_
    rintro i b z ⟨u, hu, rfl, rfl, z1, z2, z3⟩ L2 hL2
    unfold lX12_copy_121
    by_cases e : u = s
    · subst e
      simp (disch := first | assumption | omega) only [prv_n, nxt_n, q_sw, mc4, mc6, mc8, mc20, mc24, mc100, nv_rd, nb_rd, wr_rd, nI_lit, nI_add, pk_mul, pk_sub, q_div, cl_nI, vpi, q_eq, q_le, q_lt, n1_eq, n1_eq', n1_le, n1_lt, n1_ge, n1_gt, i_0m1, nlt_t, nlt_f, nle_t, nle_f, neq_f, f_below, f_within, f_isCorner, f_isIn, f_isCornerM, f_isStreet, f_isHouse, f_isCrew, f_isRow, f_has10, f_has0, jx_I, jx_N, jx_m1, jr_I, jr_N1, jr_N2, wr_2, isB_0, isB_1, true_and, and_true, and_self, false_and, and_false, true_or, or_true, false_or, or_false, not_true_eq_false, not_false_eq_true, forall_const, implies_true, false_implies, ne_eq, eq_self, if_true, if_false, Nat.zero_add, Nat.add_zero, Nat.mul_zero, Nat.zero_mul, Nat.mul_one, Nat.one_mul, Nat.add_sub_cancel, Nat.reduceEqDiff, Nat.reduceAdd, Nat.reduceMul, Nat.reduceSub, Nat.reduceLeDiff, Nat.reduceLT, Nat.reduceDiv, Nat.reduceMod]
      exact k z z1 z3
    · simp (disch := first | assumption | omega) only [prv_n, nxt_n, q_sw, mc4, mc6, mc8, mc20, mc24, mc100, nv_rd, nb_rd, wr_rd, nI_lit, nI_add, pk_mul, pk_sub, q_div, cl_nI, vpi, q_eq, q_le, q_lt, n1_eq, n1_eq', n1_le, n1_lt, n1_ge, n1_gt, i_0m1, nlt_t, nlt_f, nle_t, nle_f, neq_f, f_below, f_within, f_isCorner, f_isIn, f_isCornerM, f_isStreet, f_isHouse, f_isCrew, f_isRow, f_has10, f_has0, jx_I, jx_N, jx_m1, jr_I, jr_N1, jr_N2, wr_2, isB_0, isB_1, true_and, and_true, and_self, false_and, and_false, true_or, or_true, false_or, or_false, not_true_eq_false, not_false_eq_true, forall_const, implies_true, false_implies, ne_eq, eq_self, if_true, if_false, Nat.zero_add, Nat.add_zero, Nat.mul_zero, Nat.zero_mul, Nat.mul_one, Nat.one_mul, Nat.add_sub_cancel, Nat.reduceEqDiff, Nat.reduceAdd, Nat.reduceMul, Nat.reduceSub, Nat.reduceLeDiff, Nat.reduceLT, Nat.reduceDiv, Nat.reduceMod]
      refine hL2 _ _ _ (by omega) ⟨u + 1, by omega, rfl, rfl, z1, ?_, fun j => ?_⟩
      · rw [wrd_n (by decide)]; exact z2
      · by_cases q : j = 20 * t + p + u
        · subst q
          rw [wrd_e, z2, g3 u (by omega), if_pos (by omega), show 20 * t + p + u - (20 * t + p) = u by omega]
        · rw [wrd_k q, z3]
          by_cases q2 : 20 * t + p ≤ j ∧ j < 20 * t + p + u
          · rw [if_pos q2, if_pos (by omega)]
          · rw [if_neg q2, if_neg (by omega)]
  · simp (disch := first | assumption | omega) only [prv_n, nxt_n, q_sw, mc4, mc6, mc8, mc20, mc24, mc100, nv_rd, nb_rd, wr_rd, nI_lit, nI_add, pk_mul, pk_sub, q_div, cl_nI, vpi, q_eq, q_le, q_lt, n1_eq, n1_eq', n1_le, n1_lt, n1_ge, n1_gt, i_0m1, nlt_t, nlt_f, nle_t, nle_f, neq_f, f_below, f_within, f_isCorner, f_isIn, f_isCornerM, f_isStreet, f_isHouse, f_isCrew, f_isRow, f_has10, f_has0, jx_I, jx_N, jx_m1, jr_I, jr_N1, jr_N2, wr_2, isB_0, isB_1, true_and, and_true, and_self, false_and, and_false, true_or, or_true, false_or, or_false, not_true_eq_false, not_false_eq_true, forall_const, implies_true, false_implies, ne_eq, eq_self, if_true, if_false, Nat.zero_add, Nat.add_zero, Nat.mul_zero, Nat.zero_mul, Nat.mul_one, Nat.one_mul, Nat.add_sub_cancel, Nat.reduceEqDiff, Nat.reduceAdd, Nat.reduceMul, Nat.reduceSub, Nat.reduceLeDiff, Nat.reduceLT, Nat.reduceDiv, Nat.reduceMod]
    refine hL _ _ _ (by omega) ⟨s + 1, by omega, rfl, rfl, g1, ?_, fun j hj => ?_⟩
    · rw [wrd_n (by decide)]; exact g2
    · by_cases q : j = s
      · subst q; rw [wrd_e, g2]
      · rw [wrd_k q]; exact g3 j (by omega)
theorem p_copy {x : ab_X} {a b c d e : Int32} (h : InvA x) {K : ab_X → Prop} (hk : ∀ z, InvA z → keepT x.1 z.1 → K z) :
    wX11_copy a b c d e x (fun r y => wX12_copy a b c d e y (fun r' z => r = r' ∧ K z)) := by
  have bn := h.2.b116
  unfold wX11_copy
  rcases jx_d a (n := nv x.1 246 116) (by omega) with e1 | ⟨f, hf, rfl⟩
  · unfold wX12_copy
    simp (disch := first | assumption | omega) only [prv_n, nxt_n, q_sw, mc4, mc6, mc8, mc20, mc24, mc100, nv_rd, nb_rd, wr_rd, nI_lit, nI_add, pk_mul, pk_sub, q_div, cl_nI, vpi, q_eq, q_le, q_lt, n1_eq, n1_eq', n1_le, n1_lt, n1_ge, n1_gt, i_0m1, nlt_t, nlt_f, nle_t, nle_f, neq_f, f_below, f_within, f_isCorner, f_isIn, f_isCornerM, f_isStreet, f_isHouse, f_isCrew, f_isRow, f_has10, f_has0, jx_I, jx_N, jx_m1, jr_I, jr_N1, jr_N2, wr_2, isB_0, isB_1, true_and, and_true, and_self, false_and, and_false, true_or, or_true, false_or, or_false, not_true_eq_false, not_false_eq_true, forall_const, implies_true, false_implies, ne_eq, eq_self, if_true, if_false, Nat.zero_add, Nat.add_zero, Nat.mul_zero, Nat.zero_mul, Nat.mul_one, Nat.one_mul, Nat.add_sub_cancel, Nat.reduceEqDiff, Nat.reduceAdd, Nat.reduceMul, Nat.reduceSub, Nat.reduceLeDiff, Nat.reduceLT, Nat.reduceDiv, Nat.reduceMod, h.1.s116, h.2.v116, e1]
    exact hk _ (InvA_th h) keepT_th
  rcases jx_d c (n := nv x.1 246 116) (by omega) with e1 | ⟨t, ht, rfl⟩
  · unfold wX12_copy
    simp (disch := first | assumption | omega) only [prv_n, nxt_n, q_sw, mc4, mc6, mc8, mc20, mc24, mc100, nv_rd, nb_rd, wr_rd, nI_lit, nI_add, pk_mul, pk_sub, q_div, cl_nI, vpi, q_eq, q_le, q_lt, n1_eq, n1_eq', n1_le, n1_lt, n1_ge, n1_gt, i_0m1, nlt_t, nlt_f, nle_t, nle_f, neq_f, f_below, f_within, f_isCorner, f_isIn, f_isCornerM, f_isStreet, f_isHouse, f_isCrew, f_isRow, f_has10, f_has0, jx_I, jx_N, jx_m1, jr_I, jr_N1, jr_N2, wr_2, isB_0, isB_1, true_and, and_true, and_self, false_and, and_false, true_or, or_true, false_or, or_false, not_true_eq_false, not_false_eq_true, forall_const, implies_true, false_implies, ne_eq, eq_self, if_true, if_false, Nat.zero_add, Nat.add_zero, Nat.mul_zero, Nat.zero_mul, Nat.mul_one, Nat.one_mul, Nat.add_sub_cancel, Nat.reduceEqDiff, Nat.reduceAdd, Nat.reduceMul, Nat.reduceSub, Nat.reduceLeDiff, Nat.reduceLT, Nat.reduceDiv, Nat.reduceMod, h.1.s116, h.2.v116, e1]
    exact hk _ (InvA_th h) keepT_th
  have s1 := h.1.ro.2.1 f (by omega)
  have s2 := h.1.ro.2.1 t (by omega)
  by_cases q1 : x.1 332 f = nI 0
  case neg =>
    unfold wX12_copy
    simp (disch := first | assumption | omega) only [prv_n, nxt_n, q_sw, mc4, mc6, mc8, mc20, mc24, mc100, nv_rd, nb_rd, wr_rd, nI_lit, nI_add, pk_mul, pk_sub, q_div, cl_nI, vpi, q_eq, q_le, q_lt, n1_eq, n1_eq', n1_le, n1_lt, n1_ge, n1_gt, i_0m1, nlt_t, nlt_f, nle_t, nle_f, neq_f, f_below, f_within, f_isCorner, f_isIn, f_isCornerM, f_isStreet, f_isHouse, f_isCrew, f_isRow, f_has10, f_has0, jx_I, jx_N, jx_m1, jr_I, jr_N1, jr_N2, wr_2, isB_0, isB_1, true_and, and_true, and_self, false_and, and_false, true_or, or_true, false_or, or_false, not_true_eq_false, not_false_eq_true, forall_const, implies_true, false_implies, ne_eq, eq_self, if_true, if_false, Nat.zero_add, Nat.add_zero, Nat.mul_zero, Nat.zero_mul, Nat.mul_one, Nat.one_mul, Nat.add_sub_cancel, Nat.reduceEqDiff, Nat.reduceAdd, Nat.reduceMul, Nat.reduceSub, Nat.reduceLeDiff, Nat.reduceLT, Nat.reduceDiv, Nat.reduceMod, h.1.s116, h.2.v116, s1.1, q1]
    exact hk _ (InvA_th h) keepT_th
  by_cases q2 : x.1 332 t = nI 0
  case neg =>
    unfold wX12_copy
    simp (disch := first | assumption | omega) only [prv_n, nxt_n, q_sw, mc4, mc6, mc8, mc20, mc24, mc100, nv_rd, nb_rd, wr_rd, nI_lit, nI_add, pk_mul, pk_sub, q_div, cl_nI, vpi, q_eq, q_le, q_lt, n1_eq, n1_eq', n1_le, n1_lt, n1_ge, n1_gt, i_0m1, nlt_t, nlt_f, nle_t, nle_f, neq_f, f_below, f_within, f_isCorner, f_isIn, f_isCornerM, f_isStreet, f_isHouse, f_isCrew, f_isRow, f_has10, f_has0, jx_I, jx_N, jx_m1, jr_I, jr_N1, jr_N2, wr_2, isB_0, isB_1, true_and, and_true, and_self, false_and, and_false, true_or, or_true, false_or, or_false, not_true_eq_false, not_false_eq_true, forall_const, implies_true, false_implies, ne_eq, eq_self, if_true, if_false, Nat.zero_add, Nat.add_zero, Nat.mul_zero, Nat.zero_mul, Nat.mul_one, Nat.one_mul, Nat.add_sub_cancel, Nat.reduceEqDiff, Nat.reduceAdd, Nat.reduceMul, Nat.reduceSub, Nat.reduceLeDiff, Nat.reduceLT, Nat.reduceDiv, Nat.reduceMod, h.1.s116, h.2.v116, s1.1, s2.1, q1, q2]
    exact hk _ (InvA_th h) keepT_th
  have k1 := (h.1.ro.1 f hf).1
  have k2 := (h.1.ro.1 t ht).1
  by_cases q3 : x.1 331 f = x.1 331 t
  case neg =>
    unfold wX12_copy
    simp (disch := first | assumption | omega) only [prv_n, nxt_n, q_sw, mc4, mc6, mc8, mc20, mc24, mc100, nv_rd, nb_rd, wr_rd, nI_lit, nI_add, pk_mul, pk_sub, q_div, cl_nI, vpi, q_eq, q_le, q_lt, n1_eq, n1_eq', n1_le, n1_lt, n1_ge, n1_gt, i_0m1, nlt_t, nlt_f, nle_t, nle_f, neq_f, f_below, f_within, f_isCorner, f_isIn, f_isCornerM, f_isStreet, f_isHouse, f_isCrew, f_isRow, f_has10, f_has0, jx_I, jx_N, jx_m1, jr_I, jr_N1, jr_N2, wr_2, isB_0, isB_1, true_and, and_true, and_self, false_and, and_false, true_or, or_true, false_or, or_false, not_true_eq_false, not_false_eq_true, forall_const, implies_true, false_implies, ne_eq, eq_self, if_true, if_false, Nat.zero_add, Nat.add_zero, Nat.mul_zero, Nat.zero_mul, Nat.mul_one, Nat.one_mul, Nat.add_sub_cancel, Nat.reduceEqDiff, Nat.reduceAdd, Nat.reduceMul, Nat.reduceSub, Nat.reduceLeDiff, Nat.reduceLT, Nat.reduceDiv, Nat.reduceMod, h.1.s116, h.2.v116, s1.1, s2.1, q1, q2, k1, k2, q3]
    exact hk _ (InvA_th h) keepT_th
  rcases jr_d e (lo := 0) (hi := 20) (by omega) (by omega) with e1 | ⟨n, -, hn, rfl⟩
  · have w1 : iw b e = nI 0 := iw_n e1
    unfold wX12_copy
    simp (disch := first | assumption | omega) only [prv_n, nxt_n, q_sw, mc4, mc6, mc8, mc20, mc24, mc100, nv_rd, nb_rd, wr_rd, nI_lit, nI_add, pk_mul, pk_sub, q_div, cl_nI, vpi, q_eq, q_le, q_lt, n1_eq, n1_eq', n1_le, n1_lt, n1_ge, n1_gt, i_0m1, nlt_t, nlt_f, nle_t, nle_f, neq_f, f_below, f_within, f_isCorner, f_isIn, f_isCornerM, f_isStreet, f_isHouse, f_isCrew, f_isRow, f_has10, f_has0, jx_I, jx_N, jx_m1, jr_I, jr_N1, jr_N2, wr_2, isB_0, isB_1, true_and, and_true, and_self, false_and, and_false, true_or, or_true, false_or, or_false, not_true_eq_false, not_false_eq_true, forall_const, implies_true, false_implies, ne_eq, eq_self, if_true, if_false, Nat.zero_add, Nat.add_zero, Nat.mul_zero, Nat.zero_mul, Nat.mul_one, Nat.one_mul, Nat.add_sub_cancel, Nat.reduceEqDiff, Nat.reduceAdd, Nat.reduceMul, Nat.reduceSub, Nat.reduceLeDiff, Nat.reduceLT, Nat.reduceDiv, Nat.reduceMod, h.1.s116, h.2.v116, s1.1, s2.1, q1, q2, k1, k2, q3, e1, f_iw, w1]
    exact hk _ (InvA_th h) keepT_th
  have w1 := iw_a (a := b) hn
  have w2 := iw_a (a := d) hn
  rcases jr_d b (lo := 0) (hi := 20 - n) (by omega) (by omega) with e1 | ⟨va, -, ha, rfl⟩
  · unfold wX12_copy
    simp (disch := first | assumption | omega) only [prv_n, nxt_n, q_sw, mc4, mc6, mc8, mc20, mc24, mc100, nv_rd, nb_rd, wr_rd, nI_lit, nI_add, pk_mul, pk_sub, q_div, cl_nI, vpi, q_eq, q_le, q_lt, n1_eq, n1_eq', n1_le, n1_lt, n1_ge, n1_gt, i_0m1, nlt_t, nlt_f, nle_t, nle_f, neq_f, f_below, f_within, f_isCorner, f_isIn, f_isCornerM, f_isStreet, f_isHouse, f_isCrew, f_isRow, f_has10, f_has0, jx_I, jx_N, jx_m1, jr_I, jr_N1, jr_N2, wr_2, isB_0, isB_1, true_and, and_true, and_self, false_and, and_false, true_or, or_true, false_or, or_false, not_true_eq_false, not_false_eq_true, forall_const, implies_true, false_implies, ne_eq, eq_self, if_true, if_false, Nat.zero_add, Nat.add_zero, Nat.mul_zero, Nat.zero_mul, Nat.mul_one, Nat.one_mul, Nat.add_sub_cancel, Nat.reduceEqDiff, Nat.reduceAdd, Nat.reduceMul, Nat.reduceSub, Nat.reduceLeDiff, Nat.reduceLT, Nat.reduceDiv, Nat.reduceMod, h.1.s116, h.2.v116, s1.1, s2.1, q1, q2, k1, k2, q3, e1, f_iw, w1]
    exact hk _ (InvA_th h) keepT_th
  rcases jr_d d (lo := 0) (hi := 20 - n) (by omega) (by omega) with e1 | ⟨vp, -, hp, rfl⟩
  · unfold wX12_copy
    simp (disch := first | assumption | omega) only [prv_n, nxt_n, q_sw, mc4, mc6, mc8, mc20, mc24, mc100, nv_rd, nb_rd, wr_rd, nI_lit, nI_add, pk_mul, pk_sub, q_div, cl_nI, vpi, q_eq, q_le, q_lt, n1_eq, n1_eq', n1_le, n1_lt, n1_ge, n1_gt, i_0m1, nlt_t, nlt_f, nle_t, nle_f, neq_f, f_below, f_within, f_isCorner, f_isIn, f_isCornerM, f_isStreet, f_isHouse, f_isCrew, f_isRow, f_has10, f_has0, jx_I, jx_N, jx_m1, jr_I, jr_N1, jr_N2, wr_2, isB_0, isB_1, true_and, and_true, and_self, false_and, and_false, true_or, or_true, false_or, or_false, not_true_eq_false, not_false_eq_true, forall_const, implies_true, false_implies, ne_eq, eq_self, if_true, if_false, Nat.zero_add, Nat.add_zero, Nat.mul_zero, Nat.zero_mul, Nat.mul_one, Nat.one_mul, Nat.add_sub_cancel, Nat.reduceEqDiff, Nat.reduceAdd, Nat.reduceMul, Nat.reduceSub, Nat.reduceLeDiff, Nat.reduceLT, Nat.reduceDiv, Nat.reduceMod, h.1.s116, h.2.v116, s1.1, s2.1, q1, q2, k1, k2, q3, e1, f_iw, w1, w2]
    exact hk _ (InvA_th h) keepT_th
  simp (disch := first | assumption | omega) only [prv_n, nxt_n, q_sw, mc4, mc6, mc8, mc20, mc24, mc100, nv_rd, nb_rd, wr_rd, nI_lit, nI_add, pk_mul, pk_sub, q_div, cl_nI, vpi, q_eq, q_le, q_lt, n1_eq, n1_eq', n1_le, n1_lt, n1_ge, n1_gt, i_0m1, nlt_t, nlt_f, nle_t, nle_f, neq_f, f_below, f_within, f_isCorner, f_isIn, f_isCornerM, f_isStreet, f_isHouse, f_isCrew, f_isRow, f_has10, f_has0, jx_I, jx_N, jx_m1, jr_I, jr_N1, jr_N2, wr_2, isB_0, isB_1, true_and, and_true, and_self, false_and, and_false, true_or, or_true, false_or, or_false, not_true_eq_false, not_false_eq_true, forall_const, implies_true, false_implies, ne_eq, eq_self, if_true, if_false, Nat.zero_add, Nat.add_zero, Nat.mul_zero, Nat.zero_mul, Nat.mul_one, Nat.one_mul, Nat.add_sub_cancel, Nat.reduceEqDiff, Nat.reduceAdd, Nat.reduceMul, Nat.reduceSub, Nat.reduceLeDiff, Nat.reduceLT, Nat.reduceDiv, Nat.reduceMod, h.1.s116, h.2.v116, s1.1, s2.1, q1, q2, k1, k2, q3]
  have ws : ∀ (g : Nat → Int32) (c' : Nat), c' ≠ 245 → (wrA x 245 g).1 c' = x.1 c' := fun g c' hc => if_neg hc
  have we : ∀ (g : Nat → Int32), (wrA x 245 g).1 245 = g := fun g => by unfold wrA; simp
  have y245 : ∀ j, (wrA x 245 (va_cpy (x.1 245) (x.1 245) (20 * f + va) (20 * t + vp) n)).1 245 j = if 20 * t + vp ≤ j ∧ j < 20 * t + vp + n then x.1 245 (20 * f + va + (j - (20 * t + vp))) else x.1 245 j := by
    intro j
    rw [we]
    by_cases q : 20 * t + vp ≤ j ∧ j < 20 * t + vp + n
    · rw [if_pos q]; exact pk_cpy_in q.1 q.2
    · rw [if_neg q]; exact pk_cpy_out (by omega)
  have yo := ws (va_cpy (x.1 245) (x.1 245) (20 * f + va) (20 * t + vp) n)
  have y2 : (wrA x 245 (va_cpy (x.1 245) (x.1 245) (20 * f + va) (20 * t + vp) n)).2 = x.2 := rfl
  generalize wrA x 245 (va_cpy (x.1 245) (x.1 245) (20 * f + va) (20 * t + vp) n) = y at y245 yo y2
  unfold wX12_copy
  have r116 : y.1 246 116 = nI (nv x.1 246 116) := by rw [yo 246 (by decide), h.2.v116]
  rw [jr_I (by omega) ha (by omega)] at w1
  rw [jr_I (by omega) hp (by omega)] at w2
  simp (disch := first | assumption | omega) only [prv_n, nxt_n, q_sw, mc4, mc6, mc8, mc20, mc24, mc100, nv_rd, nb_rd, wr_rd, nI_lit, nI_add, pk_mul, pk_sub, q_div, cl_nI, vpi, q_eq, q_le, q_lt, n1_eq, n1_eq', n1_le, n1_lt, n1_ge, n1_gt, i_0m1, nlt_t, nlt_f, nle_t, nle_f, neq_f, f_below, f_within, f_isCorner, f_isIn, f_isCornerM, f_isStreet, f_isHouse, f_isCrew, f_isRow, f_has10, f_has0, jx_I, jx_N, jx_m1, jr_I, jr_N1, jr_N2, wr_2, isB_0, isB_1, true_and, and_true, and_self, false_and, and_false, true_or, or_true, false_or, or_false, not_true_eq_false, not_false_eq_true, forall_const, implies_true, false_implies, ne_eq, eq_self, if_true, if_false, Nat.zero_add, Nat.add_zero, Nat.mul_zero, Nat.zero_mul, Nat.mul_one, Nat.one_mul, Nat.add_sub_cancel, Nat.reduceEqDiff, Nat.reduceAdd, Nat.reduceMul, Nat.reduceSub, Nat.reduceLeDiff, Nat.reduceLT, Nat.reduceDiv, Nat.reduceMod, r116, yo 332 (by decide), yo 331 (by decide), q1, q2, q3, f_iw, w1, w2]
  refine m_cp (by omega) (by omega) hn ha hp (fun z z1 z2 => ⟨rfl, hk z ?_ ?_⟩)
  · refine copy_ok h hf ht q3 hn ha hp ⟨fun c p q r => ?_, fun g p => ?_, fun c g p q => ?_⟩ (fun j => ?_) (fun j => ?_)
    · have r0 : c < 245 ∨ 245 < c := r (245, 245) (by simp)
      rw [z1, wr_n (by omega)]; exact yo c (by omega)
    · have s0 : g ≠ 0 := fun e => p (by rw [e]; simp)
      rw [z1, wr_k s0, yo 246 (by decide)]
    · unfold scC at p
      rw [z1, wr_n (by omega), yo c (by omega)]
    · rw [z1, wr_n (by decide)]; exact y245 j
    · rw [z2]
      show (if _ then y.2.1 329 _ else y.2.1 329 _) = _
      rw [y2]
  · intro c k q
    unfold tk at q
    rw [z1, wr_ne (by omega), yo c (by omega)]
