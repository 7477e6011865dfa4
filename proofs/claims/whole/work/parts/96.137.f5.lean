/-! street -/
def Dx (Y : Nat → Nat → Int32) (a b : Nat) : Nat := nv Y 251 (20 * a + b)
theorem Dx_mt {Y : Nat → Nat → Int32} (w : WW Y) : Mt (Dx Y) := ⟨w.wk.2.1, w.wk.2.2.1, w.wk.2.2.2⟩
theorem street_new {x z : ab_X} {f t m : Nat} (h : InvA x) (hn : nv x.1 246 9 < 40) (hf : f < 20) (ht : t < 20) (hm : 1 ≤ m) (hm2 : m ≤ 20) (chg : Chg x.1 z.1 [(2, 4), (7, 7), (247, 251)] [0, 9] [(1, 7)]) (hD : z.2.1 329 = x.2.1 329) (s9 : z.1 246 9 = nI (nv x.1 246 9 + 1)) (c7 : z.1 1 7 = nI (nv x.1 246 9 + 1))
    (p2 : ∀ k, z.1 2 k = if k = nv x.1 246 9 then nI f else x.1 2 k) (p3 : ∀ k, z.1 3 k = if k = nv x.1 246 9 then nI t else x.1 3 k) (p4 : ∀ k, z.1 4 k = if k = nv x.1 246 9 then nI m else x.1 4 k)
    (m2 : ∀ k, z.1 247 k = if k = nv x.1 246 9 then nI f else x.1 247 k) (m3 : ∀ k, z.1 248 k = if k = nv x.1 246 9 then nI t else x.1 248 k) (m4 : ∀ k, z.1 249 k = if k = nv x.1 246 9 then nI m else x.1 249 k)
    (m5 : ∀ k, z.1 250 k = if 4 * nv x.1 246 9 ≤ k ∧ k < 4 * nv x.1 246 9 + 4 then nI 100 else x.1 250 k) (w7 : Wt 7 z (Dn (Dx x.1) f t m)) (w251 : Wt 251 z (Dn (Dx x.1) f t m)) : InvA z := by
  generalize en0 : nv x.1 246 9 = n at *
  have en : nv z.1 246 9 = n + 1 := nv_of s9 (by omega)
  have sc : ∀ f, f ≠ 0 → f ≠ 9 → z.1 246 f = x.1 246 f := fun f p q => chg.2.1 f (by simp [p, q])
  have cs : ∀ i f, scC i → (i ≠ 1 ∨ f ≠ 7) → z.1 i f = x.1 i f := fun i f p q => chg.2.2 i f p (by simp; omega)
  have o : ∀ d, d = 5 ∨ d = 6 ∨ d = 252 → z.1 d = x.1 d := fun d q => chg.1 d (by omega) (by unfold scC; omega) (by intro p hp; simp at hp; rcases hp with rfl | rfl | rfl <;> simp <;> omega)
  obtain ⟨⟨d1, d2, d3⟩, -, -⟩ := Dn_mt (m := m) (Dx_mt h.2) hf ht
  have dle : ∀ a b, a < 20 → b < 20 → Dn (Dx x.1) f t m a b ≤ 1000000 := fun a b ha hb => Nat.le_trans (Dn_le _ _ _ _ _ _) (h.2.wk.1 (20 * a + b) (by omega)).2
  have wv : ∀ a b, a < 20 → b < 20 → nv z.1 251 (20 * a + b) = Dn (Dx x.1) f t m a b := fun a b ha hb => nv_of (w251 a b ha hb) (by have := dle a b ha hb; omega)
  refine InvA_chg h chg (Or.inr ?sc) (Or.inr ?st) (Or.inl rfl) (Or.inl rfl) (Or.inl rfl) (Or.inl rfl) (Or.inl rfl) (Or.inl rfl) (Or.inl rfl) (Or.inl rfl) (Or.inl ⟨rfl, hD⟩) (Or.inr ?wsc) (Or.inr ?wst) (Or.inr ?wwk) (Or.inl rfl) (Or.inl rfl) (Or.inl rfl) (Or.inl rfl) (Or.inl rfl) (Or.inl rfl) (Or.inl rfl)
  case sc =>
    unfold Rsc
    rw [s9, c7, cs 9 2 (by unfold scC; omega) (by omega), cs 9 6 (by unfold scC; omega) (by omega), cs 9 9 (by unfold scC; omega) (by omega), cs 66 3 (by unfold scC; omega) (by omega), cs 66 5 (by unfold scC; omega) (by omega), cs 66 7 (by unfold scC; omega) (by omega), cs 66 12 (by unfold scC; omega) (by omega), cs 158 1 (by unfold scC; omega) (by omega), cs 165 4 (by unfold scC; omega) (by omega), cs 165 9 (by unfold scC; omega) (by omega), cs 0 9 (by unfold scC; omega) (by omega)]
    rw [sc 31 (by decide) (by decide), sc 56 (by decide) (by decide), sc 57 (by decide) (by decide), sc 58 (by decide) (by decide), sc 92 (by decide) (by decide), sc 71 (by decide) (by decide), sc 1 (by decide) (by decide), sc 70 (by decide) (by decide), sc 72 (by decide) (by decide), sc 99 (by decide) (by decide), sc 116 (by decide) (by decide)]
    exact ⟨rfl, h.1.s31, h.1.s56, h.1.s57, h.1.s58, h.1.s92, h.1.s71, h.1.s1, h.1.s70, h.1.s72, h.1.s99, h.1.s116⟩
  case wsc =>
    have keep : ∀ f b, f ≠ 0 → f ≠ 9 → nbd x.1 246 f b → nbd z.1 246 f b := fun f b p q u => by unfold nbd nv at u ⊢; rw [sc f p q]; exact u
    obtain ⟨w1, w2, w3, w4, w5, w6, w7, w8, w9, w10, w11, w12⟩ := h.2.sc
    exact ⟨nb_of s9 (by omega) (by decide), keep _ _ (by decide) (by decide) w2, keep _ _ (by decide) (by decide) w3, keep _ _ (by decide) (by decide) w4, keep _ _ (by decide) (by decide) w5, keep _ _ (by decide) (by decide) w6, keep _ _ (by decide) (by decide) w7, keep _ _ (by decide) (by decide) w8, keep _ _ (by decide) (by decide) w9, keep _ _ (by decide) (by decide) w10, keep _ _ (by decide) (by decide) w11, keep _ _ (by decide) (by decide) w12⟩
  case st =>
    obtain ⟨s1, s2, s3, s4, s5⟩ := h.1.st
    rw [en0] at s1 s3 s4
    refine ⟨fun k p => ?_, fun k p => ?_, fun k p => ?_, fun k p p' => ?_, fun k p => ?_⟩
    · rw [en] at p
      rw [p2, p3, p4, m2, m3, m4]
      by_cases e : k = n
      · simp [e]
      · simp only [e, if_false]; exact s1 k (by omega)
    · rw [o 5 (by omega), o 252 (by omega)]; exact s2 k p
    · rw [en] at p
      rw [o 6 (by omega), m5]
      by_cases e : 4 * n ≤ k ∧ k < 4 * n + 4
      · rw [if_pos e]; exact s4 k e.1 (by omega)
      · rw [if_neg e]; exact s3 k (by omega)
    · rw [en] at p
      rw [o 6 (by omega)]; exact s4 k (by omega) p'
    · have e : k = 20 * (k / 20) + k % 20 := by omega
      rw [e, w7 _ _ (by omega) (by omega), w251 _ _ (by omega) (by omega)]
  case wst =>
    obtain ⟨s1, s2, s3⟩ := h.2.st
    rw [en0] at s1 s3
    have nbk : ∀ d k b, z.1 d k = x.1 d k → nbd x.1 d k b → nbd z.1 d k b := fun d k b e u => by unfold nbd nv at u ⊢; rw [e]; exact u
    refine ⟨fun k p => ?_, fun k p => ?_, fun k p => ?_⟩
    · rw [en] at p
      by_cases e : k = n
      · subst e
        have e4 : z.1 249 k = nI m := by rw [m4, if_pos rfl]
        exact ⟨nb_of (by rw [m2, if_pos rfl]) (show f ≤ 19 by omega) (by decide), nb_of (by rw [m3, if_pos rfl]) (show t ≤ 19 by omega) (by decide), nb_of e4 hm2 (by decide), by rw [nv_of e4 (by omega)]; exact hm⟩
      · obtain ⟨a1, a2, a3, a4⟩ := s1 k (by omega)
        have e4 : z.1 249 k = x.1 249 k := by rw [m4, if_neg e]
        exact ⟨nbk _ _ _ (by rw [m2, if_neg e]) a1, nbk _ _ _ (by rw [m3, if_neg e]) a2, nbk _ _ _ e4 a3, by unfold nv at a4 ⊢; rw [e4]; exact a4⟩
    · rw [o 252 (by omega)]; exact s2 k p
    · rw [en] at p
      by_cases e : 4 * n ≤ k ∧ k < 4 * n + 4
      · have e5 : z.1 250 k = nI 100 := by rw [m5, if_pos e]
        exact ⟨nb_of e5 (by decide) (by decide), by rw [nv_of e5 (by decide)]; decide⟩
      · have e5 : z.1 250 k = x.1 250 k := by rw [m5, if_neg e]
        obtain ⟨a1, a2⟩ := s3 k (by omega)
        exact ⟨nbk _ _ _ e5 a1, by unfold nv at a2 ⊢; rw [e5]; exact a2⟩
  case wwk =>
    refine ⟨fun k p => ?_, fun a ha => ?_, fun a b ha hb => ?_, fun a b c ha hb hc => ?_⟩
    · have e : k = 20 * (k / 20) + k % 20 := by omega
      rw [e]
      exact nb_of (w251 _ _ (by omega) (by omega)) (dle _ _ (by omega) (by omega)) (by decide)
    · rw [wv a a ha ha]; exact d1 a ha
    · rw [wv a b ha hb, wv b a hb ha]; exact d2 a b ha hb
    · rw [wv a b ha hb, wv b c hb hc, wv a c ha hc]; exact d3 a b c ha hb hc
theorem p_street {x : ab_X} {a b c : Int32} (h : InvA x) {K : ab_X → Prop} (hk : ∀ z, InvA z → keepT x.1 z.1 → K z) :
    wX11_street a b c x (fun r y => wX12_street a b c y (fun r' z => r = r' ∧ K z)) := by
  have b9 := h.2.b9
  unfold wX11_street wX6_add
  by_cases q : nv x.1 246 9 = 40
  · unfold wX12_street
    simp (disch := first | assumption | omega) only [prv_n, nxt_n, q_sw, mc4, mc6, mc8, mc20, mc24, mc100, nv_rd, nb_rd, wr_rd, nI_lit, nI_add, pk_mul, pk_sub, q_div, cl_nI, vpi, q_eq, q_le, q_lt, n1_eq, n1_eq', n1_le, n1_lt, n1_ge, n1_gt, i_0m1, nlt_t, nlt_f, nle_t, nle_f, neq_f, f_below, f_within, f_isCorner, f_isIn, f_isCornerM, f_isStreet, f_isHouse, f_isCrew, f_isRow, f_has10, f_has0, jx_I, jx_N, jx_m1, jr_I, jr_N1, jr_N2, wr_2, isB_0, isB_1, true_and, and_true, and_self, false_and, and_false, true_or, or_true, false_or, or_false, not_true_eq_false, not_false_eq_true, forall_const, implies_true, false_implies, ne_eq, eq_self, if_true, if_false, Nat.zero_add, Nat.add_zero, Nat.mul_zero, Nat.zero_mul, Nat.mul_one, Nat.one_mul, Nat.add_sub_cancel, Nat.reduceEqDiff, Nat.reduceAdd, Nat.reduceMul, Nat.reduceSub, Nat.reduceLeDiff, Nat.reduceLT, Nat.reduceDiv, Nat.reduceMod, h.1.s9, h.2.v9, q, br_same, br_same']
    exact hk _ (InvA_th h) keepT_th
  rcases jx_d a (n := 20) (by omega) with e1 | ⟨f, hf, rfl⟩
  · unfold wX12_street
    simp (disch := first | assumption | omega) only [prv_n, nxt_n, q_sw, mc4, mc6, mc8, mc20, mc24, mc100, nv_rd, nb_rd, wr_rd, nI_lit, nI_add, pk_mul, pk_sub, q_div, cl_nI, vpi, q_eq, q_le, q_lt, n1_eq, n1_eq', n1_le, n1_lt, n1_ge, n1_gt, i_0m1, nlt_t, nlt_f, nle_t, nle_f, neq_f, f_below, f_within, f_isCorner, f_isIn, f_isCornerM, f_isStreet, f_isHouse, f_isCrew, f_isRow, f_has10, f_has0, jx_I, jx_N, jx_m1, jr_I, jr_N1, jr_N2, wr_2, isB_0, isB_1, true_and, and_true, and_self, false_and, and_false, true_or, or_true, false_or, or_false, not_true_eq_false, not_false_eq_true, forall_const, implies_true, false_implies, ne_eq, eq_self, if_true, if_false, Nat.zero_add, Nat.add_zero, Nat.mul_zero, Nat.zero_mul, Nat.mul_one, Nat.one_mul, Nat.add_sub_cancel, Nat.reduceEqDiff, Nat.reduceAdd, Nat.reduceMul, Nat.reduceSub, Nat.reduceLeDiff, Nat.reduceLT, Nat.reduceDiv, Nat.reduceMod, h.2.v9, e1]
    exact hk _ (InvA_th h) keepT_th
  rcases jx_d b (n := 20) (by omega) with e1 | ⟨t, ht, rfl⟩
  · unfold wX12_street
    simp (disch := first | assumption | omega) only [prv_n, nxt_n, q_sw, mc4, mc6, mc8, mc20, mc24, mc100, nv_rd, nb_rd, wr_rd, nI_lit, nI_add, pk_mul, pk_sub, q_div, cl_nI, vpi, q_eq, q_le, q_lt, n1_eq, n1_eq', n1_le, n1_lt, n1_ge, n1_gt, i_0m1, nlt_t, nlt_f, nle_t, nle_f, neq_f, f_below, f_within, f_isCorner, f_isIn, f_isCornerM, f_isStreet, f_isHouse, f_isCrew, f_isRow, f_has10, f_has0, jx_I, jx_N, jx_m1, jr_I, jr_N1, jr_N2, wr_2, isB_0, isB_1, true_and, and_true, and_self, false_and, and_false, true_or, or_true, false_or, or_false, not_true_eq_false, not_false_eq_true, forall_const, implies_true, false_implies, ne_eq, eq_self, if_true, if_false, Nat.zero_add, Nat.add_zero, Nat.mul_zero, Nat.zero_mul, Nat.mul_one, Nat.one_mul, Nat.add_sub_cancel, Nat.reduceEqDiff, Nat.reduceAdd, Nat.reduceMul, Nat.reduceSub, Nat.reduceLeDiff, Nat.reduceLT, Nat.reduceDiv, Nat.reduceMod, h.2.v9, e1]
    exact hk _ (InvA_th h) keepT_th
  by_cases eft : f = t
  · unfold wX12_street
    simp (disch := first | assumption | omega) only [prv_n, nxt_n, q_sw, mc4, mc6, mc8, mc20, mc24, mc100, nv_rd, nb_rd, wr_rd, nI_lit, nI_add, pk_mul, pk_sub, q_div, cl_nI, vpi, q_eq, q_le, q_lt, n1_eq, n1_eq', n1_le, n1_lt, n1_ge, n1_gt, i_0m1, nlt_t, nlt_f, nle_t, nle_f, neq_f, f_below, f_within, f_isCorner, f_isIn, f_isCornerM, f_isStreet, f_isHouse, f_isCrew, f_isRow, f_has10, f_has0, jx_I, jx_N, jx_m1, jr_I, jr_N1, jr_N2, wr_2, isB_0, isB_1, true_and, and_true, and_self, false_and, and_false, true_or, or_true, false_or, or_false, not_true_eq_false, not_false_eq_true, forall_const, implies_true, false_implies, ne_eq, eq_self, if_true, if_false, Nat.zero_add, Nat.add_zero, Nat.mul_zero, Nat.zero_mul, Nat.mul_one, Nat.one_mul, Nat.add_sub_cancel, Nat.reduceEqDiff, Nat.reduceAdd, Nat.reduceMul, Nat.reduceSub, Nat.reduceLeDiff, Nat.reduceLT, Nat.reduceDiv, Nat.reduceMod, h.2.v9, eft]
    exact hk _ (InvA_th h) keepT_th
  rcases jr_d c (lo := 1) (hi := 20) (by omega) (by omega) with e1 | ⟨m, m1, m2, rfl⟩
  · unfold wX12_street
    simp (disch := first | assumption | omega) only [prv_n, nxt_n, q_sw, mc4, mc6, mc8, mc20, mc24, mc100, nv_rd, nb_rd, wr_rd, nI_lit, nI_add, pk_mul, pk_sub, q_div, cl_nI, vpi, q_eq, q_le, q_lt, n1_eq, n1_eq', n1_le, n1_lt, n1_ge, n1_gt, i_0m1, nlt_t, nlt_f, nle_t, nle_f, neq_f, f_below, f_within, f_isCorner, f_isIn, f_isCornerM, f_isStreet, f_isHouse, f_isCrew, f_isRow, f_has10, f_has0, jx_I, jx_N, jx_m1, jr_I, jr_N1, jr_N2, wr_2, isB_0, isB_1, true_and, and_true, and_self, false_and, and_false, true_or, or_true, false_or, or_false, not_true_eq_false, not_false_eq_true, forall_const, implies_true, false_implies, ne_eq, eq_self, if_true, if_false, Nat.zero_add, Nat.add_zero, Nat.mul_zero, Nat.zero_mul, Nat.mul_one, Nat.one_mul, Nat.add_sub_cancel, Nat.reduceEqDiff, Nat.reduceAdd, Nat.reduceMul, Nat.reduceSub, Nat.reduceLeDiff, Nat.reduceLT, Nat.reduceDiv, Nat.reduceMod, h.2.v9, e1]
    exact hk _ (InvA_th h) keepT_th
  simp (disch := first | assumption | omega) only [prv_n, nxt_n, q_sw, mc4, mc6, mc8, mc20, mc24, mc100, nv_rd, nb_rd, wr_rd, nI_lit, nI_add, pk_mul, pk_sub, q_div, cl_nI, vpi, q_eq, q_le, q_lt, n1_eq, n1_eq', n1_le, n1_lt, n1_ge, n1_gt, i_0m1, nlt_t, nlt_f, nle_t, nle_f, neq_f, f_below, f_within, f_isCorner, f_isIn, f_isCornerM, f_isStreet, f_isHouse, f_isCrew, f_isRow, f_has10, f_has0, jx_I, jx_N, jx_m1, jr_I, jr_N1, jr_N2, wr_2, isB_0, isB_1, true_and, and_true, and_self, false_and, and_false, true_or, or_true, false_or, or_false, not_true_eq_false, not_false_eq_true, forall_const, implies_true, false_implies, ne_eq, eq_self, if_true, if_false, Nat.zero_add, Nat.add_zero, Nat.mul_zero, Nat.zero_mul, Nat.mul_one, Nat.one_mul, Nat.add_sub_cancel, Nat.reduceEqDiff, Nat.reduceAdd, Nat.reduceMul, Nat.reduceSub, Nat.reduceLeDiff, Nat.reduceLT, Nat.reduceDiv, Nat.reduceMod, h.1.s9, h.2.v9]
  have dD : ∀ a b, a < 20 → b < 20 → Dx x.1 a b ≤ 1000000 := fun a b ha hb => (h.2.wk.1 (20 * a + b) (by omega)).2
  have mt := Dx_mt h.2
  refine c_sh (D := Dx x.1) mt dD hf ht m2 (fun a b ha hb => ?_) (fun y g1 g2 g3 => ?_)
  · simp (disch := omega) only [wr_ne]
    rw [h.1.st.2.2.2.2 _ (by omega)]; exact (h.2.wk.1 (20 * a + b) (by omega)).1
  have y17 : y.1 1 7 = nI (nv x.1 246 9 + 1) := by rw [g1 1 (by decide)]; simp (disch := omega) only [wr_ne, wr_e]
  have ym : ∀ c, 246 ≤ c → y.1 c = x.1 c := fun c hc => by rw [g1 c (by omega)]; simp (disch := omega) only [wr_n]
  have y9 : y.1 246 9 = nI (nv x.1 246 9) := by rw [ym 246 (by decide)]; exact h.2.v9
  unfold wX12_street
  simp (disch := first | assumption | omega) only [prv_n, nxt_n, q_sw, mc4, mc6, mc8, mc20, mc24, mc100, nv_rd, nb_rd, wr_rd, nI_lit, nI_add, pk_mul, pk_sub, q_div, cl_nI, vpi, q_eq, q_le, q_lt, n1_eq, n1_eq', n1_le, n1_lt, n1_ge, n1_gt, i_0m1, nlt_t, nlt_f, nle_t, nle_f, neq_f, f_below, f_within, f_isCorner, f_isIn, f_isCornerM, f_isStreet, f_isHouse, f_isCrew, f_isRow, f_has10, f_has0, jx_I, jx_N, jx_m1, jr_I, jr_N1, jr_N2, wr_2, isB_0, isB_1, true_and, and_true, and_self, false_and, and_false, true_or, or_true, false_or, or_false, not_true_eq_false, not_false_eq_true, forall_const, implies_true, false_implies, ne_eq, eq_self, if_true, if_false, Nat.zero_add, Nat.add_zero, Nat.mul_zero, Nat.zero_mul, Nat.mul_one, Nat.one_mul, Nat.add_sub_cancel, Nat.reduceEqDiff, Nat.reduceAdd, Nat.reduceMul, Nat.reduceSub, Nat.reduceLeDiff, Nat.reduceLT, Nat.reduceDiv, Nat.reduceMod, y17, y9]
  -- the reference's first loop
  refine Lp2.ind (fun i b z => ∃ s, s ≤ 4 ∧ i = 4 - s ∧ b = nI s ∧ (∀ c, c ≠ 250 → z.1 c = (wr (wr (wr (wr y 246 0 (nI 0)) 247 (nv x.1 246 9) (nI f)) 248 (nv x.1 246 9) (nI t)) 249 (nv x.1 246 9) (nI m)).1 c) ∧ z.2 = y.2 ∧ ∀ j, z.1 250 j = if 4 * nv x.1 246 9 ≤ j ∧ j < 4 * nv x.1 246 9 + s then nI 100 else x.1 250 j) 4 ⟨0, by omega, by omega, rfl, fun _ _ => rfl, rfl, fun j => by rw [if_neg (by omega)]; simp (disch := omega) only [wr_n]; rw [ym 250 (by decide)]⟩ ?_
  rintro i b z ⟨s, hs, rfl, rfl, z1, z2, z3⟩ L hL
  have z9 : z.1 246 9 = nI (nv x.1 246 9) := by rw [z1 246 (by decide)]; simp (disch := omega) only [wr_ne]; exact y9
  unfold lX12_street_78
  by_cases e4 : s = 4
  case neg =>
    simp (disch := first | assumption | omega) only [prv_n, nxt_n, q_sw, mc4, mc6, mc8, mc20, mc24, mc100, nv_rd, nb_rd, wr_rd, nI_lit, nI_add, pk_mul, pk_sub, q_div, cl_nI, vpi, q_eq, q_le, q_lt, n1_eq, n1_eq', n1_le, n1_lt, n1_ge, n1_gt, i_0m1, nlt_t, nlt_f, nle_t, nle_f, neq_f, f_below, f_within, f_isCorner, f_isIn, f_isCornerM, f_isStreet, f_isHouse, f_isCrew, f_isRow, f_has10, f_has0, jx_I, jx_N, jx_m1, jr_I, jr_N1, jr_N2, wr_2, isB_0, isB_1, true_and, and_true, and_self, false_and, and_false, true_or, or_true, false_or, or_false, not_true_eq_false, not_false_eq_true, forall_const, implies_true, false_implies, ne_eq, eq_self, if_true, if_false, Nat.zero_add, Nat.add_zero, Nat.mul_zero, Nat.zero_mul, Nat.mul_one, Nat.one_mul, Nat.add_sub_cancel, Nat.reduceEqDiff, Nat.reduceAdd, Nat.reduceMul, Nat.reduceSub, Nat.reduceLeDiff, Nat.reduceLT, Nat.reduceDiv, Nat.reduceMod, z9]
    refine hL _ _ _ (by omega) ⟨s + 1, by omega, rfl, rfl, fun c hc => by rw [wr_n hc]; exact z1 c hc, z2, fun j => ?_⟩
    by_cases qj : j = 4 * nv x.1 246 9 + s
    · subst qj; rw [wr_e, if_pos (by omega)]
    · rw [wr_k qj, z3]
      by_cases q2 : 4 * nv x.1 246 9 ≤ j ∧ j < 4 * nv x.1 246 9 + s
      · rw [if_pos q2, if_pos (by omega)]
      · rw [if_neg q2, if_neg (by omega)]
  subst e4
  have zw : Wt 251 z (Dx x.1) := fun a b ha hb => by
    rw [z1 251 (by decide)]
    simp (disch := omega) only [wr_n]
    rw [ym 251 (by decide)]
    exact (h.2.wk.1 (20 * a + b) (by omega)).1
  have df := dD f t hf ht
  have wft := zw f t hf ht
  simp (disch := first | assumption | omega) only [prv_n, nxt_n, q_sw, mc4, mc6, mc8, mc20, mc24, mc100, nv_rd, nb_rd, wr_rd, nI_lit, nI_add, pk_mul, pk_sub, q_div, cl_nI, vpi, q_eq, q_le, q_lt, n1_eq, n1_eq', n1_le, n1_lt, n1_ge, n1_gt, i_0m1, nlt_t, nlt_f, nle_t, nle_f, neq_f, f_below, f_within, f_isCorner, f_isIn, f_isCornerM, f_isStreet, f_isHouse, f_isCrew, f_isRow, f_has10, f_has0, jx_I, jx_N, jx_m1, jr_I, jr_N1, jr_N2, wr_2, isB_0, isB_1, true_and, and_true, and_self, false_and, and_false, true_or, or_true, false_or, or_false, not_true_eq_false, not_false_eq_true, forall_const, implies_true, false_implies, ne_eq, eq_self, if_true, if_false, Nat.zero_add, Nat.add_zero, Nat.mul_zero, Nat.zero_mul, Nat.mul_one, Nat.one_mul, Nat.add_sub_cancel, Nat.reduceEqDiff, Nat.reduceAdd, Nat.reduceMul, Nat.reduceSub, Nat.reduceLeDiff, Nat.reduceLT, Nat.reduceDiv, Nat.reduceMod, z9, wft, imin_I]
  have w1 : Wt 251 (wr z 246 9 (nI (nv x.1 246 9 + 1))) (Dx x.1) := fun a b ha hb => by rw [wr_n (by decide)]; exact zw a b ha hb
  have w2 := Wt_put (v := min (Dx x.1 t f) m) (Wt_put (v := min (Dx x.1 f t) m) w1 hf ht) ht hf
  have sy : Dx x.1 t f = Dx x.1 f t := mt.2.1 t f ht hf
  rw [sy] at w2
  have fin : ∀ v : ab_X, (∀ c, c ≠ 251 → v.1 c = (wr (wr (wr z 246 9 (nI (nv x.1 246 9 + 1))) 251 (20 * f + t) (nI (min (Dx x.1 f t) m))) 251 (20 * t + f) (nI (min (Dx x.1 f t) m))).1 c) → v.2 = z.2 → Wt 251 v (Dn (Dx x.1) f t m) → K v := by
    intro v v1 v2 v3
    have vz : ∀ c, c ≠ 251 → c ≠ 246 → v.1 c = z.1 c := fun c h1 h2 => by rw [v1 c h1]; simp (disch := omega) only [wr_n]
    have vy : ∀ c, c ≠ 251 → c ≠ 246 → c ≠ 250 → c ≠ 247 → c ≠ 248 → c ≠ 249 → v.1 c = y.1 c := fun c h1 h2 h3 h4 h5 h6 => by rw [vz c h1 h2, z1 c h3]; simp (disch := omega) only [wr_n]
    refine hk v ?_ ?_
    · refine street_new (f := f) (t := t) (m := m) h (by omega) hf ht m1 m2 ⟨fun c p q r => ?_, fun g p => ?_, fun c g p q => ?_⟩ (by rw [v2, z2, g2]; rfl) ?_ ?_ (fun k => ?_) (fun k => ?_) (fun k => ?_) (fun k => ?_) (fun k => ?_) (fun k => ?_) (fun k => ?_) ?_ v3
      · have r0 : c < 2 ∨ 4 < c := r (2, 4) (by simp)
        have r1 : c < 7 ∨ 7 < c := r (7, 7) (by simp)
        have r2 : c < 247 ∨ 251 < c := r (247, 251) (by simp)
        unfold scC at q
        rw [vy c (by omega) p (by omega) (by omega) (by omega) (by omega), g1 c (by omega)]
        simp (disch := omega) only [wr_n]
      · have s0 : g ≠ 0 := fun e => p (by rw [e]; simp)
        have s1 : g ≠ 9 := fun e => p (by rw [e]; simp)
        rw [v1 246 (by decide)]
        simp (disch := omega) only [wr_ne]
        rw [z1 246 (by decide)]
        simp (disch := omega) only [wr_ne]
        rw [ym 246 (by decide)]
      · have c0 : ¬ (c = 1 ∧ g = 7) := fun e => q (by rw [e.1, e.2]; simp)
        unfold scC at p
        rw [vy c (by omega) (by omega) (by omega) (by omega) (by omega) (by omega), g1 c (by omega)]
        simp (disch := omega) only [wr_ne]
      · rw [v1 246 (by decide)]
        simp (disch := omega) only [wr_ne, wr_e]
      · rw [vy 1 (by decide) (by decide) (by decide) (by decide) (by decide) (by decide)]; exact y17
      · rw [vy 2 (by decide) (by decide) (by decide) (by decide) (by decide) (by decide), g1 2 (by decide)]
        by_cases e : k = nv x.1 246 9
        · subst e; simp (disch := omega) only [wr_ne, wr_e, if_true]
        · simp (disch := omega) only [wr_ne, e, if_false]
      · rw [vy 3 (by decide) (by decide) (by decide) (by decide) (by decide) (by decide), g1 3 (by decide)]
        by_cases e : k = nv x.1 246 9
        · subst e; simp (disch := omega) only [wr_ne, wr_e, if_true]
        · simp (disch := omega) only [wr_ne, e, if_false]
      · rw [vy 4 (by decide) (by decide) (by decide) (by decide) (by decide) (by decide), g1 4 (by decide)]
        by_cases e : k = nv x.1 246 9
        · subst e; simp (disch := omega) only [wr_ne, wr_e, if_true]
        · simp (disch := omega) only [wr_ne, e, if_false]
      · rw [vz 247 (by decide) (by decide), z1 247 (by decide)]
        by_cases e : k = nv x.1 246 9
        · subst e; simp (disch := omega) only [wr_ne, wr_e, if_true]
        · simp (disch := omega) only [wr_ne, e, if_false]; rw [ym 247 (by decide)]
      · rw [vz 248 (by decide) (by decide), z1 248 (by decide)]
        by_cases e : k = nv x.1 246 9
        · subst e; simp (disch := omega) only [wr_ne, wr_e, if_true]
        · simp (disch := omega) only [wr_ne, e, if_false]; rw [ym 248 (by decide)]
      · rw [vz 249 (by decide) (by decide), z1 249 (by decide)]
        by_cases e : k = nv x.1 246 9
        · subst e; simp (disch := omega) only [wr_ne, wr_e, if_true]
        · simp (disch := omega) only [wr_ne, e, if_false]; rw [ym 249 (by decide)]
      · rw [vz 250 (by decide) (by decide)]; exact z3 k
      · intro a b ha hb
        rw [vy 7 (by decide) (by decide) (by decide) (by decide) (by decide) (by decide)]; exact g3 a b ha hb
    · intro c k q
      unfold tk at q
      by_cases e : c = 246
      · subst e
        rw [v1 246 (by decide)]
        simp (disch := omega) only [wr_ne]
        rw [z1 246 (by decide)]
        simp (disch := omega) only [wr_ne]
        rw [ym 246 (by decide)]
      · rw [vy c (by omega) e (by omega) (by omega) (by omega) (by omega), g1 c (by omega)]
        simp (disch := omega) only [wr_ne]
  have hz9 : (wr (wr (wr z 246 9 (nI (nv x.1 246 9 + 1))) 251 (20 * f + t) (nI (min (Dx x.1 f t) m))) 251 (20 * t + f) (nI (min (Dx x.1 f t) m))).1 246 9 = nI (nv x.1 246 9 + 1) := by simp (disch := omega) only [wr_ne, wr_e]
  have d0 := Dn_mt (m := m) mt hf ht
  have W0 : ∀ (g u : Nat), (g = f ∧ u = t) ∨ (g = t ∧ u = f) → g < u → Fw (Dx x.1) (fun a' b' => if a' = t ∧ b' = f then min (Dx x.1 f t) m else if a' = f ∧ b' = t then min (Dx x.1 f t) m else Dx x.1 a' b') g u m 0 0 0 := by
    intro g u gu lt
    have dnn : ∀ a b, Dn (Dx x.1) g u m a b = Dn (Dx x.1) f t m a b := fun a b => by
      rcases gu with ⟨rfl, rfl⟩ | ⟨rfl, rfl⟩
      · rfl
      · exact Dn_sym _ _ _ _ _ _
    refine ⟨fun a b ha hb => ?_, ?_, ?_, fun a' ha' p => ?_, fun b' hb' p => ?_, fun a' b' ha' hb' p => ?_⟩
    · rw [dnn]
      have l := Dn_le (Dx x.1) f t m a b
      show _ ≤ (if a = t ∧ b = f then _ else if a = f ∧ b = t then _ else _) ∧ (if a = t ∧ b = f then _ else if a = f ∧ b = t then _ else _) ≤ _
      by_cases e1 : a = t ∧ b = f
      · rw [if_pos e1, e1.1, e1.2]
        have := d0.2.2
        have l2 := Dn_le (Dx x.1) f t m t f
        omega
      · rw [if_neg e1]
        by_cases e2 : a = f ∧ b = t
        · rw [if_pos e2, e2.1, e2.2]
          have := d0.2.1
          have l2 := Dn_le (Dx x.1) f t m f t
          omega
        · rw [if_neg e2]; exact ⟨l, Nat.le_refl _⟩
    · rcases gu with ⟨rfl, rfl⟩ | ⟨rfl, rfl⟩
      · show (if g = u ∧ u = g then _ else if g = g ∧ u = u then _ else _) ≤ m
        rw [if_neg (by omega), if_pos ⟨rfl, rfl⟩]; omega
      · show (if g = g ∧ u = u then _ else _) ≤ m
        rw [if_pos ⟨rfl, rfl⟩]; omega
    · rcases gu with ⟨rfl, rfl⟩ | ⟨rfl, rfl⟩
      · show (if u = u ∧ g = g then _ else _) ≤ m
        rw [if_pos ⟨rfl, rfl⟩]; omega
      · show (if u = g ∧ g = u then _ else if u = u ∧ g = g then _ else _) ≤ m
        rw [if_neg (by omega), if_pos ⟨rfl, rfl⟩]; omega
    · unfold Pc at p; omega
    · unfold Pc at p; omega
    · unfold Pc at p; omega
  rcases Nat.lt_or_ge f t with lt | ge
  · exact m_fw mt dD lt ht w2 (W0 f t (Or.inl ⟨rfl, rfl⟩) lt) hz9 (by omega) (fun v v1 v2 v3 v4 => ⟨rfl, fin v v1 v2 v4⟩)
  · exact m_fw mt dD (show t < f by omega) hf w2 (W0 t f (Or.inr ⟨rfl, rfl⟩) (by omega)) hz9 (by omega) (fun v v1 v2 v3 v4 => ⟨rfl, fin v v1 v2 (fun a b ha hb => by rw [v4 a b ha hb, Dn_sym])⟩)
