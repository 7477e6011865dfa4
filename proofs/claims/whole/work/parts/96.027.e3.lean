/-! COMING: the program. -/
theorem c_fill {c n : Nat} {v : Int32} {x : ab_X} {K : ab_X → Prop} (hn : n < 2147483648) (k : ∀ y : ab_X, (∀ d, d ≠ c → y.1 d = x.1 d) → y.2 = x.2 → (∀ j, j < n → y.1 c j = v) → (∀ j, n ≤ j → y.1 c j = x.1 c j) → K y) : wJ7_fill_53178 c n v x K := by
  unfold wJ7_fill_53178
  refine Lp2.ind (fun i a y => ∃ s, s ≤ n ∧ i = n - s ∧ a = nI s ∧ (∀ d, d ≠ c → y.1 d = x.1 d) ∧ y.2 = x.2 ∧ (∀ j, j < s → y.1 c j = v) ∧ ∀ j, s ≤ j → y.1 c j = x.1 c j) n ⟨0, by omega, by omega, rfl, fun _ _ => rfl, rfl, fun j hj => by omega, fun _ _ => rfl⟩ ?_
  rintro i a y ⟨s, hs, rfl, rfl, h1, h2, h3, h4⟩ L hL
  unfold lJ7_fill_53178_5
  have e0 : Int32.ofNat n = nI n := rfl
  by_cases e : s = n
  · simp (disch := first | assumption | omega) only [prv_n, nxt_n, q_sw, mc4, mc6, mc8, mc20, mc24, mc100, nv_rd, nb_rd, wr_rd, nI_lit, nI_add, pk_mul, pk_sub, q_div, cl_nI, vpi, q_eq, q_le, q_lt, n1_eq, n1_eq', n1_le, n1_lt, n1_ge, n1_gt, i_0m1, nlt_t, nlt_f, nle_t, nle_f, neq_f, f_below, f_within, f_isCorner, f_isIn, f_isCornerM, f_isStreet, f_isHouse, f_isCrew, f_isRow, f_has10, f_has0, jx_I, jx_N, jx_m1, jr_I, jr_N1, jr_N2, wr_2, isB_0, isB_1, true_and, and_true, and_self, false_and, and_false, true_or, or_true, false_or, or_false, not_true_eq_false, not_false_eq_true, forall_const, implies_true, false_implies, ne_eq, eq_self, if_true, if_false, Nat.zero_add, Nat.add_zero, Nat.mul_zero, Nat.zero_mul, Nat.mul_one, Nat.one_mul, Nat.add_sub_cancel, Nat.reduceEqDiff, Nat.reduceAdd, Nat.reduceMul, Nat.reduceSub, Nat.reduceLeDiff, Nat.reduceLT, Nat.reduceDiv, Nat.reduceMod, e0]
    exact k y h1 h2 (fun j hj => h3 j (by omega)) (fun j hj => h4 j (by omega))
  · simp (disch := first | assumption | omega) only [prv_n, nxt_n, q_sw, mc4, mc6, mc8, mc20, mc24, mc100, nv_rd, nb_rd, wr_rd, nI_lit, nI_add, pk_mul, pk_sub, q_div, cl_nI, vpi, q_eq, q_le, q_lt, n1_eq, n1_eq', n1_le, n1_lt, n1_ge, n1_gt, i_0m1, nlt_t, nlt_f, nle_t, nle_f, neq_f, f_below, f_within, f_isCorner, f_isIn, f_isCornerM, f_isStreet, f_isHouse, f_isCrew, f_isRow, f_has10, f_has0, jx_I, jx_N, jx_m1, jr_I, jr_N1, jr_N2, wr_2, isB_0, isB_1, true_and, and_true, and_self, false_and, and_false, true_or, or_true, false_or, or_false, not_true_eq_false, not_false_eq_true, forall_const, implies_true, false_implies, ne_eq, eq_self, if_true, if_false, Nat.zero_add, Nat.add_zero, Nat.mul_zero, Nat.zero_mul, Nat.mul_one, Nat.one_mul, Nat.add_sub_cancel, Nat.reduceEqDiff, Nat.reduceAdd, Nat.reduceMul, Nat.reduceSub, Nat.reduceLeDiff, Nat.reduceLT, Nat.reduceDiv, Nat.reduceMod, e0]
    refine hL _ _ _ (by omega) ⟨s + 1, by omega, rfl, rfl, fun d hd => by rw [wr_n hd]; exact h1 d hd, h2, fun j hj => ?_, fun j hj => by rw [wr_k (by omega)]; exact h4 j (by omega)⟩
    by_cases q : j = s
    · subst q; exact wr_e
    · rw [wr_k q]; exact h3 j (by omega)
def CRc (x y : ab_X) (B : Nat → Nat → Bool) : Prop := (∀ c, c ≠ 8 → y.1 c = x.1 c) ∧ y.2 = x.2 ∧ ∀ t c, t ≤ 600 → c < 32 → bt (y.1 8 t) c = B t c
theorem CRc_ad {x y : ab_X} {B : Nat → Nat → Bool} {t c : Nat} (h : CRc x y B) (ht : t ≤ 600) (hc : c < 20) : CRc x (wr y 8 t (y.1 8 t ||| (nI 1 <<< (nI c &&& nI 31)))) (adB B t c) := by
  refine ⟨fun d hd => by rw [wr_n hd]; exact h.1 d hd, h.2.1, fun t' c' ht' hc' => ?_⟩
  unfold adB
  by_cases e : t' = t
  · subst e
    rw [wr_e, b_or, bt_one (by omega) hc', h.2.2 t' c' ht' hc', decide_eq_true rfl, Bool.true_and]
  · rw [wr_k e, h.2.2 t' c' ht' hc', decide_eq_false e, Bool.false_and, Bool.or_false]
theorem CRc.r {x y : ab_X} {B : Nat → Nat → Bool} {Y : Nat → Nat → Int32} {D : Nat → UInt64} (h : CRc x y B) (w : WW Y) (r : RR x.1 Y D) : RR y.1 Y D := RR_keep w r ⟨fun c q => h.1 c (by unfold kC at q; omega), by rw [h.1 158 (by decide)], fun c f p q => by rw [h.1 (82 + c) (by omega)]⟩ keepM.rfl' (fun _ _ => rfl)
theorem c_spr {x : ab_X} {Y : Nat → Nat → Int32} {D : Nat → UInt64} (rr : RR x.1 Y D) (w : WW Y) {v m p : Nat} {B : Nat → Nat → Bool} (hp : p < 4) (hv : 50 ≤ v) (hv2 : v ≤ 300) (hm : m ≤ 600) {K : ab_X → Prop} {y0 : ab_X} (h0 : CRc x y0 B) (hl : ∀ y, CRc x y (spr Y v m p (B m) (nv Y 246 9) B) → K y) : wX6_spread (nI m) (nI p) (nI v) y0 K := by
  have b9 := w.b9
  unfold wX6_spread
  simp (disch := first | assumption | omega) only [prv_n, nxt_n, q_sw, mc4, mc6, mc8, mc20, mc24, mc100, nv_rd, nb_rd, wr_rd, nI_lit, nI_add, pk_mul, pk_sub, q_div, cl_nI, vpi, q_eq, q_le, q_lt, n1_eq, n1_eq', n1_le, n1_lt, n1_ge, n1_gt, i_0m1, nlt_t, nlt_f, nle_t, nle_f, neq_f, f_below, f_within, f_isCorner, f_isIn, f_isCornerM, f_isStreet, f_isHouse, f_isCrew, f_isRow, f_has10, f_has0, jx_I, jx_N, jx_m1, jr_I, jr_N1, jr_N2, wr_2, isB_0, isB_1, true_and, and_true, and_self, false_and, and_false, true_or, or_true, false_or, or_false, not_true_eq_false, not_false_eq_true, forall_const, implies_true, false_implies, ne_eq, eq_self, if_true, if_false, Nat.zero_add, Nat.add_zero, Nat.mul_zero, Nat.zero_mul, Nat.mul_one, Nat.one_mul, Nat.add_sub_cancel, Nat.reduceEqDiff, Nat.reduceAdd, Nat.reduceMul, Nat.reduceSub, Nat.reduceLeDiff, Nat.reduceLT, Nat.reduceDiv, Nat.reduceMod]
  have row : ∀ c, c < 20 → ((y0.1 8 m >>> (nI c &&& nI 31)) &&& nI 1) = bb (B m c) := fun c hc => by rw [bit_e (by omega), h0.2.2 m c hm (by omega)]
  generalize y0.1 8 m = rw0 at row
  refine Lp2.ind (fun i a y => ∃ s, s ≤ nv Y 246 9 ∧ i = nv Y 246 9 - s ∧ a = nI s ∧ CRc x y (spr Y v m p (B m) s B)) (nv Y 246 9) ⟨0, by omega, by omega, rfl, h0⟩ ?_
  rintro i a y ⟨s, hs, rfl, rfl, hy⟩ L2 hL
  have r := hy.r w rr
  unfold lX6_spread_11 wX6_spread_114
  by_cases e : s = nv Y 246 9
  · simp (disch := first | assumption | omega) only [prv_n, nxt_n, q_sw, mc4, mc6, mc8, mc20, mc24, mc100, nv_rd, nb_rd, wr_rd, nI_lit, nI_add, pk_mul, pk_sub, q_div, cl_nI, vpi, q_eq, q_le, q_lt, n1_eq, n1_eq', n1_le, n1_lt, n1_ge, n1_gt, i_0m1, nlt_t, nlt_f, nle_t, nle_f, neq_f, f_below, f_within, f_isCorner, f_isIn, f_isCornerM, f_isStreet, f_isHouse, f_isCrew, f_isRow, f_has10, f_has0, jx_I, jx_N, jx_m1, jr_I, jr_N1, jr_N2, wr_2, isB_0, isB_1, true_and, and_true, and_self, false_and, and_false, true_or, or_true, false_or, or_false, not_true_eq_false, not_false_eq_true, forall_const, implies_true, false_implies, ne_eq, eq_self, if_true, if_false, Nat.zero_add, Nat.add_zero, Nat.mul_zero, Nat.zero_mul, Nat.mul_one, Nat.one_mul, Nat.add_sub_cancel, Nat.reduceEqDiff, Nat.reduceAdd, Nat.reduceMul, Nat.reduceSub, Nat.reduceLeDiff, Nat.reduceLT, Nat.reduceDiv, Nat.reduceMod, r.s9, w.v9]
    exact hl y (e ▸ hy)
  have hs2 : s < nv Y 246 9 := by omega
  obtain ⟨w1, w2, w3, -⟩ := w.st.1 s hs2
  obtain ⟨w5, -⟩ := w.st.2.2 (4 * s + p) (by omega)
  obtain ⟨t1, t2, t3⟩ := r.st.1 s hs2
  have t5 := r.st.2.1 s (by omega)
  have t6 := r.st.2.2.1 (4 * s + p) (by omega)
  have u1 := w1.2
  have u2 := w2.2
  obtain ⟨c1, c2, c3, c4⟩ := cst_b w hs2 hp hv hv2
  have go : ∀ z, CRc x z (spr Y v m p (B m) (s + 1) B) → L2 (nI (s + 1)) z := fun z hz => hL _ _ _ (by omega) ⟨s + 1, by omega, rfl, rfl, hz⟩
  rw [spr_s] at go
  have ec : (nv Y 249 s * nv Y 250 (4 * s + p) * v + 9999) / 10000 = cst Y s p v := rfl
  by_cases q : Y 252 s = nI 0
  case neg =>
    unfold spS at go
    rw [if_neg (fun u => q u.1)] at go
    simp (disch := first | assumption | omega) only [prv_n, nxt_n, q_sw, mc4, mc6, mc8, mc20, mc24, mc100, nv_rd, nb_rd, wr_rd, nI_lit, nI_add, pk_mul, pk_sub, q_div, cl_nI, vpi, q_eq, q_le, q_lt, n1_eq, n1_eq', n1_le, n1_lt, n1_ge, n1_gt, i_0m1, nlt_t, nlt_f, nle_t, nle_f, neq_f, f_below, f_within, f_isCorner, f_isIn, f_isCornerM, f_isStreet, f_isHouse, f_isCrew, f_isRow, f_has10, f_has0, jx_I, jx_N, jx_m1, jr_I, jr_N1, jr_N2, wr_2, isB_0, isB_1, true_and, and_true, and_self, false_and, and_false, true_or, or_true, false_or, or_false, not_true_eq_false, not_false_eq_true, forall_const, implies_true, false_implies, ne_eq, eq_self, if_true, if_false, Nat.zero_add, Nat.add_zero, Nat.mul_zero, Nat.zero_mul, Nat.mul_one, Nat.one_mul, Nat.add_sub_cancel, Nat.reduceEqDiff, Nat.reduceAdd, Nat.reduceMul, Nat.reduceSub, Nat.reduceLeDiff, Nat.reduceLT, Nat.reduceDiv, Nat.reduceMod, r.s9, w.v9, t5, q]
    exact go y hy
  by_cases q2 : m + cst Y s p v ≤ 600
  case neg =>
    unfold spS at go
    rw [if_neg (fun u => q2 u.2)] at go
    simp (disch := first | assumption | omega) only [prv_n, nxt_n, q_sw, mc4, mc6, mc8, mc20, mc24, mc100, nv_rd, nb_rd, wr_rd, nI_lit, nI_add, pk_mul, pk_sub, q_div, cl_nI, vpi, q_eq, q_le, q_lt, n1_eq, n1_eq', n1_le, n1_lt, n1_ge, n1_gt, i_0m1, nlt_t, nlt_f, nle_t, nle_f, neq_f, f_below, f_within, f_isCorner, f_isIn, f_isCornerM, f_isStreet, f_isHouse, f_isCrew, f_isRow, f_has10, f_has0, jx_I, jx_N, jx_m1, jr_I, jr_N1, jr_N2, wr_2, isB_0, isB_1, true_and, and_true, and_self, false_and, and_false, true_or, or_true, false_or, or_false, not_true_eq_false, not_false_eq_true, forall_const, implies_true, false_implies, ne_eq, eq_self, if_true, if_false, Nat.zero_add, Nat.add_zero, Nat.mul_zero, Nat.zero_mul, Nat.mul_one, Nat.one_mul, Nat.add_sub_cancel, Nat.reduceEqDiff, Nat.reduceAdd, Nat.reduceMul, Nat.reduceSub, Nat.reduceLeDiff, Nat.reduceLT, Nat.reduceDiv, Nat.reduceMod, r.s9, w.v9, t5, q, t3, t6, w3.1, w5.1, ec]
    exact go y hy
  unfold spS at go
  rw [if_pos ⟨q, q2⟩] at go
  have e1 := row (nv Y 247 s) (by omega)
  have e2 := row (nv Y 248 s) (by omega)
  have z1 : ∀ k v', (wr y 8 k v').1 2 s = nI (nv Y 247 s) := fun k v' => by rw [wr_n (by decide), t1, w1.1]
  have z2 : ∀ k v', (wr y 8 k v').1 3 s = nI (nv Y 248 s) := fun k v' => by rw [wr_n (by decide), t2, w2.1]
  cases r1 : B m (nv Y 247 s) <;> cases r2 : B m (nv Y 248 s)
  all_goals
    rw [r1] at e1
    rw [r2] at e2
    simp only [r1, r2, if_true, if_false, Bool.false_eq_true] at go
    simp (disch := first | assumption | omega) only [prv_n, nxt_n, q_sw, mc4, mc6, mc8, mc20, mc24, mc100, nv_rd, nb_rd, wr_rd, nI_lit, nI_add, pk_mul, pk_sub, q_div, cl_nI, vpi, q_eq, q_le, q_lt, n1_eq, n1_eq', n1_le, n1_lt, n1_ge, n1_gt, i_0m1, nlt_t, nlt_f, nle_t, nle_f, neq_f, f_below, f_within, f_isCorner, f_isIn, f_isCornerM, f_isStreet, f_isHouse, f_isCrew, f_isRow, f_has10, f_has0, jx_I, jx_N, jx_m1, jr_I, jr_N1, jr_N2, wr_2, isB_0, isB_1, true_and, and_true, and_self, false_and, and_false, true_or, or_true, false_or, or_false, not_true_eq_false, not_false_eq_true, forall_const, implies_true, false_implies, ne_eq, eq_self, if_true, if_false, Nat.zero_add, Nat.add_zero, Nat.mul_zero, Nat.zero_mul, Nat.mul_one, Nat.one_mul, Nat.add_sub_cancel, Nat.reduceEqDiff, Nat.reduceAdd, Nat.reduceMul, Nat.reduceSub, Nat.reduceLeDiff, Nat.reduceLT, Nat.reduceDiv, Nat.reduceMod, r.s9, w.v9, t5, q, t3, t6, w3.1, w5.1, ec, t1, w1.1, t2, w2.1, e1, e2, bb_t, bb_f]
  · exact go y hy
  · exact go _ (CRc_ad hy q2 (by omega))
  · exact go _ (CRc_ad hy q2 (by omega))
  · have := go _ (CRc_ad (CRc_ad hy q2 (show nv Y 248 s < 20 by omega)) q2 (show nv Y 247 s < 20 by omega))
    rw [wr_e] at this
    exact this
