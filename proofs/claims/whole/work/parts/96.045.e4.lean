/-! COMING: the open way, the answer; come. -/
def clo (Y : Nat → Nat → Int32) (S : Nat → Bool) : Prop := ∀ s, s < nv Y 246 9 → Y 252 s = nI 0 → (S (nv Y 247 s) = true → S (nv Y 248 s) = true) ∧ (S (nv Y 248 s) = true → S (nv Y 247 s) = true)
theorem cn_mono {p q : Nat → Bool} {n : Nat} (h : ∀ i, i < n → p i = true → q i = true) : cn p n ≤ cn q n := by
  induction n with
  | zero => exact Nat.le_refl _
  | succ n ih =>
    show cn p n + (if p n then 1 else 0) ≤ cn q n + (if q n then 1 else 0)
    have := ih (fun i hi => h i (by omega))
    by_cases e : p n = true
    · rw [if_pos e, if_pos (h n (by omega) e)]; omega
    · rw [if_neg e]; omega
theorem cn_more {p q : Nat → Bool} {n : Nat} (h : ∀ i, i < n → p i = true → q i = true) {j : Nat} (hj : j < n) (h1 : p j = false) (h2 : q j = true) : cn p n < cn q n := by
  induction n with
  | zero => omega
  | succ n ih =>
    show cn p n + (if p n then 1 else 0) < cn q n + (if q n then 1 else 0)
    by_cases e : j = n
    · subst e
      have := cn_mono (n := j) (fun i hi => h i (by omega))
      rw [h1, h2, if_pos rfl, if_neg (by decide)]; omega
    · have := ih (fun i hi => h i (by omega)) (by omega)
      by_cases e : p n = true
      · rw [if_pos e, if_pos (h n (by omega) e)]; omega
      · rw [if_neg e]; omega
theorem c_open {x : ab_X} {Y : Nat → Nat → Int32} {D : Nat → UInt64} (r : RR x.1 Y D) (w : WW Y) {fr : Nat} (hf : fr < 20) {K : Int32 → Prop} (k : ∀ a, bt a fr = true → clo Y (bt a) → K a) : wX6_openTo (nI fr) x K := by
  have b9 := w.b9
  unfold wX6_openTo
  refine Lp2.ind (fun i a b => ∃ j, j ≤ 20 ∧ i = 20 - j ∧ b = nI j ∧ bt a fr = true ∧ (∀ c, c < 32 → bt a c = true → c < 20) ∧ j + 1 ≤ cn (bt a) 20) 20 ⟨0, by omega, by omega, rfl, by (have := bt_one (c := fr) (i := fr) (by omega) (by omega)); rw [decide_eq_true rfl] at this; exact this, fun c hc h => by (have := bt_one (c := fr) (i := c) (by omega) hc); have h' := this.symm.trans h; have := of_decide_eq_true h'; omega, ?_⟩ ?_
  · have : 0 < cn (bt (1 <<< (nI fr &&& 31))) 20 := cn_pos.mpr ⟨fr, hf, by (have := bt_one (c := fr) (i := fr) (by omega) (by omega)); rw [decide_eq_true rfl] at this; exact this⟩
    omega
  rintro i a b ⟨j, hj, rfl, rfl, h1, h2, h3⟩ L hL
  unfold lX6_openTo_6
  by_cases e : j = 20
  · have := cn_le (bt a) 20
    omega
  simp (disch := first | assumption | omega) only [prv_n, nxt_n, q_sw, mc4, mc6, mc8, mc20, mc24, mc100, nv_rd, nb_rd, wr_rd, nI_lit, nI_add, pk_mul, pk_sub, q_div, cl_nI, vpi, q_eq, q_le, q_lt, n1_eq, n1_eq', n1_le, n1_lt, n1_ge, n1_gt, i_0m1, nlt_t, nlt_f, nle_t, nle_f, neq_f, f_below, f_within, f_isCorner, f_isIn, f_isCornerM, f_isStreet, f_isHouse, f_isCrew, f_isRow, f_has10, f_has0, jx_I, jx_N, jx_m1, jr_I, jr_N1, jr_N2, wr_2, isB_0, isB_1, true_and, and_true, and_self, false_and, and_false, true_or, or_true, false_or, or_false, not_true_eq_false, not_false_eq_true, forall_const, implies_true, false_implies, ne_eq, eq_self, if_true, if_false, Nat.zero_add, Nat.add_zero, Nat.mul_zero, Nat.zero_mul, Nat.mul_one, Nat.one_mul, Nat.add_sub_cancel, Nat.reduceEqDiff, Nat.reduceAdd, Nat.reduceMul, Nat.reduceSub, Nat.reduceLeDiff, Nat.reduceLT, Nat.reduceDiv, Nat.reduceMod]
  refine Lp2.ind (fun i d b => ∃ s, s ≤ nv Y 246 9 ∧ i = nv Y 246 9 - s ∧ b = nI s ∧ (∀ c, c < 32 → bt a c = true → bt d c = true) ∧ (∀ c, c < 32 → bt d c = true → c < 20) ∧ (d = a → ∀ s', s' < s → Y 252 s' = nI 0 → (bt a (nv Y 247 s') = true → bt a (nv Y 248 s') = true) ∧ (bt a (nv Y 248 s') = true → bt a (nv Y 247 s') = true))) (nv Y 246 9) ⟨0, by omega, by omega, rfl, fun c _ h => h, h2, fun _ s' h => by omega⟩ ?_
  rintro i d b ⟨s, hs, rfl, rfl, g1, g2, g3⟩ L2 hL2
  unfold lX6_openTo_18
  by_cases e : s = nv Y 246 9
  · by_cases q : d = a
    · subst q
      simp (disch := first | assumption | omega) only [prv_n, nxt_n, q_sw, mc4, mc6, mc8, mc20, mc24, mc100, nv_rd, nb_rd, wr_rd, nI_lit, nI_add, pk_mul, pk_sub, q_div, cl_nI, vpi, q_eq, q_le, q_lt, n1_eq, n1_eq', n1_le, n1_lt, n1_ge, n1_gt, i_0m1, nlt_t, nlt_f, nle_t, nle_f, neq_f, f_below, f_within, f_isCorner, f_isIn, f_isCornerM, f_isStreet, f_isHouse, f_isCrew, f_isRow, f_has10, f_has0, jx_I, jx_N, jx_m1, jr_I, jr_N1, jr_N2, wr_2, isB_0, isB_1, true_and, and_true, and_self, false_and, and_false, true_or, or_true, false_or, or_false, not_true_eq_false, not_false_eq_true, forall_const, implies_true, false_implies, ne_eq, eq_self, if_true, if_false, Nat.zero_add, Nat.add_zero, Nat.mul_zero, Nat.zero_mul, Nat.mul_one, Nat.one_mul, Nat.add_sub_cancel, Nat.reduceEqDiff, Nat.reduceAdd, Nat.reduceMul, Nat.reduceSub, Nat.reduceLeDiff, Nat.reduceLT, Nat.reduceDiv, Nat.reduceMod, r.s9, w.v9]
      exact k d h1 (fun s' hs' ho => g3 rfl s' (by omega) ho)
    · simp (disch := first | assumption | omega) only [prv_n, nxt_n, q_sw, mc4, mc6, mc8, mc20, mc24, mc100, nv_rd, nb_rd, wr_rd, nI_lit, nI_add, pk_mul, pk_sub, q_div, cl_nI, vpi, q_eq, q_le, q_lt, n1_eq, n1_eq', n1_le, n1_lt, n1_ge, n1_gt, i_0m1, nlt_t, nlt_f, nle_t, nle_f, neq_f, f_below, f_within, f_isCorner, f_isIn, f_isCornerM, f_isStreet, f_isHouse, f_isCrew, f_isRow, f_has10, f_has0, jx_I, jx_N, jx_m1, jr_I, jr_N1, jr_N2, wr_2, isB_0, isB_1, true_and, and_true, and_self, false_and, and_false, true_or, or_true, false_or, or_false, not_true_eq_false, not_false_eq_true, forall_const, implies_true, false_implies, ne_eq, eq_self, if_true, if_false, Nat.zero_add, Nat.add_zero, Nat.mul_zero, Nat.zero_mul, Nat.mul_one, Nat.one_mul, Nat.add_sub_cancel, Nat.reduceEqDiff, Nat.reduceAdd, Nat.reduceMul, Nat.reduceSub, Nat.reduceLeDiff, Nat.reduceLT, Nat.reduceDiv, Nat.reduceMod, r.s9, w.v9, q]
      have : ∃ c, c < 32 ∧ ¬ bt d c = bt a c := by
        apply Classical.byContradiction
        intro no
        exact q (b_ext (fun c hc => Classical.byContradiction (fun ne => no ⟨c, hc, ne⟩)))
      obtain ⟨c, hc, ne⟩ := this
      have c1 : bt a c = false := by
        cases q1 : bt a c
        · rfl
        · rw [q1, g1 c hc q1] at ne; exact absurd rfl ne
      have c2 : bt d c = true := by
        cases q1 : bt d c
        · rw [q1, c1] at ne; exact absurd rfl ne
        · rfl
      have more := cn_more (p := bt a) (q := bt d) (n := 20) (fun i hi h => g1 i (by omega) h) (g2 c hc c2) c1 c2
      exact hL _ _ _ (by omega) ⟨j + 1, by omega, rfl, rfl, g1 _ (by omega) h1, g2, by omega⟩
  have hs2 : s < nv Y 246 9 := by omega
  obtain ⟨w1, w2, -⟩ := w.st.1 s hs2
  obtain ⟨t1, t2, t3⟩ := r.st.1 s hs2
  have t5 := r.st.2.1 s (by omega)
  have u1 := w1.2
  have u2 := w2.2
  have o1 : ∀ c, c < 32 → bt (nI 1 <<< (nI (nv Y 247 s) &&& nI 31)) c = decide (c = nv Y 247 s) := fun c hc => bt_one (by omega) hc
  have o2 : ∀ c, c < 32 → bt (nI 1 <<< (nI (nv Y 248 s) &&& nI 31)) c = decide (c = nv Y 248 s) := fun c hc => bt_one (by omega) hc
  by_cases q : Y 252 s = nI 0
  case neg =>
    simp (disch := first | assumption | omega) only [prv_n, nxt_n, q_sw, mc4, mc6, mc8, mc20, mc24, mc100, nv_rd, nb_rd, wr_rd, nI_lit, nI_add, pk_mul, pk_sub, q_div, cl_nI, vpi, q_eq, q_le, q_lt, n1_eq, n1_eq', n1_le, n1_lt, n1_ge, n1_gt, i_0m1, nlt_t, nlt_f, nle_t, nle_f, neq_f, f_below, f_within, f_isCorner, f_isIn, f_isCornerM, f_isStreet, f_isHouse, f_isCrew, f_isRow, f_has10, f_has0, jx_I, jx_N, jx_m1, jr_I, jr_N1, jr_N2, wr_2, isB_0, isB_1, true_and, and_true, and_self, false_and, and_false, true_or, or_true, false_or, or_false, not_true_eq_false, not_false_eq_true, forall_const, implies_true, false_implies, ne_eq, eq_self, if_true, if_false, Nat.zero_add, Nat.add_zero, Nat.mul_zero, Nat.zero_mul, Nat.mul_one, Nat.one_mul, Nat.add_sub_cancel, Nat.reduceEqDiff, Nat.reduceAdd, Nat.reduceMul, Nat.reduceSub, Nat.reduceLeDiff, Nat.reduceLT, Nat.reduceDiv, Nat.reduceMod, r.s9, w.v9, t5, q]
    refine hL2 _ _ _ (by omega) ⟨s + 1, by omega, rfl, rfl, g1, g2, fun ea s' hs' ho => ?_⟩
    by_cases e2 : s' = s
    · subst e2; exact absurd ho q
    · exact g3 ea s' (by omega) ho
  simp (disch := first | assumption | omega) only [prv_n, nxt_n, q_sw, mc4, mc6, mc8, mc20, mc24, mc100, nv_rd, nb_rd, wr_rd, nI_lit, nI_add, pk_mul, pk_sub, q_div, cl_nI, vpi, q_eq, q_le, q_lt, n1_eq, n1_eq', n1_le, n1_lt, n1_ge, n1_gt, i_0m1, nlt_t, nlt_f, nle_t, nle_f, neq_f, f_below, f_within, f_isCorner, f_isIn, f_isCornerM, f_isStreet, f_isHouse, f_isCrew, f_isRow, f_has10, f_has0, jx_I, jx_N, jx_m1, jr_I, jr_N1, jr_N2, wr_2, isB_0, isB_1, true_and, and_true, and_self, false_and, and_false, true_or, or_true, false_or, or_false, not_true_eq_false, not_false_eq_true, forall_const, implies_true, false_implies, ne_eq, eq_self, if_true, if_false, Nat.zero_add, Nat.add_zero, Nat.mul_zero, Nat.zero_mul, Nat.mul_one, Nat.one_mul, Nat.add_sub_cancel, Nat.reduceEqDiff, Nat.reduceAdd, Nat.reduceMul, Nat.reduceSub, Nat.reduceLeDiff, Nat.reduceLT, Nat.reduceDiv, Nat.reduceMod, r.s9, w.v9, t5, q, t1, t2, w1.1, w2.1]
  generalize nI 1 <<< (nI (nv Y 247 s) &&& nI 31) = m1 at o1 ⊢
  generalize nI 1 <<< (nI (nv Y 248 s) &&& nI 31) = m2 at o2 ⊢
  have hz : d &&& (m1 ||| m2) = nI 0 ↔ (bt d (nv Y 247 s) = false ∧ bt d (nv Y 248 s) = false) := by
    rw [bt_ext0]
    constructor
    · intro h
      have a1 := h (nv Y 247 s) (by omega)
      have a2 := h (nv Y 248 s) (by omega)
      rw [b_and, b_or, o1 _ (by omega), o2 _ (by omega)] at a1 a2
      simp at a1 a2
      exact ⟨a1, a2⟩
    · intro h c hc
      rw [b_and, b_or, o1 _ hc, o2 _ hc]
      by_cases e1 : c = nv Y 247 s
      · subst e1; rw [h.1]; rfl
      · by_cases e2 : c = nv Y 248 s
        · subst e2; rw [h.2]; rfl
        · rw [decide_eq_false e1, decide_eq_false e2]; simp
  constructor
  · intro hq
    obtain ⟨f1, f2⟩ := hz.mp hq
    refine hL2 _ _ _ (by omega) ⟨s + 1, by omega, rfl, rfl, g1, g2, fun ea s' hs' ho => ?_⟩
    by_cases e2 : s' = s
    · subst e2
      subst ea
      exact ⟨fun h => by rw [f1] at h; exact absurd h (by decide), fun h => by rw [f2] at h; exact absurd h (by decide)⟩
    · exact g3 ea s' (by omega) ho
  · intro hq
    refine hL2 _ _ _ (by omega) ⟨s + 1, by omega, rfl, rfl, fun c hc h => ?_, fun c hc h => ?_, fun ea s' hs' ho => ?_⟩
    · rw [b_or, g1 c hc h]; rfl
    · rw [b_or, b_or, o1 _ hc, o2 _ hc] at h
      simp at h
      rcases h with h | h | h
      · exact g2 c hc h
      · omega
      · omega
    · have b1 : bt a (nv Y 247 s) = true := by rw [← ea, b_or, b_or, o1 _ (by omega)]; simp
      have b2 : bt a (nv Y 248 s) = true := by rw [← ea, b_or, b_or, o2 _ (by omega)]; simp
      by_cases e2 : s' = s
      · subst e2
        exact ⟨fun _ => b2, fun _ => b1⟩
      · have ed : d = a := by
          apply b_ext
          intro c hc
          cases q1 : bt d c
          · cases q2 : bt a c
            · rfl
            · rw [g1 c hc q2] at q1; exact absurd q1 (by decide)
          · have : bt (d ||| (m1 ||| m2)) c = true := by rw [b_or, q1]; rfl
            rw [ea] at this
            exact this.symm
        exact g3 ed s' (by omega) ho
theorem c_arr {x : ab_X} {Y : Nat → Nat → Int32} {D : Nat → UInt64} (r : RR x.1 Y D) (w : WW Y) {fr to mi v : Nat} (hf : fr < 20) (ht : to < 20) (hmi : mi ≤ 30000) (hv : 50 ≤ v) (hv2 : v ≤ 300) {K : Int32 → ab_X → Prop} (k : ∀ y : ab_X, (∀ c, c ≠ 8 → y.1 c = x.1 c) → y.2 = x.2 → K (cmr Y fr to mi v) y) : wX6_arrival (nI fr) (nI to) (nI mi) (nI v) x K := by
  unfold wX6_arrival
  simp (disch := first | assumption | omega) only [prv_n, nxt_n, q_sw, mc4, mc6, mc8, mc20, mc24, mc100, nv_rd, nb_rd, wr_rd, nI_lit, nI_add, pk_mul, pk_sub, q_div, cl_nI, vpi, q_eq, q_le, q_lt, n1_eq, n1_eq', n1_le, n1_lt, n1_ge, n1_gt, i_0m1, nlt_t, nlt_f, nle_t, nle_f, neq_f, f_below, f_within, f_isCorner, f_isIn, f_isCornerM, f_isStreet, f_isHouse, f_isCrew, f_isRow, f_has10, f_has0, jx_I, jx_N, jx_m1, jr_I, jr_N1, jr_N2, wr_2, isB_0, isB_1, true_and, and_true, and_self, false_and, and_false, true_or, or_true, false_or, or_false, not_true_eq_false, not_false_eq_true, forall_const, implies_true, false_implies, ne_eq, eq_self, if_true, if_false, Nat.zero_add, Nat.add_zero, Nat.mul_zero, Nat.zero_mul, Nat.mul_one, Nat.one_mul, Nat.add_sub_cancel, Nat.reduceEqDiff, Nat.reduceAdd, Nat.reduceMul, Nat.reduceSub, Nat.reduceLeDiff, Nat.reduceLT, Nat.reduceDiv, Nat.reduceMod]
  refine c_open r w hf (fun a h1 h2 => ?_)
  rw [bit_e (by omega)]
  cases q : bt a to
  · simp (disch := first | assumption | omega) only [prv_n, nxt_n, q_sw, mc4, mc6, mc8, mc20, mc24, mc100, nv_rd, nb_rd, wr_rd, nI_lit, nI_add, pk_mul, pk_sub, q_div, cl_nI, vpi, q_eq, q_le, q_lt, n1_eq, n1_eq', n1_le, n1_lt, n1_ge, n1_gt, i_0m1, nlt_t, nlt_f, nle_t, nle_f, neq_f, f_below, f_within, f_isCorner, f_isIn, f_isCornerM, f_isStreet, f_isHouse, f_isCrew, f_isRow, f_has10, f_has0, jx_I, jx_N, jx_m1, jr_I, jr_N1, jr_N2, wr_2, isB_0, isB_1, true_and, and_true, and_self, false_and, and_false, true_or, or_true, false_or, or_false, not_true_eq_false, not_false_eq_true, forall_const, implies_true, false_implies, ne_eq, eq_self, if_true, if_false, Nat.zero_add, Nat.add_zero, Nat.mul_zero, Nat.zero_mul, Nat.mul_one, Nat.one_mul, Nat.add_sub_cancel, Nat.reduceEqDiff, Nat.reduceAdd, Nat.reduceMul, Nat.reduceSub, Nat.reduceLeDiff, Nat.reduceLT, Nat.reduceDiv, Nat.reduceMod, bb_f]
    have : cmr Y fr to mi v = -nI 1 := by
      unfold cmr
      rw [if_pos]
      refine fstB_no (fun m _ _ => ?_)
      cases q2 : Am Y v mi fr m m to
      · rfl
      · have := Am_in (S := bt a) h1 h2 m m to q2
        rw [q] at this; exact absurd this (by decide)
    rw [← this]
    exact k x (fun _ _ => rfl) rfl
  simp (disch := first | assumption | omega) only [prv_n, nxt_n, q_sw, mc4, mc6, mc8, mc20, mc24, mc100, nv_rd, nb_rd, wr_rd, nI_lit, nI_add, pk_mul, pk_sub, q_div, cl_nI, vpi, q_eq, q_le, q_lt, n1_eq, n1_eq', n1_le, n1_lt, n1_ge, n1_gt, i_0m1, nlt_t, nlt_f, nle_t, nle_f, neq_f, f_below, f_within, f_isCorner, f_isIn, f_isCornerM, f_isStreet, f_isHouse, f_isCrew, f_isRow, f_has10, f_has0, jx_I, jx_N, jx_m1, jr_I, jr_N1, jr_N2, wr_2, isB_0, isB_1, true_and, and_true, and_self, false_and, and_false, true_or, or_true, false_or, or_false, not_true_eq_false, not_false_eq_true, forall_const, implies_true, false_implies, ne_eq, eq_self, if_true, if_false, Nat.zero_add, Nat.add_zero, Nat.mul_zero, Nat.zero_mul, Nat.mul_one, Nat.one_mul, Nat.add_sub_cancel, Nat.reduceEqDiff, Nat.reduceAdd, Nat.reduceMul, Nat.reduceSub, Nat.reduceLeDiff, Nat.reduceLT, Nat.reduceDiv, Nat.reduceMod, bb_t]
  refine c_fill (by decide) (fun y1 g1 g2 g3 g4 => ?_)
  have h0 : CRc x (wr y1 8 0 (nI 1 <<< (nI fr &&& nI 31))) (Am Y v mi fr 0) := by
    refine ⟨fun c hc => by rw [wr_n hc]; exact g1 c hc, g2, fun t c p1 p2 => ?_⟩
    show _ = (decide (t = 0) && decide (c = fr))
    by_cases q : t = 0
    · subst q; rw [wr_e, bt_one (by omega) p2, decide_eq_true rfl, Bool.true_and]
    · rw [wr_k q, g3 t (by omega), bt_z, decide_eq_false q, Bool.false_and]
  refine Lp2.ind (fun i a y => ∃ m, m ≤ 601 ∧ i = 601 - m ∧ a = nI m ∧ CRc x y (Am Y v mi fr m) ∧ ∀ m', m' < m → Am Y v mi fr m' m' to = false) 601 ⟨0, by omega, by omega, rfl, h0, fun m' h => by omega⟩ ?_
  rintro i a z ⟨m, hm, rfl, rfl, hz, no⟩ L2 hL2
  unfold lX6_arrival_48 wX6_partOf
  by_cases e : m = 601
  · simp (disch := first | assumption | omega) only [prv_n, nxt_n, q_sw, mc4, mc6, mc8, mc20, mc24, mc100, nv_rd, nb_rd, wr_rd, nI_lit, nI_add, pk_mul, pk_sub, q_div, cl_nI, vpi, q_eq, q_le, q_lt, n1_eq, n1_eq', n1_le, n1_lt, n1_ge, n1_gt, i_0m1, nlt_t, nlt_f, nle_t, nle_f, neq_f, f_below, f_within, f_isCorner, f_isIn, f_isCornerM, f_isStreet, f_isHouse, f_isCrew, f_isRow, f_has10, f_has0, jx_I, jx_N, jx_m1, jr_I, jr_N1, jr_N2, wr_2, isB_0, isB_1, true_and, and_true, and_self, false_and, and_false, true_or, or_true, false_or, or_false, not_true_eq_false, not_false_eq_true, forall_const, implies_true, false_implies, ne_eq, eq_self, if_true, if_false, Nat.zero_add, Nat.add_zero, Nat.mul_zero, Nat.zero_mul, Nat.mul_one, Nat.one_mul, Nat.add_sub_cancel, Nat.reduceEqDiff, Nat.reduceAdd, Nat.reduceMul, Nat.reduceSub, Nat.reduceLeDiff, Nat.reduceLT, Nat.reduceDiv, Nat.reduceMod]
    have : cmr Y fr to mi v = -nI 1 := by
      unfold cmr
      rw [if_pos (fstB_no (fun j h1 h2 => no j (by omega)))]
    rw [← this]
    exact k z hz.1 hz.2.1
  have e1 : ((z.1 8 m >>> (nI to &&& nI 31)) &&& nI 1) = bb (Am Y v mi fr m m to) := by rw [bit_e (by omega), hz.2.2 m to (by omega) (by omega)]
  cases rq : Am Y v mi fr m m to
  · rw [rq] at e1
    have no' : ∀ m', m' < m + 1 → Am Y v mi fr m' m' to = false := by
      intro m' hm'
      by_cases q : m' = m
      · subst q; exact rq
      · exact no m' (by omega)
    by_cases q0 : z.1 8 m = nI 0
    · rw [q0] at e1
      simp (disch := first | assumption | omega) only [prv_n, nxt_n, q_sw, mc4, mc6, mc8, mc20, mc24, mc100, nv_rd, nb_rd, wr_rd, nI_lit, nI_add, pk_mul, pk_sub, q_div, cl_nI, vpi, q_eq, q_le, q_lt, n1_eq, n1_eq', n1_le, n1_lt, n1_ge, n1_gt, i_0m1, nlt_t, nlt_f, nle_t, nle_f, neq_f, f_below, f_within, f_isCorner, f_isIn, f_isCornerM, f_isStreet, f_isHouse, f_isCrew, f_isRow, f_has10, f_has0, jx_I, jx_N, jx_m1, jr_I, jr_N1, jr_N2, wr_2, isB_0, isB_1, true_and, and_true, and_self, false_and, and_false, true_or, or_true, false_or, or_false, not_true_eq_false, not_false_eq_true, forall_const, implies_true, false_implies, ne_eq, eq_self, if_true, if_false, Nat.zero_add, Nat.add_zero, Nat.mul_zero, Nat.zero_mul, Nat.mul_one, Nat.one_mul, Nat.add_sub_cancel, Nat.reduceEqDiff, Nat.reduceAdd, Nat.reduceMul, Nat.reduceSub, Nat.reduceLeDiff, Nat.reduceLT, Nat.reduceDiv, Nat.reduceMod, e1, bb_f, q0]
      refine hL2 _ _ _ (by omega) ⟨m + 1, by omega, rfl, rfl, ?_, no'⟩
      have z0 : ∀ c, Am Y v mi fr m m c = false := by
        intro c
        cases q1 : Am Y v mi fr m m c
        · rfl
        · have c20 := Am_20 w hf m m c q1
          have := hz.2.2 m c (by omega) (by omega)
          rw [q0, bt_z, q1] at this
          exact absurd this (by decide)
      show CRc x z (spr Y v m (pN (mi + m)) (Am Y v mi fr m m) (nv Y 246 9) (Am Y v mi fr m))
      rw [spr_0 z0]
      exact hz
    · simp (disch := first | assumption | omega) only [prv_n, nxt_n, q_sw, mc4, mc6, mc8, mc20, mc24, mc100, nv_rd, nb_rd, wr_rd, nI_lit, nI_add, pk_mul, pk_sub, q_div, cl_nI, vpi, q_eq, q_le, q_lt, n1_eq, n1_eq', n1_le, n1_lt, n1_ge, n1_gt, i_0m1, nlt_t, nlt_f, nle_t, nle_f, neq_f, f_below, f_within, f_isCorner, f_isIn, f_isCornerM, f_isStreet, f_isHouse, f_isCrew, f_isRow, f_has10, f_has0, jx_I, jx_N, jx_m1, jr_I, jr_N1, jr_N2, wr_2, isB_0, isB_1, true_and, and_true, and_self, false_and, and_false, true_or, or_true, false_or, or_false, not_true_eq_false, not_false_eq_true, forall_const, implies_true, false_implies, ne_eq, eq_self, if_true, if_false, Nat.zero_add, Nat.add_zero, Nat.mul_zero, Nat.zero_mul, Nat.mul_one, Nat.one_mul, Nat.add_sub_cancel, Nat.reduceEqDiff, Nat.reduceAdd, Nat.reduceMul, Nat.reduceSub, Nat.reduceLeDiff, Nat.reduceLT, Nat.reduceDiv, Nat.reduceMod, e1, bb_f, q0]
      have pl := pN_lt (mi + m)
      unfold pN at pl
      exact c_spr (m := m) r w pl hv hv2 (by omega) hz (fun y' hy' => hL2 _ _ _ (by omega) ⟨m + 1, by omega, rfl, rfl, hy', no'⟩)
  · rw [rq] at e1
    simp (disch := first | assumption | omega) only [prv_n, nxt_n, q_sw, mc4, mc6, mc8, mc20, mc24, mc100, nv_rd, nb_rd, wr_rd, nI_lit, nI_add, pk_mul, pk_sub, q_div, cl_nI, vpi, q_eq, q_le, q_lt, n1_eq, n1_eq', n1_le, n1_lt, n1_ge, n1_gt, i_0m1, nlt_t, nlt_f, nle_t, nle_f, neq_f, f_below, f_within, f_isCorner, f_isIn, f_isCornerM, f_isStreet, f_isHouse, f_isCrew, f_isRow, f_has10, f_has0, jx_I, jx_N, jx_m1, jr_I, jr_N1, jr_N2, wr_2, isB_0, isB_1, true_and, and_true, and_self, false_and, and_false, true_or, or_true, false_or, or_false, not_true_eq_false, not_false_eq_true, forall_const, implies_true, false_implies, ne_eq, eq_self, if_true, if_false, Nat.zero_add, Nat.add_zero, Nat.mul_zero, Nat.zero_mul, Nat.mul_one, Nat.one_mul, Nat.add_sub_cancel, Nat.reduceEqDiff, Nat.reduceAdd, Nat.reduceMul, Nat.reduceSub, Nat.reduceLeDiff, Nat.reduceLT, Nat.reduceDiv, Nat.reduceMod, e1, bb_t]
    have f := fstB_yes (p := fun m => Am Y v mi fr m m to) (i := 0) (n := 601) (Nat.zero_le m) (by omega) rq (fun j _ h => no j h)
    have : cmr Y fr to mi v = nI (mi + m) := by
      unfold cmr
      rw [f, if_neg (n1_eq' (by omega)).mp, nI_add]
    rw [← this]
    exact k z hz.1 hz.2.1
theorem cmr_d {Y : Nat → Nat → Int32} (fr to mi v : Nat) : cmr Y fr to mi v = -nI 1 ∨ ∃ m, m ≤ 600 ∧ cmr Y fr to mi v = nI (mi + m) := by
  unfold cmr
  rcases fstB_d (fun m => Am Y v mi fr m m to) 601 0 with ⟨e, -⟩ | ⟨m, -, hm, -, e, -⟩
  · rw [if_pos e]; exact Or.inl rfl
  · rw [e, if_neg (n1_eq' (by omega)).mp, nI_add]
    exact Or.inr ⟨m, by omega, rfl⟩
theorem keepC_8 {x y : ab_X} (h : ∀ c, c ≠ 8 → y.1 c = x.1 c) : keepC x.1 y.1 := ⟨fun c q => h c (by unfold kC at q; omega), by rw [h 158 (by decide)], fun c f p q => by rw [h (82 + c) (by omega)]⟩
theorem keepM_8 {x y : ab_X} (h : ∀ c, c ≠ 8 → y.1 c = x.1 c) : keepM x.1 y.1 := ⟨fun c q => h c (by unfold kM at q; omega), fun f q => by rw [h 246 (by decide)]⟩
theorem keepC_253 {x y : ab_X} (h : ∀ c, c ≠ 253 → y.1 c = x.1 c) : keepC x.1 y.1 := ⟨fun c q => h c (by unfold kC at q; omega), by rw [h 158 (by decide)], fun c f p q => by rw [h (82 + c) (by omega)]⟩
theorem keepM_253 {x y : ab_X} (h : ∀ c, c ≠ 253 → y.1 c = x.1 c) : keepM x.1 y.1 := ⟨fun c q => h c (by unfold kM at q; omega), fun f q => by rw [h 246 (by decide)]⟩
theorem keepT_8 {x y : ab_X} (h : ∀ c, c ≠ 8 → y.1 c = x.1 c) : keepT x.1 y.1 := fun c k q => by rw [h c (by unfold tk at q; omega)]
theorem keepT_253 {x y : ab_X} (h : ∀ c, c ≠ 253 → y.1 c = x.1 c) : keepT x.1 y.1 := fun c k q => by rw [h c (by unfold tk at q; omega)]
theorem p_come {x : ab_X} {a b c d : Int32} (h : InvA x) {K : ab_X → Prop} (hk : ∀ z, InvA z → keepT x.1 z.1 → K z) :
    wX11_come a b c d x (fun r y => wX12_come a b c d y (fun r' z => r = r' ∧ K z)) := by
  unfold wX11_come
  rcases jr_d c (lo := 0) (hi := 30000) (by omega) (by omega) with e | ⟨mi, -, hmi, rfl⟩
  · simp (disch := first | assumption | omega) only [prv_n, nxt_n, q_sw, mc4, mc6, mc8, mc20, mc24, mc100, nv_rd, nb_rd, wr_rd, nI_lit, nI_add, pk_mul, pk_sub, q_div, cl_nI, vpi, q_eq, q_le, q_lt, n1_eq, n1_eq', n1_le, n1_lt, n1_ge, n1_gt, i_0m1, nlt_t, nlt_f, nle_t, nle_f, neq_f, f_below, f_within, f_isCorner, f_isIn, f_isCornerM, f_isStreet, f_isHouse, f_isCrew, f_isRow, f_has10, f_has0, jx_I, jx_N, jx_m1, jr_I, jr_N1, jr_N2, wr_2, isB_0, isB_1, true_and, and_true, and_self, false_and, and_false, true_or, or_true, false_or, or_false, not_true_eq_false, not_false_eq_true, forall_const, implies_true, false_implies, ne_eq, eq_self, if_true, if_false, Nat.zero_add, Nat.add_zero, Nat.mul_zero, Nat.zero_mul, Nat.mul_one, Nat.one_mul, Nat.add_sub_cancel, Nat.reduceEqDiff, Nat.reduceAdd, Nat.reduceMul, Nat.reduceSub, Nat.reduceLeDiff, Nat.reduceLT, Nat.reduceDiv, Nat.reduceMod, e]
    unfold wX12_come
    rcases jx_d a (n := 20) (by omega) with e2 | ⟨fr, hf, rfl⟩
    · simp (disch := first | assumption | omega) only [prv_n, nxt_n, q_sw, mc4, mc6, mc8, mc20, mc24, mc100, nv_rd, nb_rd, wr_rd, nI_lit, nI_add, pk_mul, pk_sub, q_div, cl_nI, vpi, q_eq, q_le, q_lt, n1_eq, n1_eq', n1_le, n1_lt, n1_ge, n1_gt, i_0m1, nlt_t, nlt_f, nle_t, nle_f, neq_f, f_below, f_within, f_isCorner, f_isIn, f_isCornerM, f_isStreet, f_isHouse, f_isCrew, f_isRow, f_has10, f_has0, jx_I, jx_N, jx_m1, jr_I, jr_N1, jr_N2, wr_2, isB_0, isB_1, true_and, and_true, and_self, false_and, and_false, true_or, or_true, false_or, or_false, not_true_eq_false, not_false_eq_true, forall_const, implies_true, false_implies, ne_eq, eq_self, if_true, if_false, Nat.zero_add, Nat.add_zero, Nat.mul_zero, Nat.zero_mul, Nat.mul_one, Nat.one_mul, Nat.add_sub_cancel, Nat.reduceEqDiff, Nat.reduceAdd, Nat.reduceMul, Nat.reduceSub, Nat.reduceLeDiff, Nat.reduceLT, Nat.reduceDiv, Nat.reduceMod, e, e2]
      exact hk _ (InvA_th h) keepT_th
    rcases jx_d b (n := 20) (by omega) with e2 | ⟨to, ht, rfl⟩
    · simp (disch := first | assumption | omega) only [prv_n, nxt_n, q_sw, mc4, mc6, mc8, mc20, mc24, mc100, nv_rd, nb_rd, wr_rd, nI_lit, nI_add, pk_mul, pk_sub, q_div, cl_nI, vpi, q_eq, q_le, q_lt, n1_eq, n1_eq', n1_le, n1_lt, n1_ge, n1_gt, i_0m1, nlt_t, nlt_f, nle_t, nle_f, neq_f, f_below, f_within, f_isCorner, f_isIn, f_isCornerM, f_isStreet, f_isHouse, f_isCrew, f_isRow, f_has10, f_has0, jx_I, jx_N, jx_m1, jr_I, jr_N1, jr_N2, wr_2, isB_0, isB_1, true_and, and_true, and_self, false_and, and_false, true_or, or_true, false_or, or_false, not_true_eq_false, not_false_eq_true, forall_const, implies_true, false_implies, ne_eq, eq_self, if_true, if_false, Nat.zero_add, Nat.add_zero, Nat.mul_zero, Nat.zero_mul, Nat.mul_one, Nat.one_mul, Nat.add_sub_cancel, Nat.reduceEqDiff, Nat.reduceAdd, Nat.reduceMul, Nat.reduceSub, Nat.reduceLeDiff, Nat.reduceLT, Nat.reduceDiv, Nat.reduceMod, e, e2]
      exact hk _ (InvA_th h) keepT_th
    · simp (disch := first | assumption | omega) only [prv_n, nxt_n, q_sw, mc4, mc6, mc8, mc20, mc24, mc100, nv_rd, nb_rd, wr_rd, nI_lit, nI_add, pk_mul, pk_sub, q_div, cl_nI, vpi, q_eq, q_le, q_lt, n1_eq, n1_eq', n1_le, n1_lt, n1_ge, n1_gt, i_0m1, nlt_t, nlt_f, nle_t, nle_f, neq_f, f_below, f_within, f_isCorner, f_isIn, f_isCornerM, f_isStreet, f_isHouse, f_isCrew, f_isRow, f_has10, f_has0, jx_I, jx_N, jx_m1, jr_I, jr_N1, jr_N2, wr_2, isB_0, isB_1, true_and, and_true, and_self, false_and, and_false, true_or, or_true, false_or, or_false, not_true_eq_false, not_false_eq_true, forall_const, implies_true, false_implies, ne_eq, eq_self, if_true, if_false, Nat.zero_add, Nat.add_zero, Nat.mul_zero, Nat.zero_mul, Nat.mul_one, Nat.one_mul, Nat.add_sub_cancel, Nat.reduceEqDiff, Nat.reduceAdd, Nat.reduceMul, Nat.reduceSub, Nat.reduceLeDiff, Nat.reduceLT, Nat.reduceDiv, Nat.reduceMod, e]
      exact hk _ (InvA_th h) keepT_th
  rcases jr_d d (lo := 50) (hi := 300) (by omega) (by omega) with e | ⟨v, hv, hv2, rfl⟩
  · simp (disch := first | assumption | omega) only [prv_n, nxt_n, q_sw, mc4, mc6, mc8, mc20, mc24, mc100, nv_rd, nb_rd, wr_rd, nI_lit, nI_add, pk_mul, pk_sub, q_div, cl_nI, vpi, q_eq, q_le, q_lt, n1_eq, n1_eq', n1_le, n1_lt, n1_ge, n1_gt, i_0m1, nlt_t, nlt_f, nle_t, nle_f, neq_f, f_below, f_within, f_isCorner, f_isIn, f_isCornerM, f_isStreet, f_isHouse, f_isCrew, f_isRow, f_has10, f_has0, jx_I, jx_N, jx_m1, jr_I, jr_N1, jr_N2, wr_2, isB_0, isB_1, true_and, and_true, and_self, false_and, and_false, true_or, or_true, false_or, or_false, not_true_eq_false, not_false_eq_true, forall_const, implies_true, false_implies, ne_eq, eq_self, if_true, if_false, Nat.zero_add, Nat.add_zero, Nat.mul_zero, Nat.zero_mul, Nat.mul_one, Nat.one_mul, Nat.add_sub_cancel, Nat.reduceEqDiff, Nat.reduceAdd, Nat.reduceMul, Nat.reduceSub, Nat.reduceLeDiff, Nat.reduceLT, Nat.reduceDiv, Nat.reduceMod, e]
    unfold wX12_come
    rcases jx_d a (n := 20) (by omega) with e2 | ⟨fr, hf, rfl⟩
    · simp (disch := first | assumption | omega) only [prv_n, nxt_n, q_sw, mc4, mc6, mc8, mc20, mc24, mc100, nv_rd, nb_rd, wr_rd, nI_lit, nI_add, pk_mul, pk_sub, q_div, cl_nI, vpi, q_eq, q_le, q_lt, n1_eq, n1_eq', n1_le, n1_lt, n1_ge, n1_gt, i_0m1, nlt_t, nlt_f, nle_t, nle_f, neq_f, f_below, f_within, f_isCorner, f_isIn, f_isCornerM, f_isStreet, f_isHouse, f_isCrew, f_isRow, f_has10, f_has0, jx_I, jx_N, jx_m1, jr_I, jr_N1, jr_N2, wr_2, isB_0, isB_1, true_and, and_true, and_self, false_and, and_false, true_or, or_true, false_or, or_false, not_true_eq_false, not_false_eq_true, forall_const, implies_true, false_implies, ne_eq, eq_self, if_true, if_false, Nat.zero_add, Nat.add_zero, Nat.mul_zero, Nat.zero_mul, Nat.mul_one, Nat.one_mul, Nat.add_sub_cancel, Nat.reduceEqDiff, Nat.reduceAdd, Nat.reduceMul, Nat.reduceSub, Nat.reduceLeDiff, Nat.reduceLT, Nat.reduceDiv, Nat.reduceMod, e, e2]
      exact hk _ (InvA_th h) keepT_th
    rcases jx_d b (n := 20) (by omega) with e2 | ⟨to, ht, rfl⟩
    · simp (disch := first | assumption | omega) only [prv_n, nxt_n, q_sw, mc4, mc6, mc8, mc20, mc24, mc100, nv_rd, nb_rd, wr_rd, nI_lit, nI_add, pk_mul, pk_sub, q_div, cl_nI, vpi, q_eq, q_le, q_lt, n1_eq, n1_eq', n1_le, n1_lt, n1_ge, n1_gt, i_0m1, nlt_t, nlt_f, nle_t, nle_f, neq_f, f_below, f_within, f_isCorner, f_isIn, f_isCornerM, f_isStreet, f_isHouse, f_isCrew, f_isRow, f_has10, f_has0, jx_I, jx_N, jx_m1, jr_I, jr_N1, jr_N2, wr_2, isB_0, isB_1, true_and, and_true, and_self, false_and, and_false, true_or, or_true, false_or, or_false, not_true_eq_false, not_false_eq_true, forall_const, implies_true, false_implies, ne_eq, eq_self, if_true, if_false, Nat.zero_add, Nat.add_zero, Nat.mul_zero, Nat.zero_mul, Nat.mul_one, Nat.one_mul, Nat.add_sub_cancel, Nat.reduceEqDiff, Nat.reduceAdd, Nat.reduceMul, Nat.reduceSub, Nat.reduceLeDiff, Nat.reduceLT, Nat.reduceDiv, Nat.reduceMod, e, e2]
      exact hk _ (InvA_th h) keepT_th
    · simp (disch := first | assumption | omega) only [prv_n, nxt_n, q_sw, mc4, mc6, mc8, mc20, mc24, mc100, nv_rd, nb_rd, wr_rd, nI_lit, nI_add, pk_mul, pk_sub, q_div, cl_nI, vpi, q_eq, q_le, q_lt, n1_eq, n1_eq', n1_le, n1_lt, n1_ge, n1_gt, i_0m1, nlt_t, nlt_f, nle_t, nle_f, neq_f, f_below, f_within, f_isCorner, f_isIn, f_isCornerM, f_isStreet, f_isHouse, f_isCrew, f_isRow, f_has10, f_has0, jx_I, jx_N, jx_m1, jr_I, jr_N1, jr_N2, wr_2, isB_0, isB_1, true_and, and_true, and_self, false_and, and_false, true_or, or_true, false_or, or_false, not_true_eq_false, not_false_eq_true, forall_const, implies_true, false_implies, ne_eq, eq_self, if_true, if_false, Nat.zero_add, Nat.add_zero, Nat.mul_zero, Nat.zero_mul, Nat.mul_one, Nat.one_mul, Nat.add_sub_cancel, Nat.reduceEqDiff, Nat.reduceAdd, Nat.reduceMul, Nat.reduceSub, Nat.reduceLeDiff, Nat.reduceLT, Nat.reduceDiv, Nat.reduceMod, e]
      exact hk _ (InvA_th h) keepT_th
  simp (disch := first | assumption | omega) only [prv_n, nxt_n, q_sw, mc4, mc6, mc8, mc20, mc24, mc100, nv_rd, nb_rd, wr_rd, nI_lit, nI_add, pk_mul, pk_sub, q_div, cl_nI, vpi, q_eq, q_le, q_lt, n1_eq, n1_eq', n1_le, n1_lt, n1_ge, n1_gt, i_0m1, nlt_t, nlt_f, nle_t, nle_f, neq_f, f_below, f_within, f_isCorner, f_isIn, f_isCornerM, f_isStreet, f_isHouse, f_isCrew, f_isRow, f_has10, f_has0, jx_I, jx_N, jx_m1, jr_I, jr_N1, jr_N2, wr_2, isB_0, isB_1, true_and, and_true, and_self, false_and, and_false, true_or, or_true, false_or, or_false, not_true_eq_false, not_false_eq_true, forall_const, implies_true, false_implies, ne_eq, eq_self, if_true, if_false, Nat.zero_add, Nat.add_zero, Nat.mul_zero, Nat.zero_mul, Nat.mul_one, Nat.one_mul, Nat.add_sub_cancel, Nat.reduceEqDiff, Nat.reduceAdd, Nat.reduceMul, Nat.reduceSub, Nat.reduceLeDiff, Nat.reduceLT, Nat.reduceDiv, Nat.reduceMod]
  rcases jx_d a (n := 20) (by omega) with e2 | ⟨fr, hf, rfl⟩
  · unfold wX6_arrival wX12_come
    simp (disch := first | assumption | omega) only [prv_n, nxt_n, q_sw, mc4, mc6, mc8, mc20, mc24, mc100, nv_rd, nb_rd, wr_rd, nI_lit, nI_add, pk_mul, pk_sub, q_div, cl_nI, vpi, q_eq, q_le, q_lt, n1_eq, n1_eq', n1_le, n1_lt, n1_ge, n1_gt, i_0m1, nlt_t, nlt_f, nle_t, nle_f, neq_f, f_below, f_within, f_isCorner, f_isIn, f_isCornerM, f_isStreet, f_isHouse, f_isCrew, f_isRow, f_has10, f_has0, jx_I, jx_N, jx_m1, jr_I, jr_N1, jr_N2, wr_2, isB_0, isB_1, true_and, and_true, and_self, false_and, and_false, true_or, or_true, false_or, or_false, not_true_eq_false, not_false_eq_true, forall_const, implies_true, false_implies, ne_eq, eq_self, if_true, if_false, Nat.zero_add, Nat.add_zero, Nat.mul_zero, Nat.zero_mul, Nat.mul_one, Nat.one_mul, Nat.add_sub_cancel, Nat.reduceEqDiff, Nat.reduceAdd, Nat.reduceMul, Nat.reduceSub, Nat.reduceLeDiff, Nat.reduceLT, Nat.reduceDiv, Nat.reduceMod, e2]
    exact hk _ (InvA_th h) keepT_th
  rcases jx_d b (n := 20) (by omega) with e2 | ⟨to, ht, rfl⟩
  · unfold wX6_arrival wX12_come
    simp (disch := first | assumption | omega) only [prv_n, nxt_n, q_sw, mc4, mc6, mc8, mc20, mc24, mc100, nv_rd, nb_rd, wr_rd, nI_lit, nI_add, pk_mul, pk_sub, q_div, cl_nI, vpi, q_eq, q_le, q_lt, n1_eq, n1_eq', n1_le, n1_lt, n1_ge, n1_gt, i_0m1, nlt_t, nlt_f, nle_t, nle_f, neq_f, f_below, f_within, f_isCorner, f_isIn, f_isCornerM, f_isStreet, f_isHouse, f_isCrew, f_isRow, f_has10, f_has0, jx_I, jx_N, jx_m1, jr_I, jr_N1, jr_N2, wr_2, isB_0, isB_1, true_and, and_true, and_self, false_and, and_false, true_or, or_true, false_or, or_false, not_true_eq_false, not_false_eq_true, forall_const, implies_true, false_implies, ne_eq, eq_self, if_true, if_false, Nat.zero_add, Nat.add_zero, Nat.mul_zero, Nat.zero_mul, Nat.mul_one, Nat.one_mul, Nat.add_sub_cancel, Nat.reduceEqDiff, Nat.reduceAdd, Nat.reduceMul, Nat.reduceSub, Nat.reduceLeDiff, Nat.reduceLT, Nat.reduceDiv, Nat.reduceMod, e2]
    exact hk _ (InvA_th h) keepT_th
  refine c_arr h.1 h.2 hf ht hmi hv hv2 (fun y hy1 hy2 => ?_)
  have iy : InvA y := InvA_keep h (keepC_8 hy1) (keepM_8 hy1) (fun k _ => by rw [hy1 268 (by decide)]) (by rw [hy2])
  unfold wX12_come
  simp (disch := first | assumption | omega) only [prv_n, nxt_n, q_sw, mc4, mc6, mc8, mc20, mc24, mc100, nv_rd, nb_rd, wr_rd, nI_lit, nI_add, pk_mul, pk_sub, q_div, cl_nI, vpi, q_eq, q_le, q_lt, n1_eq, n1_eq', n1_le, n1_lt, n1_ge, n1_gt, i_0m1, nlt_t, nlt_f, nle_t, nle_f, neq_f, f_below, f_within, f_isCorner, f_isIn, f_isCornerM, f_isStreet, f_isHouse, f_isCrew, f_isRow, f_has10, f_has0, jx_I, jx_N, jx_m1, jr_I, jr_N1, jr_N2, wr_2, isB_0, isB_1, true_and, and_true, and_self, false_and, and_false, true_or, or_true, false_or, or_false, not_true_eq_false, not_false_eq_true, forall_const, implies_true, false_implies, ne_eq, eq_self, if_true, if_false, Nat.zero_add, Nat.add_zero, Nat.mul_zero, Nat.zero_mul, Nat.mul_one, Nat.one_mul, Nat.add_sub_cancel, Nat.reduceEqDiff, Nat.reduceAdd, Nat.reduceMul, Nat.reduceSub, Nat.reduceLeDiff, Nat.reduceLT, Nat.reduceDiv, Nat.reduceMod]
  have m : keepM y.1 (wr y 246 0 (nI 0)).1 := keepM_th
  have m2 : keepM x.1 (wr y 246 0 (nI 0)).1 := (keepM_8 hy1).tr m
  refine m_come m2 h.2 hf ht hmi hv hv2 (fun z hz1 hz2 => ⟨rfl, hk z ?_ ?_⟩)
  · exact InvA_keep (InvA_th iy) (keepC_253 hz1) (keepM_253 hz1) (fun k _ => by rw [hz1 268 (by decide)]) (by rw [hz2])
  · exact ((keepT_8 hy1).tr keepT_th).tr (keepT_253 hz1)
