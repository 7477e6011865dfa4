/-! THE FIRE: burning rooms of a house, the worst house of a corner. -/
theorem cn_le (p : Nat → Bool) (n : Nat) : cn p n ≤ n := by
  induction n with
  | zero => exact Nat.le_refl 0
  | succ n ih => show cn p n + (if p n then 1 else 0) ≤ n + 1; split <;> omega
theorem cn_0 {p : Nat → Bool} {n : Nat} (h : ∀ i, i < n → p i = false) : cn p n = 0 := by
  induction n with
  | zero => rfl
  | succ n ih => show cn p n + (if p n then 1 else 0) = 0; rw [ih (fun i hi => h i (by omega)), h n (by omega)]; rfl
theorem cn_pos {p : Nat → Bool} {n : Nat} : 0 < cn p n ↔ ∃ i, i < n ∧ p i = true := by
  induction n with
  | zero => exact ⟨fun h => absurd h (Nat.lt_irrefl 0), fun ⟨i, hi, _⟩ => by omega⟩
  | succ n ih =>
    show 0 < cn p n + (if p n then 1 else 0) ↔ _
    by_cases q : p n = true
    · rw [if_pos q]; exact ⟨fun _ => ⟨n, by omega, q⟩, fun _ => by omega⟩
    · rw [if_neg q, Nat.add_zero, ih]
      exact ⟨fun ⟨i, hi, e⟩ => ⟨i, by omega, e⟩, fun ⟨i, hi, e⟩ => ⟨i, by (have : i ≠ n := fun e' => q (e' ▸ e)); omega, e⟩⟩
theorem cn_congr {p q : Nat → Bool} {n : Nat} (h : ∀ i, i < n → p i = q i) : cn p n = cn q n := by
  induction n with
  | zero => rfl
  | succ n ih => show cn p n + (if p n then 1 else 0) = cn q n + (if q n then 1 else 0); rw [ih (fun i hi => h i (by omega)), h n (by omega)]
theorem lp_cnt {F : (Int32 → Int32 → Prop) → Int32 → Int32 → Prop} (n : Nat) (p : Nat → Bool) {K : Int32 → Prop} (hs : ∀ i s L, i < n → s ≤ i → L (nI s + bb (p i)) (nI (i + 1)) → F L (nI s) (nI i)) (he : ∀ s L, K s → F L s (nI n)) (k : K (nI (cn p n))) : Lp2 F 0 0 :=
  Lp2.seq n (fun i => nI (cn p i)) nI rfl rfl (fun i hi L h => hs i _ L hi (cn_le p i) (by
    have e : nI (cn p (i + 1)) = nI (cn p i) + bb (p i) := by
      show nI (cn p i + (if p i then 1 else 0)) = _
      by_cases q : p i = true
      · rw [if_pos q, q, bb_t, nI_add]
      · have q' : p i = false := by simpa using q
        rw [q', bb_f, nI_add]; rfl
    rw [← e]; exact h)) (fun L => he _ L k)
theorem bg_le {Y : Nat → Nat → Int32} {h : Nat} (w : TW Y) (hh : h < nv Y 246 31) : bg Y h ≤ 24 := Nat.le_trans (cn_le _ _) (rm_le w hh)
theorem m_burning {x : ab_X} {Y : Nat → Nat → Int32} {h : Nat} (m : keepF Y x.1) (w : TW Y) (hh : h < nv Y 246 31) {K : Int32 → Prop} (k : K (nI (bg Y h))) : wX12_burning (nI h) x K := by
  have b := w.b
  have rm := rm_le w hh
  obtain ⟨-, -, w3, -, w5, -⟩ := w.2.1.1 h hh
  unfold wX12_burning
  refine lp_cnt _ _ (K := K) ?_ ?_ k
  · intro i s L hi hs hL
    unfold lX12_burning_4 wX12_burning_36
    simp (disch := first | assumption | omega) only [prv_n, nxt_n, q_sw, mc4, mc6, mc8, mc20, mc24, mc100, nv_rd, nb_rd, wr_rd, nI_lit, nI_add, pk_mul, pk_sub, q_div, cl_nI, vpi, q_eq, q_le, q_lt, n1_eq, n1_eq', n1_le, n1_lt, n1_ge, n1_gt, i_0m1, nlt_t, nlt_f, nle_t, nle_f, neq_f, f_below, f_within, f_isCorner, f_isIn, f_isCornerM, f_isStreet, f_isHouse, f_isCrew, f_isRow, f_has10, f_has0, jx_I, jx_N, jx_m1, jr_I, jr_N1, jr_N2, wr_2, isB_0, isB_1, true_and, and_true, and_self, false_and, and_false, true_or, or_true, false_or, or_false, not_true_eq_false, not_false_eq_true, forall_const, implies_true, false_implies, ne_eq, eq_self, if_true, if_false, Nat.zero_add, Nat.add_zero, Nat.mul_zero, Nat.zero_mul, Nat.mul_one, Nat.one_mul, Nat.add_sub_cancel, Nat.reduceEqDiff, Nat.reduceAdd, Nat.reduceMul, Nat.reduceSub, Nat.reduceLeDiff, Nat.reduceLT, Nat.reduceDiv, Nat.reduceMod, m.c256, m.c257, w3.1, w5.1]
    refine m_burns m w hh hi ?_
    cases q : bu Y (24 * h + i)
    · rw [q, bb_f] at hL
      simp (disch := first | assumption | omega) only [prv_n, nxt_n, q_sw, mc4, mc6, mc8, mc20, mc24, mc100, nv_rd, nb_rd, wr_rd, nI_lit, nI_add, pk_mul, pk_sub, q_div, cl_nI, vpi, q_eq, q_le, q_lt, n1_eq, n1_eq', n1_le, n1_lt, n1_ge, n1_gt, i_0m1, nlt_t, nlt_f, nle_t, nle_f, neq_f, f_below, f_within, f_isCorner, f_isIn, f_isCornerM, f_isStreet, f_isHouse, f_isCrew, f_isRow, f_has10, f_has0, jx_I, jx_N, jx_m1, jr_I, jr_N1, jr_N2, wr_2, isB_0, isB_1, true_and, and_true, and_self, false_and, and_false, true_or, or_true, false_or, or_false, not_true_eq_false, not_false_eq_true, forall_const, implies_true, false_implies, ne_eq, eq_self, if_true, if_false, Nat.zero_add, Nat.add_zero, Nat.mul_zero, Nat.zero_mul, Nat.mul_one, Nat.one_mul, Nat.add_sub_cancel, Nat.reduceEqDiff, Nat.reduceAdd, Nat.reduceMul, Nat.reduceSub, Nat.reduceLeDiff, Nat.reduceLT, Nat.reduceDiv, Nat.reduceMod, bb_f] at hL ⊢
      exact hL
    · rw [q, bb_t] at hL
      simp (disch := first | assumption | omega) only [prv_n, nxt_n, q_sw, mc4, mc6, mc8, mc20, mc24, mc100, nv_rd, nb_rd, wr_rd, nI_lit, nI_add, pk_mul, pk_sub, q_div, cl_nI, vpi, q_eq, q_le, q_lt, n1_eq, n1_eq', n1_le, n1_lt, n1_ge, n1_gt, i_0m1, nlt_t, nlt_f, nle_t, nle_f, neq_f, f_below, f_within, f_isCorner, f_isIn, f_isCornerM, f_isStreet, f_isHouse, f_isCrew, f_isRow, f_has10, f_has0, jx_I, jx_N, jx_m1, jr_I, jr_N1, jr_N2, wr_2, isB_0, isB_1, true_and, and_true, and_self, false_and, and_false, true_or, or_true, false_or, or_false, not_true_eq_false, not_false_eq_true, forall_const, implies_true, false_implies, ne_eq, eq_self, if_true, if_false, Nat.zero_add, Nat.add_zero, Nat.mul_zero, Nat.zero_mul, Nat.mul_one, Nat.one_mul, Nat.add_sub_cancel, Nat.reduceEqDiff, Nat.reduceAdd, Nat.reduceMul, Nat.reduceSub, Nat.reduceLeDiff, Nat.reduceLT, Nat.reduceDiv, Nat.reduceMod, bb_t] at hL ⊢
      exact hL
  · intro s L hK
    unfold lX12_burning_4
    simp (disch := first | assumption | omega) only [prv_n, nxt_n, q_sw, mc4, mc6, mc8, mc20, mc24, mc100, nv_rd, nb_rd, wr_rd, nI_lit, nI_add, pk_mul, pk_sub, q_div, cl_nI, vpi, q_eq, q_le, q_lt, n1_eq, n1_eq', n1_le, n1_lt, n1_ge, n1_gt, i_0m1, nlt_t, nlt_f, nle_t, nle_f, neq_f, f_below, f_within, f_isCorner, f_isIn, f_isCornerM, f_isStreet, f_isHouse, f_isCrew, f_isRow, f_has10, f_has0, jx_I, jx_N, jx_m1, jr_I, jr_N1, jr_N2, wr_2, isB_0, isB_1, true_and, and_true, and_self, false_and, and_false, true_or, or_true, false_or, or_false, not_true_eq_false, not_false_eq_true, forall_const, implies_true, false_implies, ne_eq, eq_self, if_true, if_false, Nat.zero_add, Nat.add_zero, Nat.mul_zero, Nat.zero_mul, Nat.mul_one, Nat.one_mul, Nat.add_sub_cancel, Nat.reduceEqDiff, Nat.reduceAdd, Nat.reduceMul, Nat.reduceSub, Nat.reduceLeDiff, Nat.reduceLT, Nat.reduceDiv, Nat.reduceMod, m.c256, m.c257, w3.1, w5.1]
    exact hK
theorem c_burning {x : ab_X} {Y : Nat → Nat → Int32} {v h : Nat} (t : TR v x.1 Y) (w : TW Y) (hh : h < nv Y 246 31) {K : Int32 → Prop} (k : K (nI (bg Y h))) : wX3_burningRooms v (30 + 3 * h) x K := by
  have b := w.b
  have rm := rm_le w hh
  obtain ⟨-, -, w3, -, w5, -⟩ := w.2.1.1 h hh
  obtain ⟨-, -, t3, t4, -⟩ := t.2.1.2.2.1 h hh
  have t0 := (t.2.1.1 h (by omega)).1
  unfold wX3_burningRooms
  by_cases q : x.1 v 7 = nI 0
  · simp (disch := first | assumption | omega) only [prv_n, nxt_n, q_sw, mc4, mc6, mc8, mc20, mc24, mc100, nv_rd, nb_rd, wr_rd, nI_lit, nI_add, pk_mul, pk_sub, q_div, cl_nI, vpi, q_eq, q_le, q_lt, n1_eq, n1_eq', n1_le, n1_lt, n1_ge, n1_gt, i_0m1, nlt_t, nlt_f, nle_t, nle_f, neq_f, f_below, f_within, f_isCorner, f_isIn, f_isCornerM, f_isStreet, f_isHouse, f_isCrew, f_isRow, f_has10, f_has0, jx_I, jx_N, jx_m1, jr_I, jr_N1, jr_N2, wr_2, isB_0, isB_1, true_and, and_true, and_self, false_and, and_false, true_or, or_true, false_or, or_false, not_true_eq_false, not_false_eq_true, forall_const, implies_true, false_implies, ne_eq, eq_self, if_true, if_false, Nat.zero_add, Nat.add_zero, Nat.mul_zero, Nat.zero_mul, Nat.mul_one, Nat.one_mul, Nat.add_sub_cancel, Nat.reduceEqDiff, Nat.reduceAdd, Nat.reduceMul, Nat.reduceSub, Nat.reduceLeDiff, Nat.reduceLT, Nat.reduceDiv, Nat.reduceMod, q]
    refine lp_cnt _ _ (K := K) ?_ ?_ k
    · intro i s L hi hs hL
      unfold lX3_burningRooms_11 wX3_burningRooms_42 wX4_place
      simp (disch := first | assumption | omega) only [prv_n, nxt_n, q_sw, mc4, mc6, mc8, mc20, mc24, mc100, nv_rd, nb_rd, wr_rd, nI_lit, nI_add, pk_mul, pk_sub, q_div, cl_nI, vpi, q_eq, q_le, q_lt, n1_eq, n1_eq', n1_le, n1_lt, n1_ge, n1_gt, i_0m1, nlt_t, nlt_f, nle_t, nle_f, neq_f, f_below, f_within, f_isCorner, f_isIn, f_isCornerM, f_isStreet, f_isHouse, f_isCrew, f_isRow, f_has10, f_has0, jx_I, jx_N, jx_m1, jr_I, jr_N1, jr_N2, wr_2, isB_0, isB_1, true_and, and_true, and_self, false_and, and_false, true_or, or_true, false_or, or_false, not_true_eq_false, not_false_eq_true, forall_const, implies_true, false_implies, ne_eq, eq_self, if_true, if_false, Nat.zero_add, Nat.add_zero, Nat.mul_zero, Nat.zero_mul, Nat.mul_one, Nat.one_mul, Nat.add_sub_cancel, Nat.reduceEqDiff, Nat.reduceAdd, Nat.reduceMul, Nat.reduceSub, Nat.reduceLeDiff, Nat.reduceLT, Nat.reduceDiv, Nat.reduceMod, t3, t4, w3.1, w5.1, t0]
      refine c_burns t w (by omega) ?_
      cases q : bu Y (24 * h + i)
      · rw [q, bb_f] at hL
        simp (disch := first | assumption | omega) only [prv_n, nxt_n, q_sw, mc4, mc6, mc8, mc20, mc24, mc100, nv_rd, nb_rd, wr_rd, nI_lit, nI_add, pk_mul, pk_sub, q_div, cl_nI, vpi, q_eq, q_le, q_lt, n1_eq, n1_eq', n1_le, n1_lt, n1_ge, n1_gt, i_0m1, nlt_t, nlt_f, nle_t, nle_f, neq_f, f_below, f_within, f_isCorner, f_isIn, f_isCornerM, f_isStreet, f_isHouse, f_isCrew, f_isRow, f_has10, f_has0, jx_I, jx_N, jx_m1, jr_I, jr_N1, jr_N2, wr_2, isB_0, isB_1, true_and, and_true, and_self, false_and, and_false, true_or, or_true, false_or, or_false, not_true_eq_false, not_false_eq_true, forall_const, implies_true, false_implies, ne_eq, eq_self, if_true, if_false, Nat.zero_add, Nat.add_zero, Nat.mul_zero, Nat.zero_mul, Nat.mul_one, Nat.one_mul, Nat.add_sub_cancel, Nat.reduceEqDiff, Nat.reduceAdd, Nat.reduceMul, Nat.reduceSub, Nat.reduceLeDiff, Nat.reduceLT, Nat.reduceDiv, Nat.reduceMod, bb_f] at hL ⊢
        exact hL
      · rw [q, bb_t] at hL
        simp (disch := first | assumption | omega) only [prv_n, nxt_n, q_sw, mc4, mc6, mc8, mc20, mc24, mc100, nv_rd, nb_rd, wr_rd, nI_lit, nI_add, pk_mul, pk_sub, q_div, cl_nI, vpi, q_eq, q_le, q_lt, n1_eq, n1_eq', n1_le, n1_lt, n1_ge, n1_gt, i_0m1, nlt_t, nlt_f, nle_t, nle_f, neq_f, f_below, f_within, f_isCorner, f_isIn, f_isCornerM, f_isStreet, f_isHouse, f_isCrew, f_isRow, f_has10, f_has0, jx_I, jx_N, jx_m1, jr_I, jr_N1, jr_N2, wr_2, isB_0, isB_1, true_and, and_true, and_self, false_and, and_false, true_or, or_true, false_or, or_false, not_true_eq_false, not_false_eq_true, forall_const, implies_true, false_implies, ne_eq, eq_self, if_true, if_false, Nat.zero_add, Nat.add_zero, Nat.mul_zero, Nat.zero_mul, Nat.mul_one, Nat.one_mul, Nat.add_sub_cancel, Nat.reduceEqDiff, Nat.reduceAdd, Nat.reduceMul, Nat.reduceSub, Nat.reduceLeDiff, Nat.reduceLT, Nat.reduceDiv, Nat.reduceMod, bb_t] at hL ⊢
        exact hL
    · intro s L hK
      unfold lX3_burningRooms_11
      simp (disch := first | assumption | omega) only [prv_n, nxt_n, q_sw, mc4, mc6, mc8, mc20, mc24, mc100, nv_rd, nb_rd, wr_rd, nI_lit, nI_add, pk_mul, pk_sub, q_div, cl_nI, vpi, q_eq, q_le, q_lt, n1_eq, n1_eq', n1_le, n1_lt, n1_ge, n1_gt, i_0m1, nlt_t, nlt_f, nle_t, nle_f, neq_f, f_below, f_within, f_isCorner, f_isIn, f_isCornerM, f_isStreet, f_isHouse, f_isCrew, f_isRow, f_has10, f_has0, jx_I, jx_N, jx_m1, jr_I, jr_N1, jr_N2, wr_2, isB_0, isB_1, true_and, and_true, and_self, false_and, and_false, true_or, or_true, false_or, or_false, not_true_eq_false, not_false_eq_true, forall_const, implies_true, false_implies, ne_eq, eq_self, if_true, if_false, Nat.zero_add, Nat.add_zero, Nat.mul_zero, Nat.zero_mul, Nat.mul_one, Nat.one_mul, Nat.add_sub_cancel, Nat.reduceEqDiff, Nat.reduceAdd, Nat.reduceMul, Nat.reduceSub, Nat.reduceLeDiff, Nat.reduceLT, Nat.reduceDiv, Nat.reduceMod, t3, t4, w3.1, w5.1]
      exact hK
  · have z := t.2.2.2.2.2 q
    have e : bg Y h = 0 := cn_0 (fun i hi => bu_f1 (by rw [nv_of (z _ (by omega)) (by decide)]; decide))
    rw [e] at k
    simp (disch := first | assumption | omega) only [prv_n, nxt_n, q_sw, mc4, mc6, mc8, mc20, mc24, mc100, nv_rd, nb_rd, wr_rd, nI_lit, nI_add, pk_mul, pk_sub, q_div, cl_nI, vpi, q_eq, q_le, q_lt, n1_eq, n1_eq', n1_le, n1_lt, n1_ge, n1_gt, i_0m1, nlt_t, nlt_f, nle_t, nle_f, neq_f, f_below, f_within, f_isCorner, f_isIn, f_isCornerM, f_isStreet, f_isHouse, f_isCrew, f_isRow, f_has10, f_has0, jx_I, jx_N, jx_m1, jr_I, jr_N1, jr_N2, wr_2, isB_0, isB_1, true_and, and_true, and_self, false_and, and_false, true_or, or_true, false_or, or_false, not_true_eq_false, not_false_eq_true, forall_const, implies_true, false_implies, ne_eq, eq_self, if_true, if_false, Nat.zero_add, Nat.add_zero, Nat.mul_zero, Nat.zero_mul, Nat.mul_one, Nat.one_mul, Nat.add_sub_cancel, Nat.reduceEqDiff, Nat.reduceAdd, Nat.reduceMul, Nat.reduceSub, Nat.reduceLeDiff, Nat.reduceLT, Nat.reduceDiv, Nat.reduceMod, q]
    exact k
theorem wo_d (Y : Nat → Nat → Int32) (c : Int32) (n : Nat) : (wo Y c n = (-nI 1, 0) ∧ ∀ h, h < n → Y 254 h = c → bg Y h = 0) ∨ ∃ h, h < n ∧ wo Y c n = (nI h, bg Y h) ∧ 0 < bg Y h ∧ Y 254 h = c := by
  induction n with
  | zero => exact Or.inl ⟨rfl, fun h hh => by omega⟩
  | succ n ih =>
    show (((if Y 254 n = c ∧ (wo Y c n).2 < bg Y n then (nI n, bg Y n) else wo Y c n) = (-nI 1, 0)) ∧ _) ∨ ∃ h, h < n + 1 ∧ (if Y 254 n = c ∧ (wo Y c n).2 < bg Y n then (nI n, bg Y n) else wo Y c n) = _ ∧ _
    by_cases q : Y 254 n = c ∧ (wo Y c n).2 < bg Y n
    · rw [if_pos q]
      exact Or.inr ⟨n, by omega, rfl, by omega, q.1⟩
    · rw [if_neg q]
      rcases ih with ⟨e, z⟩ | ⟨h, hh, e, p, e2⟩
      · refine Or.inl ⟨e, fun h hh e3 => ?_⟩
        by_cases q2 : h = n
        · subst q2
          rw [e] at q
          apply Classical.byContradiction
          intro ne
          exact q ⟨e3, by show 0 < _; omega⟩
        · exact z h (by omega) e3
      · exact Or.inr ⟨h, by omega, e, p, e2⟩
theorem m_worst {x : ab_X} {Y : Nat → Nat → Int32} {c : Int32} (m : keepF Y x.1) (w : TW Y) {K : Int32 → Prop} (k : K (wor Y c)) : wX12_worstAt c x K := by
  have b := w.b
  unfold wX12_worstAt
  refine Lp2.seq (nv Y 246 31) (fun i => (wo Y c i).1) nI rfl rfl ?_ ?_
  · intro i hi L hL
    have hL' : L (if Y 254 i = c ∧ (wo Y c i).2 < bg Y i then (nI i, bg Y i) else wo Y c i).1 (nI (i + 1)) := hL
    have g := bg_le w hi
    unfold lX12_worstAt_4 wX12_worstAt_41
    simp (disch := first | assumption | omega) only [prv_n, nxt_n, q_sw, mc4, mc6, mc8, mc20, mc24, mc100, nv_rd, nb_rd, wr_rd, nI_lit, nI_add, pk_mul, pk_sub, q_div, cl_nI, vpi, q_eq, q_le, q_lt, n1_eq, n1_eq', n1_le, n1_lt, n1_ge, n1_gt, i_0m1, nlt_t, nlt_f, nle_t, nle_f, neq_f, f_below, f_within, f_isCorner, f_isIn, f_isCornerM, f_isStreet, f_isHouse, f_isCrew, f_isRow, f_has10, f_has0, jx_I, jx_N, jx_m1, jr_I, jr_N1, jr_N2, wr_2, isB_0, isB_1, true_and, and_true, and_self, false_and, and_false, true_or, or_true, false_or, or_false, not_true_eq_false, not_false_eq_true, forall_const, implies_true, false_implies, ne_eq, eq_self, if_true, if_false, Nat.zero_add, Nat.add_zero, Nat.mul_zero, Nat.zero_mul, Nat.mul_one, Nat.one_mul, Nat.add_sub_cancel, Nat.reduceEqDiff, Nat.reduceAdd, Nat.reduceMul, Nat.reduceSub, Nat.reduceLeDiff, Nat.reduceLT, Nat.reduceDiv, Nat.reduceMod, m.2, m.c254, w.v]
    by_cases q : Y 254 i = c
    · simp (disch := first | assumption | omega) only [prv_n, nxt_n, q_sw, mc4, mc6, mc8, mc20, mc24, mc100, nv_rd, nb_rd, wr_rd, nI_lit, nI_add, pk_mul, pk_sub, q_div, cl_nI, vpi, q_eq, q_le, q_lt, n1_eq, n1_eq', n1_le, n1_lt, n1_ge, n1_gt, i_0m1, nlt_t, nlt_f, nle_t, nle_f, neq_f, f_below, f_within, f_isCorner, f_isIn, f_isCornerM, f_isStreet, f_isHouse, f_isCrew, f_isRow, f_has10, f_has0, jx_I, jx_N, jx_m1, jr_I, jr_N1, jr_N2, wr_2, isB_0, isB_1, true_and, and_true, and_self, false_and, and_false, true_or, or_true, false_or, or_false, not_true_eq_false, not_false_eq_true, forall_const, implies_true, false_implies, ne_eq, eq_self, if_true, if_false, Nat.zero_add, Nat.add_zero, Nat.mul_zero, Nat.zero_mul, Nat.mul_one, Nat.one_mul, Nat.add_sub_cancel, Nat.reduceEqDiff, Nat.reduceAdd, Nat.reduceMul, Nat.reduceSub, Nat.reduceLeDiff, Nat.reduceLT, Nat.reduceDiv, Nat.reduceMod, q]
      refine m_burning m w hi ?_
      rcases wo_d Y c i with ⟨e, z⟩ | ⟨h, hh, e, p, e2⟩
      · rw [e] at hL' ⊢
        by_cases q2 : 0 < bg Y i
        · rw [if_pos ⟨q, q2⟩] at hL'
          simp (disch := first | assumption | omega) only [prv_n, nxt_n, q_sw, mc4, mc6, mc8, mc20, mc24, mc100, nv_rd, nb_rd, wr_rd, nI_lit, nI_add, pk_mul, pk_sub, q_div, cl_nI, vpi, q_eq, q_le, q_lt, n1_eq, n1_eq', n1_le, n1_lt, n1_ge, n1_gt, i_0m1, nlt_t, nlt_f, nle_t, nle_f, neq_f, f_below, f_within, f_isCorner, f_isIn, f_isCornerM, f_isStreet, f_isHouse, f_isCrew, f_isRow, f_has10, f_has0, jx_I, jx_N, jx_m1, jr_I, jr_N1, jr_N2, wr_2, isB_0, isB_1, true_and, and_true, and_self, false_and, and_false, true_or, or_true, false_or, or_false, not_true_eq_false, not_false_eq_true, forall_const, implies_true, false_implies, ne_eq, eq_self, if_true, if_false, Nat.zero_add, Nat.add_zero, Nat.mul_zero, Nat.zero_mul, Nat.mul_one, Nat.one_mul, Nat.add_sub_cancel, Nat.reduceEqDiff, Nat.reduceAdd, Nat.reduceMul, Nat.reduceSub, Nat.reduceLeDiff, Nat.reduceLT, Nat.reduceDiv, Nat.reduceMod]
          exact hL'
        · rw [if_neg (fun u => q2 u.2)] at hL'
          simp (disch := first | assumption | omega) only [prv_n, nxt_n, q_sw, mc4, mc6, mc8, mc20, mc24, mc100, nv_rd, nb_rd, wr_rd, nI_lit, nI_add, pk_mul, pk_sub, q_div, cl_nI, vpi, q_eq, q_le, q_lt, n1_eq, n1_eq', n1_le, n1_lt, n1_ge, n1_gt, i_0m1, nlt_t, nlt_f, nle_t, nle_f, neq_f, f_below, f_within, f_isCorner, f_isIn, f_isCornerM, f_isStreet, f_isHouse, f_isCrew, f_isRow, f_has10, f_has0, jx_I, jx_N, jx_m1, jr_I, jr_N1, jr_N2, wr_2, isB_0, isB_1, true_and, and_true, and_self, false_and, and_false, true_or, or_true, false_or, or_false, not_true_eq_false, not_false_eq_true, forall_const, implies_true, false_implies, ne_eq, eq_self, if_true, if_false, Nat.zero_add, Nat.add_zero, Nat.mul_zero, Nat.zero_mul, Nat.mul_one, Nat.one_mul, Nat.add_sub_cancel, Nat.reduceEqDiff, Nat.reduceAdd, Nat.reduceMul, Nat.reduceSub, Nat.reduceLeDiff, Nat.reduceLT, Nat.reduceDiv, Nat.reduceMod]
          exact hL'
      · rw [e] at hL' ⊢
        simp (disch := first | assumption | omega) only [prv_n, nxt_n, q_sw, mc4, mc6, mc8, mc20, mc24, mc100, nv_rd, nb_rd, wr_rd, nI_lit, nI_add, pk_mul, pk_sub, q_div, cl_nI, vpi, q_eq, q_le, q_lt, n1_eq, n1_eq', n1_le, n1_lt, n1_ge, n1_gt, i_0m1, nlt_t, nlt_f, nle_t, nle_f, neq_f, f_below, f_within, f_isCorner, f_isIn, f_isCornerM, f_isStreet, f_isHouse, f_isCrew, f_isRow, f_has10, f_has0, jx_I, jx_N, jx_m1, jr_I, jr_N1, jr_N2, wr_2, isB_0, isB_1, true_and, and_true, and_self, false_and, and_false, true_or, or_true, false_or, or_false, not_true_eq_false, not_false_eq_true, forall_const, implies_true, false_implies, ne_eq, eq_self, if_true, if_false, Nat.zero_add, Nat.add_zero, Nat.mul_zero, Nat.zero_mul, Nat.mul_one, Nat.one_mul, Nat.add_sub_cancel, Nat.reduceEqDiff, Nat.reduceAdd, Nat.reduceMul, Nat.reduceSub, Nat.reduceLeDiff, Nat.reduceLT, Nat.reduceDiv, Nat.reduceMod]
        refine m_burning m w (by omega) ?_
        have g2 := bg_le w (show h < nv Y 246 31 by omega)
        by_cases q2 : bg Y h < bg Y i
        · rw [if_pos ⟨q, q2⟩] at hL'
          simp (disch := first | assumption | omega) only [prv_n, nxt_n, q_sw, mc4, mc6, mc8, mc20, mc24, mc100, nv_rd, nb_rd, wr_rd, nI_lit, nI_add, pk_mul, pk_sub, q_div, cl_nI, vpi, q_eq, q_le, q_lt, n1_eq, n1_eq', n1_le, n1_lt, n1_ge, n1_gt, i_0m1, nlt_t, nlt_f, nle_t, nle_f, neq_f, f_below, f_within, f_isCorner, f_isIn, f_isCornerM, f_isStreet, f_isHouse, f_isCrew, f_isRow, f_has10, f_has0, jx_I, jx_N, jx_m1, jr_I, jr_N1, jr_N2, wr_2, isB_0, isB_1, true_and, and_true, and_self, false_and, and_false, true_or, or_true, false_or, or_false, not_true_eq_false, not_false_eq_true, forall_const, implies_true, false_implies, ne_eq, eq_self, if_true, if_false, Nat.zero_add, Nat.add_zero, Nat.mul_zero, Nat.zero_mul, Nat.mul_one, Nat.one_mul, Nat.add_sub_cancel, Nat.reduceEqDiff, Nat.reduceAdd, Nat.reduceMul, Nat.reduceSub, Nat.reduceLeDiff, Nat.reduceLT, Nat.reduceDiv, Nat.reduceMod]
          exact hL'
        · rw [if_neg (fun u => q2 u.2)] at hL'
          simp (disch := first | assumption | omega) only [prv_n, nxt_n, q_sw, mc4, mc6, mc8, mc20, mc24, mc100, nv_rd, nb_rd, wr_rd, nI_lit, nI_add, pk_mul, pk_sub, q_div, cl_nI, vpi, q_eq, q_le, q_lt, n1_eq, n1_eq', n1_le, n1_lt, n1_ge, n1_gt, i_0m1, nlt_t, nlt_f, nle_t, nle_f, neq_f, f_below, f_within, f_isCorner, f_isIn, f_isCornerM, f_isStreet, f_isHouse, f_isCrew, f_isRow, f_has10, f_has0, jx_I, jx_N, jx_m1, jr_I, jr_N1, jr_N2, wr_2, isB_0, isB_1, true_and, and_true, and_self, false_and, and_false, true_or, or_true, false_or, or_false, not_true_eq_false, not_false_eq_true, forall_const, implies_true, false_implies, ne_eq, eq_self, if_true, if_false, Nat.zero_add, Nat.add_zero, Nat.mul_zero, Nat.zero_mul, Nat.mul_one, Nat.one_mul, Nat.add_sub_cancel, Nat.reduceEqDiff, Nat.reduceAdd, Nat.reduceMul, Nat.reduceSub, Nat.reduceLeDiff, Nat.reduceLT, Nat.reduceDiv, Nat.reduceMod]
          exact hL'
    · rw [if_neg (fun u => q u.1)] at hL'
      simp (disch := first | assumption | omega) only [prv_n, nxt_n, q_sw, mc4, mc6, mc8, mc20, mc24, mc100, nv_rd, nb_rd, wr_rd, nI_lit, nI_add, pk_mul, pk_sub, q_div, cl_nI, vpi, q_eq, q_le, q_lt, n1_eq, n1_eq', n1_le, n1_lt, n1_ge, n1_gt, i_0m1, nlt_t, nlt_f, nle_t, nle_f, neq_f, f_below, f_within, f_isCorner, f_isIn, f_isCornerM, f_isStreet, f_isHouse, f_isCrew, f_isRow, f_has10, f_has0, jx_I, jx_N, jx_m1, jr_I, jr_N1, jr_N2, wr_2, isB_0, isB_1, true_and, and_true, and_self, false_and, and_false, true_or, or_true, false_or, or_false, not_true_eq_false, not_false_eq_true, forall_const, implies_true, false_implies, ne_eq, eq_self, if_true, if_false, Nat.zero_add, Nat.add_zero, Nat.mul_zero, Nat.zero_mul, Nat.mul_one, Nat.one_mul, Nat.add_sub_cancel, Nat.reduceEqDiff, Nat.reduceAdd, Nat.reduceMul, Nat.reduceSub, Nat.reduceLeDiff, Nat.reduceLT, Nat.reduceDiv, Nat.reduceMod, q]
      exact hL'
  · intro L
    unfold lX12_worstAt_4
    simp (disch := first | assumption | omega) only [prv_n, nxt_n, q_sw, mc4, mc6, mc8, mc20, mc24, mc100, nv_rd, nb_rd, wr_rd, nI_lit, nI_add, pk_mul, pk_sub, q_div, cl_nI, vpi, q_eq, q_le, q_lt, n1_eq, n1_eq', n1_le, n1_lt, n1_ge, n1_gt, i_0m1, nlt_t, nlt_f, nle_t, nle_f, neq_f, f_below, f_within, f_isCorner, f_isIn, f_isCornerM, f_isStreet, f_isHouse, f_isCrew, f_isRow, f_has10, f_has0, jx_I, jx_N, jx_m1, jr_I, jr_N1, jr_N2, wr_2, isB_0, isB_1, true_and, and_true, and_self, false_and, and_false, true_or, or_true, false_or, or_false, not_true_eq_false, not_false_eq_true, forall_const, implies_true, false_implies, ne_eq, eq_self, if_true, if_false, Nat.zero_add, Nat.add_zero, Nat.mul_zero, Nat.zero_mul, Nat.mul_one, Nat.one_mul, Nat.add_sub_cancel, Nat.reduceEqDiff, Nat.reduceAdd, Nat.reduceMul, Nat.reduceSub, Nat.reduceLeDiff, Nat.reduceLT, Nat.reduceDiv, Nat.reduceMod, m.2, w.v]
    exact k
theorem c_worst {x : ab_X} {Y : Nat → Nat → Int32} {c : Int32} (t : TR 11 x.1 Y) (w : TW Y) {K : Int32 → Prop} (k : K (wor Y c)) : wX10_worstAt c x K := by
  have b := w.b
  unfold wX10_worstAt
  by_cases z : x.1 11 7 = nI 0
  · refine Lp3.seq (nv Y 246 31) (fun i => (wo Y c i).1) (fun i => nI (wo Y c i).2) nI rfl rfl rfl ?_ ?_
    · intro i hi L hL
      have hL' : L (if Y 254 i = c ∧ (wo Y c i).2 < bg Y i then (nI i, bg Y i) else wo Y c i).1 (nI (if Y 254 i = c ∧ (wo Y c i).2 < bg Y i then (nI i, bg Y i) else wo Y c i).2) (nI (i + 1)) := hL
      have g := bg_le w hi
      have t1 := (t.2.1.2.2.1 i hi).1
      have g3 : (wo Y c i).2 ≤ 24 := by
        rcases wo_d Y c i with ⟨e, _⟩ | ⟨h, hh, e, p, e2⟩
        · rw [e]; exact Nat.zero_le _
        · rw [e]; exact bg_le w (by omega)
      unfold lX10_worstAt_7 wX10_worstAt_58
      simp (disch := first | assumption | omega) only [prv_n, nxt_n, q_sw, mc4, mc6, mc8, mc20, mc24, mc100, nv_rd, nb_rd, wr_rd, nI_lit, nI_add, pk_mul, pk_sub, q_div, cl_nI, vpi, q_eq, q_le, q_lt, n1_eq, n1_eq', n1_le, n1_lt, n1_ge, n1_gt, i_0m1, nlt_t, nlt_f, nle_t, nle_f, neq_f, f_below, f_within, f_isCorner, f_isIn, f_isCornerM, f_isStreet, f_isHouse, f_isCrew, f_isRow, f_has10, f_has0, jx_I, jx_N, jx_m1, jr_I, jr_N1, jr_N2, wr_2, isB_0, isB_1, true_and, and_true, and_self, false_and, and_false, true_or, or_true, false_or, or_false, not_true_eq_false, not_false_eq_true, forall_const, implies_true, false_implies, ne_eq, eq_self, if_true, if_false, Nat.zero_add, Nat.add_zero, Nat.mul_zero, Nat.zero_mul, Nat.mul_one, Nat.one_mul, Nat.add_sub_cancel, Nat.reduceEqDiff, Nat.reduceAdd, Nat.reduceMul, Nat.reduceSub, Nat.reduceLeDiff, Nat.reduceLT, Nat.reduceDiv, Nat.reduceMod, t.1, w.v, z, t1]
      by_cases q : Y 254 i = c
      · simp (disch := first | assumption | omega) only [prv_n, nxt_n, q_sw, mc4, mc6, mc8, mc20, mc24, mc100, nv_rd, nb_rd, wr_rd, nI_lit, nI_add, pk_mul, pk_sub, q_div, cl_nI, vpi, q_eq, q_le, q_lt, n1_eq, n1_eq', n1_le, n1_lt, n1_ge, n1_gt, i_0m1, nlt_t, nlt_f, nle_t, nle_f, neq_f, f_below, f_within, f_isCorner, f_isIn, f_isCornerM, f_isStreet, f_isHouse, f_isCrew, f_isRow, f_has10, f_has0, jx_I, jx_N, jx_m1, jr_I, jr_N1, jr_N2, wr_2, isB_0, isB_1, true_and, and_true, and_self, false_and, and_false, true_or, or_true, false_or, or_false, not_true_eq_false, not_false_eq_true, forall_const, implies_true, false_implies, ne_eq, eq_self, if_true, if_false, Nat.zero_add, Nat.add_zero, Nat.mul_zero, Nat.zero_mul, Nat.mul_one, Nat.one_mul, Nat.add_sub_cancel, Nat.reduceEqDiff, Nat.reduceAdd, Nat.reduceMul, Nat.reduceSub, Nat.reduceLeDiff, Nat.reduceLT, Nat.reduceDiv, Nat.reduceMod, q]
        refine c_burning t w hi ?_
        by_cases q2 : (wo Y c i).2 < bg Y i
        · rw [if_pos ⟨q, q2⟩] at hL'
          simp (disch := first | assumption | omega) only [prv_n, nxt_n, q_sw, mc4, mc6, mc8, mc20, mc24, mc100, nv_rd, nb_rd, wr_rd, nI_lit, nI_add, pk_mul, pk_sub, q_div, cl_nI, vpi, q_eq, q_le, q_lt, n1_eq, n1_eq', n1_le, n1_lt, n1_ge, n1_gt, i_0m1, nlt_t, nlt_f, nle_t, nle_f, neq_f, f_below, f_within, f_isCorner, f_isIn, f_isCornerM, f_isStreet, f_isHouse, f_isCrew, f_isRow, f_has10, f_has0, jx_I, jx_N, jx_m1, jr_I, jr_N1, jr_N2, wr_2, isB_0, isB_1, true_and, and_true, and_self, false_and, and_false, true_or, or_true, false_or, or_false, not_true_eq_false, not_false_eq_true, forall_const, implies_true, false_implies, ne_eq, eq_self, if_true, if_false, Nat.zero_add, Nat.add_zero, Nat.mul_zero, Nat.zero_mul, Nat.mul_one, Nat.one_mul, Nat.add_sub_cancel, Nat.reduceEqDiff, Nat.reduceAdd, Nat.reduceMul, Nat.reduceSub, Nat.reduceLeDiff, Nat.reduceLT, Nat.reduceDiv, Nat.reduceMod]
          exact hL'
        · rw [if_neg (fun u => q2 u.2)] at hL'
          simp (disch := first | assumption | omega) only [prv_n, nxt_n, q_sw, mc4, mc6, mc8, mc20, mc24, mc100, nv_rd, nb_rd, wr_rd, nI_lit, nI_add, pk_mul, pk_sub, q_div, cl_nI, vpi, q_eq, q_le, q_lt, n1_eq, n1_eq', n1_le, n1_lt, n1_ge, n1_gt, i_0m1, nlt_t, nlt_f, nle_t, nle_f, neq_f, f_below, f_within, f_isCorner, f_isIn, f_isCornerM, f_isStreet, f_isHouse, f_isCrew, f_isRow, f_has10, f_has0, jx_I, jx_N, jx_m1, jr_I, jr_N1, jr_N2, wr_2, isB_0, isB_1, true_and, and_true, and_self, false_and, and_false, true_or, or_true, false_or, or_false, not_true_eq_false, not_false_eq_true, forall_const, implies_true, false_implies, ne_eq, eq_self, if_true, if_false, Nat.zero_add, Nat.add_zero, Nat.mul_zero, Nat.zero_mul, Nat.mul_one, Nat.one_mul, Nat.add_sub_cancel, Nat.reduceEqDiff, Nat.reduceAdd, Nat.reduceMul, Nat.reduceSub, Nat.reduceLeDiff, Nat.reduceLT, Nat.reduceDiv, Nat.reduceMod]
          exact hL'
      · rw [if_neg (fun u => q u.1)] at hL'
        simp (disch := first | assumption | omega) only [prv_n, nxt_n, q_sw, mc4, mc6, mc8, mc20, mc24, mc100, nv_rd, nb_rd, wr_rd, nI_lit, nI_add, pk_mul, pk_sub, q_div, cl_nI, vpi, q_eq, q_le, q_lt, n1_eq, n1_eq', n1_le, n1_lt, n1_ge, n1_gt, i_0m1, nlt_t, nlt_f, nle_t, nle_f, neq_f, f_below, f_within, f_isCorner, f_isIn, f_isCornerM, f_isStreet, f_isHouse, f_isCrew, f_isRow, f_has10, f_has0, jx_I, jx_N, jx_m1, jr_I, jr_N1, jr_N2, wr_2, isB_0, isB_1, true_and, and_true, and_self, false_and, and_false, true_or, or_true, false_or, or_false, not_true_eq_false, not_false_eq_true, forall_const, implies_true, false_implies, ne_eq, eq_self, if_true, if_false, Nat.zero_add, Nat.add_zero, Nat.mul_zero, Nat.zero_mul, Nat.mul_one, Nat.one_mul, Nat.add_sub_cancel, Nat.reduceEqDiff, Nat.reduceAdd, Nat.reduceMul, Nat.reduceSub, Nat.reduceLeDiff, Nat.reduceLT, Nat.reduceDiv, Nat.reduceMod, q]
        exact hL'
    · intro L
      unfold lX10_worstAt_7
      simp (disch := first | assumption | omega) only [prv_n, nxt_n, q_sw, mc4, mc6, mc8, mc20, mc24, mc100, nv_rd, nb_rd, wr_rd, nI_lit, nI_add, pk_mul, pk_sub, q_div, cl_nI, vpi, q_eq, q_le, q_lt, n1_eq, n1_eq', n1_le, n1_lt, n1_ge, n1_gt, i_0m1, nlt_t, nlt_f, nle_t, nle_f, neq_f, f_below, f_within, f_isCorner, f_isIn, f_isCornerM, f_isStreet, f_isHouse, f_isCrew, f_isRow, f_has10, f_has0, jx_I, jx_N, jx_m1, jr_I, jr_N1, jr_N2, wr_2, isB_0, isB_1, true_and, and_true, and_self, false_and, and_false, true_or, or_true, false_or, or_false, not_true_eq_false, not_false_eq_true, forall_const, implies_true, false_implies, ne_eq, eq_self, if_true, if_false, Nat.zero_add, Nat.add_zero, Nat.mul_zero, Nat.zero_mul, Nat.mul_one, Nat.one_mul, Nat.add_sub_cancel, Nat.reduceEqDiff, Nat.reduceAdd, Nat.reduceMul, Nat.reduceSub, Nat.reduceLeDiff, Nat.reduceLT, Nat.reduceDiv, Nat.reduceMod, t.1, w.v]
      exact k
  · have e : wor Y c = -nI 1 := by
      rcases wo_d Y c (nv Y 246 31) with ⟨e, _⟩ | ⟨h, hh, e, p, e2⟩
      · unfold wor; rw [e]
      · have zz := t.2.2.2.2.2 z
        have rm := rm_le w hh
        have : bg Y h = 0 := cn_0 (fun i hi => bu_f1 (by rw [nv_of (zz _ (by omega)) (by decide)]; decide))
        omega
    rw [e] at k
    refine Lp3.seq 0 (fun i => -nI 1) (fun i => nI 0) nI rfl rfl rfl (fun i hi => absurd hi (Nat.not_lt_zero i)) ?_
    intro L
    unfold lX10_worstAt_7
    by_cases q : nv Y 246 31 = 0
    · simp (disch := first | assumption | omega) only [prv_n, nxt_n, q_sw, mc4, mc6, mc8, mc20, mc24, mc100, nv_rd, nb_rd, wr_rd, nI_lit, nI_add, pk_mul, pk_sub, q_div, cl_nI, vpi, q_eq, q_le, q_lt, n1_eq, n1_eq', n1_le, n1_lt, n1_ge, n1_gt, i_0m1, nlt_t, nlt_f, nle_t, nle_f, neq_f, f_below, f_within, f_isCorner, f_isIn, f_isCornerM, f_isStreet, f_isHouse, f_isCrew, f_isRow, f_has10, f_has0, jx_I, jx_N, jx_m1, jr_I, jr_N1, jr_N2, wr_2, isB_0, isB_1, true_and, and_true, and_self, false_and, and_false, true_or, or_true, false_or, or_false, not_true_eq_false, not_false_eq_true, forall_const, implies_true, false_implies, ne_eq, eq_self, if_true, if_false, Nat.zero_add, Nat.add_zero, Nat.mul_zero, Nat.zero_mul, Nat.mul_one, Nat.one_mul, Nat.add_sub_cancel, Nat.reduceEqDiff, Nat.reduceAdd, Nat.reduceMul, Nat.reduceSub, Nat.reduceLeDiff, Nat.reduceLT, Nat.reduceDiv, Nat.reduceMod, t.1, w.v, q]
      exact k
    · simp (disch := first | assumption | omega) only [prv_n, nxt_n, q_sw, mc4, mc6, mc8, mc20, mc24, mc100, nv_rd, nb_rd, wr_rd, nI_lit, nI_add, pk_mul, pk_sub, q_div, cl_nI, vpi, q_eq, q_le, q_lt, n1_eq, n1_eq', n1_le, n1_lt, n1_ge, n1_gt, i_0m1, nlt_t, nlt_f, nle_t, nle_f, neq_f, f_below, f_within, f_isCorner, f_isIn, f_isCornerM, f_isStreet, f_isHouse, f_isCrew, f_isRow, f_has10, f_has0, jx_I, jx_N, jx_m1, jr_I, jr_N1, jr_N2, wr_2, isB_0, isB_1, true_and, and_true, and_self, false_and, and_false, true_or, or_true, false_or, or_false, not_true_eq_false, not_false_eq_true, forall_const, implies_true, false_implies, ne_eq, eq_self, if_true, if_false, Nat.zero_add, Nat.add_zero, Nat.mul_zero, Nat.zero_mul, Nat.mul_one, Nat.one_mul, Nat.add_sub_cancel, Nat.reduceEqDiff, Nat.reduceAdd, Nat.reduceMul, Nat.reduceSub, Nat.reduceLeDiff, Nat.reduceLT, Nat.reduceDiv, Nat.reduceMod, t.1, w.v, z]
      exact k
theorem wor_d (Y : Nat → Nat → Int32) (c : Int32) : (wor Y c = -nI 1 ∧ ∀ h, h < nv Y 246 31 → Y 254 h = c → bg Y h = 0) ∨ ∃ h, h < nv Y 246 31 ∧ wor Y c = nI h ∧ 0 < bg Y h ∧ Y 254 h = c := by
  rcases wo_d Y c (nv Y 246 31) with ⟨e, z⟩ | ⟨h, hh, e, p, e2⟩
  · exact Or.inl ⟨by unfold wor; rw [e], z⟩
  · exact Or.inr ⟨h, hh, by unfold wor; rw [e], p, e2⟩
theorem m_burnsAt {x : ab_X} {Y : Nat → Nat → Int32} {c : Int32} (m : keepF Y x.1) (w : TW Y) {K : Int32 → Prop} (k : K (bb (decide (¬ wor Y c = -nI 1)))) : wX12_burnsAt c x K := by
  have b := w.b
  unfold wX12_burnsAt
  refine Lp1.ind (fun i a => ∃ j, j ≤ nv Y 246 31 ∧ i = nv Y 246 31 - j ∧ a = nI j ∧ ∀ h, h < j → Y 254 h = c → bg Y h = 0) (nv Y 246 31) ⟨0, by omega, by omega, rfl, fun h hh => by omega⟩ ?_
  rintro i a ⟨j, hj, rfl, rfl, z⟩ L hL
  unfold lX12_burnsAt_2
  by_cases e : j = nv Y 246 31
  · simp (disch := first | assumption | omega) only [prv_n, nxt_n, q_sw, mc4, mc6, mc8, mc20, mc24, mc100, nv_rd, nb_rd, wr_rd, nI_lit, nI_add, pk_mul, pk_sub, q_div, cl_nI, vpi, q_eq, q_le, q_lt, n1_eq, n1_eq', n1_le, n1_lt, n1_ge, n1_gt, i_0m1, nlt_t, nlt_f, nle_t, nle_f, neq_f, f_below, f_within, f_isCorner, f_isIn, f_isCornerM, f_isStreet, f_isHouse, f_isCrew, f_isRow, f_has10, f_has0, jx_I, jx_N, jx_m1, jr_I, jr_N1, jr_N2, wr_2, isB_0, isB_1, true_and, and_true, and_self, false_and, and_false, true_or, or_true, false_or, or_false, not_true_eq_false, not_false_eq_true, forall_const, implies_true, false_implies, ne_eq, eq_self, if_true, if_false, Nat.zero_add, Nat.add_zero, Nat.mul_zero, Nat.zero_mul, Nat.mul_one, Nat.one_mul, Nat.add_sub_cancel, Nat.reduceEqDiff, Nat.reduceAdd, Nat.reduceMul, Nat.reduceSub, Nat.reduceLeDiff, Nat.reduceLT, Nat.reduceDiv, Nat.reduceMod, m.2, w.v]
    have : wor Y c = -nI 1 := by
      rcases wor_d Y c with ⟨e, _⟩ | ⟨h, hh, e2, p, e3⟩
      · exact e
      · have := z h (by omega) e3
        omega
    rw [this] at k
    exact k
  · have hj2 : j < nv Y 246 31 := by omega
    have g := bg_le w hj2
    simp (disch := first | assumption | omega) only [prv_n, nxt_n, q_sw, mc4, mc6, mc8, mc20, mc24, mc100, nv_rd, nb_rd, wr_rd, nI_lit, nI_add, pk_mul, pk_sub, q_div, cl_nI, vpi, q_eq, q_le, q_lt, n1_eq, n1_eq', n1_le, n1_lt, n1_ge, n1_gt, i_0m1, nlt_t, nlt_f, nle_t, nle_f, neq_f, f_below, f_within, f_isCorner, f_isIn, f_isCornerM, f_isStreet, f_isHouse, f_isCrew, f_isRow, f_has10, f_has0, jx_I, jx_N, jx_m1, jr_I, jr_N1, jr_N2, wr_2, isB_0, isB_1, true_and, and_true, and_self, false_and, and_false, true_or, or_true, false_or, or_false, not_true_eq_false, not_false_eq_true, forall_const, implies_true, false_implies, ne_eq, eq_self, if_true, if_false, Nat.zero_add, Nat.add_zero, Nat.mul_zero, Nat.zero_mul, Nat.mul_one, Nat.one_mul, Nat.add_sub_cancel, Nat.reduceEqDiff, Nat.reduceAdd, Nat.reduceMul, Nat.reduceSub, Nat.reduceLeDiff, Nat.reduceLT, Nat.reduceDiv, Nat.reduceMod, m.2, m.c254, w.v]
    by_cases q : Y 254 j = c
    · simp (disch := first | assumption | omega) only [prv_n, nxt_n, q_sw, mc4, mc6, mc8, mc20, mc24, mc100, nv_rd, nb_rd, wr_rd, nI_lit, nI_add, pk_mul, pk_sub, q_div, cl_nI, vpi, q_eq, q_le, q_lt, n1_eq, n1_eq', n1_le, n1_lt, n1_ge, n1_gt, i_0m1, nlt_t, nlt_f, nle_t, nle_f, neq_f, f_below, f_within, f_isCorner, f_isIn, f_isCornerM, f_isStreet, f_isHouse, f_isCrew, f_isRow, f_has10, f_has0, jx_I, jx_N, jx_m1, jr_I, jr_N1, jr_N2, wr_2, isB_0, isB_1, true_and, and_true, and_self, false_and, and_false, true_or, or_true, false_or, or_false, not_true_eq_false, not_false_eq_true, forall_const, implies_true, false_implies, ne_eq, eq_self, if_true, if_false, Nat.zero_add, Nat.add_zero, Nat.mul_zero, Nat.zero_mul, Nat.mul_one, Nat.one_mul, Nat.add_sub_cancel, Nat.reduceEqDiff, Nat.reduceAdd, Nat.reduceMul, Nat.reduceSub, Nat.reduceLeDiff, Nat.reduceLT, Nat.reduceDiv, Nat.reduceMod, q]
      refine m_burning m w hj2 ?_
      by_cases q2 : 0 < bg Y j
      · simp (disch := first | assumption | omega) only [prv_n, nxt_n, q_sw, mc4, mc6, mc8, mc20, mc24, mc100, nv_rd, nb_rd, wr_rd, nI_lit, nI_add, pk_mul, pk_sub, q_div, cl_nI, vpi, q_eq, q_le, q_lt, n1_eq, n1_eq', n1_le, n1_lt, n1_ge, n1_gt, i_0m1, nlt_t, nlt_f, nle_t, nle_f, neq_f, f_below, f_within, f_isCorner, f_isIn, f_isCornerM, f_isStreet, f_isHouse, f_isCrew, f_isRow, f_has10, f_has0, jx_I, jx_N, jx_m1, jr_I, jr_N1, jr_N2, wr_2, isB_0, isB_1, true_and, and_true, and_self, false_and, and_false, true_or, or_true, false_or, or_false, not_true_eq_false, not_false_eq_true, forall_const, implies_true, false_implies, ne_eq, eq_self, if_true, if_false, Nat.zero_add, Nat.add_zero, Nat.mul_zero, Nat.zero_mul, Nat.mul_one, Nat.one_mul, Nat.add_sub_cancel, Nat.reduceEqDiff, Nat.reduceAdd, Nat.reduceMul, Nat.reduceSub, Nat.reduceLeDiff, Nat.reduceLT, Nat.reduceDiv, Nat.reduceMod]
        have : ¬ wor Y c = -nI 1 := by
          rcases wor_d Y c with ⟨_, z2⟩ | ⟨h, hh, e2, p, e3⟩
          · have := z2 j hj2 q
            omega
          · rw [e2, n1_eq' (by omega)]; exact id
        rw [decide_eq_true this] at k
        exact k
      · simp (disch := first | assumption | omega) only [prv_n, nxt_n, q_sw, mc4, mc6, mc8, mc20, mc24, mc100, nv_rd, nb_rd, wr_rd, nI_lit, nI_add, pk_mul, pk_sub, q_div, cl_nI, vpi, q_eq, q_le, q_lt, n1_eq, n1_eq', n1_le, n1_lt, n1_ge, n1_gt, i_0m1, nlt_t, nlt_f, nle_t, nle_f, neq_f, f_below, f_within, f_isCorner, f_isIn, f_isCornerM, f_isStreet, f_isHouse, f_isCrew, f_isRow, f_has10, f_has0, jx_I, jx_N, jx_m1, jr_I, jr_N1, jr_N2, wr_2, isB_0, isB_1, true_and, and_true, and_self, false_and, and_false, true_or, or_true, false_or, or_false, not_true_eq_false, not_false_eq_true, forall_const, implies_true, false_implies, ne_eq, eq_self, if_true, if_false, Nat.zero_add, Nat.add_zero, Nat.mul_zero, Nat.zero_mul, Nat.mul_one, Nat.one_mul, Nat.add_sub_cancel, Nat.reduceEqDiff, Nat.reduceAdd, Nat.reduceMul, Nat.reduceSub, Nat.reduceLeDiff, Nat.reduceLT, Nat.reduceDiv, Nat.reduceMod]
        exact hL _ _ (by omega) ⟨j + 1, by omega, rfl, rfl, fun h hh e3 => by
          by_cases q3 : h = j
          · subst q3; omega
          · exact z h (by omega) e3⟩
    · simp (disch := first | assumption | omega) only [prv_n, nxt_n, q_sw, mc4, mc6, mc8, mc20, mc24, mc100, nv_rd, nb_rd, wr_rd, nI_lit, nI_add, pk_mul, pk_sub, q_div, cl_nI, vpi, q_eq, q_le, q_lt, n1_eq, n1_eq', n1_le, n1_lt, n1_ge, n1_gt, i_0m1, nlt_t, nlt_f, nle_t, nle_f, neq_f, f_below, f_within, f_isCorner, f_isIn, f_isCornerM, f_isStreet, f_isHouse, f_isCrew, f_isRow, f_has10, f_has0, jx_I, jx_N, jx_m1, jr_I, jr_N1, jr_N2, wr_2, isB_0, isB_1, true_and, and_true, and_self, false_and, and_false, true_or, or_true, false_or, or_false, not_true_eq_false, not_false_eq_true, forall_const, implies_true, false_implies, ne_eq, eq_self, if_true, if_false, Nat.zero_add, Nat.add_zero, Nat.mul_zero, Nat.zero_mul, Nat.mul_one, Nat.one_mul, Nat.add_sub_cancel, Nat.reduceEqDiff, Nat.reduceAdd, Nat.reduceMul, Nat.reduceSub, Nat.reduceLeDiff, Nat.reduceLT, Nat.reduceDiv, Nat.reduceMod, q]
      exact hL _ _ (by omega) ⟨j + 1, by omega, rfl, rfl, fun h hh e3 => by
        by_cases q3 : h = j
        · subst q3; exact absurd e3 q
        · exact z h (by omega) e3⟩
