/-! feed -/
def bvI (v : Int32) (i : Nat) : Int32 := (v >>> (nI (24 - 8 * i) &&& nI 31)) &&& nI 255
def nz (v : Int32) (i : Nat) : Bool := decide (¬ bvI v i = nI 0)
def shI (i : Nat) : Int32 := if i < 4 then nI (24 - 8 * i) else -nI 8
theorem sh_n {i : Nat} (h : i < 4) : nI (24 - 8 * i) + -nI 8 = shI (i + 1) := by
  obtain rfl | rfl | rfl | rfl : i = 0 ∨ i = 1 ∨ i = 2 ∨ i = 3 := by omega
  all_goals decide
theorem bvI_b (v : Int32) (i : Nat) : ∃ b, b < 256 ∧ bvI v i = nI b := pk_andE _ 8 (by decide)
theorem low8 (w : Int32) : (w &&& nI 255).toInt8.toInt32 = w.toInt8.toInt32 := by
  have e : (w &&& nI 255).toInt8 = w.toInt8 := by
    apply Int8.toBitVec_inj.mp
    rw [Int32.toBitVec_toInt8, Int32.toBitVec_toInt8]
    apply BitVec.eq_of_getLsbD_eq
    intro i hi
    rw [BitVec.getLsbD_signExtend, BitVec.getLsbD_signExtend]
    have : (w &&& nI 255).toBitVec.getLsbD i = w.toBitVec.getLsbD i := by
      have h255 : ∀ j, j < 8 → (nI 255).toBitVec.getLsbD j = true := by decide
      rw [Int32.toBitVec_and, BitVec.getLsbD_and, h255 i hi, Bool.and_true]
    rw [if_pos (show i < 32 by omega), if_pos (show i < 32 by omega), this]
  rw [e]
theorem c_bytes {v : Int32} {x : ab_X} {K : Int32 → Prop} (k : K (nI (cn (nz v) 4))) : wX8_bytesIn v x K := by
  unfold wX8_bytesIn
  refine Lp2.seq 4 (fun i => nI (cn (nz v) i)) shI rfl rfl (fun i hi L hL => ?_) (fun L => ?_)
  · have e : shI i = nI (24 - 8 * i) := if_pos hi
    have hL' : L (nI (cn (nz v) i + (if nz v i then 1 else 0))) (shI (i + 1)) := hL
    unfold lX8_bytesIn_5 wX8_bytesIn_25
    show _ ∧ _
    rw [e]
    by_cases q : bvI v i = nI 0
    · have qn : nz v i = false := decide_eq_false (fun u => u q)
      rw [qn, if_neg (by decide), Nat.add_zero] at hL'
      unfold bvI at q
      simp (disch := first | assumption | omega) only [prv_n, nxt_n, q_sw, mc4, mc6, mc8, mc20, mc24, mc100, nv_rd, nb_rd, wr_rd, nI_lit, nI_add, pk_mul, pk_sub, q_div, cl_nI, vpi, q_eq, q_le, q_lt, n1_eq, n1_eq', n1_le, n1_lt, n1_ge, n1_gt, i_0m1, nlt_t, nlt_f, nle_t, nle_f, neq_f, f_below, f_within, f_isCorner, f_isIn, f_isCornerM, f_isStreet, f_isHouse, f_isCrew, f_isRow, f_has10, f_has0, jx_I, jx_N, jx_m1, jr_I, jr_N1, jr_N2, wr_2, isB_0, isB_1, true_and, and_true, and_self, false_and, and_false, true_or, or_true, false_or, or_false, not_true_eq_false, not_false_eq_true, forall_const, implies_true, false_implies, ne_eq, eq_self, if_true, if_false, Nat.zero_add, Nat.add_zero, Nat.mul_zero, Nat.zero_mul, Nat.mul_one, Nat.one_mul, Nat.add_sub_cancel, Nat.reduceEqDiff, Nat.reduceAdd, Nat.reduceMul, Nat.reduceSub, Nat.reduceLeDiff, Nat.reduceLT, Nat.reduceDiv, Nat.reduceMod, q, sh_n hi]
      exact hL'
    · have qn : nz v i = true := decide_eq_true q
      rw [qn, if_pos rfl] at hL'
      unfold bvI at q
      simp (disch := first | assumption | omega) only [prv_n, nxt_n, q_sw, mc4, mc6, mc8, mc20, mc24, mc100, nv_rd, nb_rd, wr_rd, nI_lit, nI_add, pk_mul, pk_sub, q_div, cl_nI, vpi, q_eq, q_le, q_lt, n1_eq, n1_eq', n1_le, n1_lt, n1_ge, n1_gt, i_0m1, nlt_t, nlt_f, nle_t, nle_f, neq_f, f_below, f_within, f_isCorner, f_isIn, f_isCornerM, f_isStreet, f_isHouse, f_isCrew, f_isRow, f_has10, f_has0, jx_I, jx_N, jx_m1, jr_I, jr_N1, jr_N2, wr_2, isB_0, isB_1, true_and, and_true, and_self, false_and, and_false, true_or, or_true, false_or, or_false, not_true_eq_false, not_false_eq_true, forall_const, implies_true, false_implies, ne_eq, eq_self, if_true, if_false, Nat.zero_add, Nat.add_zero, Nat.mul_zero, Nat.zero_mul, Nat.mul_one, Nat.one_mul, Nat.add_sub_cancel, Nat.reduceEqDiff, Nat.reduceAdd, Nat.reduceMul, Nat.reduceSub, Nat.reduceLeDiff, Nat.reduceLT, Nat.reduceDiv, Nat.reduceMod, q, sh_n hi]
      exact hL'
  · have l8 : -nI 8 < nI 0 := by decide
    have e4 : shI 4 = -nI 8 := rfl
    unfold lX8_bytesIn_5
    show _ ∧ _
    rw [e4]
    simp (disch := first | assumption | omega) only [prv_n, nxt_n, q_sw, mc4, mc6, mc8, mc20, mc24, mc100, nv_rd, nb_rd, wr_rd, nI_lit, nI_add, pk_mul, pk_sub, q_div, cl_nI, vpi, q_eq, q_le, q_lt, n1_eq, n1_eq', n1_le, n1_lt, n1_ge, n1_gt, i_0m1, nlt_t, nlt_f, nle_t, nle_f, neq_f, f_below, f_within, f_isCorner, f_isIn, f_isCornerM, f_isStreet, f_isHouse, f_isCrew, f_isRow, f_has10, f_has0, jx_I, jx_N, jx_m1, jr_I, jr_N1, jr_N2, wr_2, isB_0, isB_1, true_and, and_true, and_self, false_and, and_false, true_or, or_true, false_or, or_false, not_true_eq_false, not_false_eq_true, forall_const, implies_true, false_implies, ne_eq, eq_self, if_true, if_false, Nat.zero_add, Nat.add_zero, Nat.mul_zero, Nat.zero_mul, Nat.mul_one, Nat.one_mul, Nat.add_sub_cancel, Nat.reduceEqDiff, Nat.reduceAdd, Nat.reduceMul, Nat.reduceSub, Nat.reduceLeDiff, Nat.reduceLT, Nat.reduceDiv, Nat.reduceMod, l8]
    exact k
theorem m_bytes {v : Int32} {x : ab_X} {K : Int32 → Prop} (k : K (nI (cn (nz v) 4))) : wX12_bytesIn v x K := by
  unfold wX12_bytesIn
  refine Lp2.seq 4 (fun i => nI (cn (nz v) i)) shI rfl rfl (fun i hi L hL => ?_) (fun L => ?_)
  · have e : shI i = nI (24 - 8 * i) := if_pos hi
    have hL' : L (nI (cn (nz v) i + (if nz v i then 1 else 0))) (shI (i + 1)) := hL
    unfold lX12_bytesIn_5 wX12_bytesIn_25
    show _ ∧ _
    rw [e]
    by_cases q : bvI v i = nI 0
    · have qn : nz v i = false := decide_eq_false (fun u => u q)
      rw [qn, if_neg (by decide), Nat.add_zero] at hL'
      unfold bvI at q
      simp (disch := first | assumption | omega) only [prv_n, nxt_n, q_sw, mc4, mc6, mc8, mc20, mc24, mc100, nv_rd, nb_rd, wr_rd, nI_lit, nI_add, pk_mul, pk_sub, q_div, cl_nI, vpi, q_eq, q_le, q_lt, n1_eq, n1_eq', n1_le, n1_lt, n1_ge, n1_gt, i_0m1, nlt_t, nlt_f, nle_t, nle_f, neq_f, f_below, f_within, f_isCorner, f_isIn, f_isCornerM, f_isStreet, f_isHouse, f_isCrew, f_isRow, f_has10, f_has0, jx_I, jx_N, jx_m1, jr_I, jr_N1, jr_N2, wr_2, isB_0, isB_1, true_and, and_true, and_self, false_and, and_false, true_or, or_true, false_or, or_false, not_true_eq_false, not_false_eq_true, forall_const, implies_true, false_implies, ne_eq, eq_self, if_true, if_false, Nat.zero_add, Nat.add_zero, Nat.mul_zero, Nat.zero_mul, Nat.mul_one, Nat.one_mul, Nat.add_sub_cancel, Nat.reduceEqDiff, Nat.reduceAdd, Nat.reduceMul, Nat.reduceSub, Nat.reduceLeDiff, Nat.reduceLT, Nat.reduceDiv, Nat.reduceMod, q, sh_n hi]
      exact hL'
    · have qn : nz v i = true := decide_eq_true q
      rw [qn, if_pos rfl] at hL'
      unfold bvI at q
      simp (disch := first | assumption | omega) only [prv_n, nxt_n, q_sw, mc4, mc6, mc8, mc20, mc24, mc100, nv_rd, nb_rd, wr_rd, nI_lit, nI_add, pk_mul, pk_sub, q_div, cl_nI, vpi, q_eq, q_le, q_lt, n1_eq, n1_eq', n1_le, n1_lt, n1_ge, n1_gt, i_0m1, nlt_t, nlt_f, nle_t, nle_f, neq_f, f_below, f_within, f_isCorner, f_isIn, f_isCornerM, f_isStreet, f_isHouse, f_isCrew, f_isRow, f_has10, f_has0, jx_I, jx_N, jx_m1, jr_I, jr_N1, jr_N2, wr_2, isB_0, isB_1, true_and, and_true, and_self, false_and, and_false, true_or, or_true, false_or, or_false, not_true_eq_false, not_false_eq_true, forall_const, implies_true, false_implies, ne_eq, eq_self, if_true, if_false, Nat.zero_add, Nat.add_zero, Nat.mul_zero, Nat.zero_mul, Nat.mul_one, Nat.one_mul, Nat.add_sub_cancel, Nat.reduceEqDiff, Nat.reduceAdd, Nat.reduceMul, Nat.reduceSub, Nat.reduceLeDiff, Nat.reduceLT, Nat.reduceDiv, Nat.reduceMod, q, sh_n hi]
      exact hL'
  · have l8 : -nI 8 < nI 0 := by decide
    have e4 : shI 4 = -nI 8 := rfl
    unfold lX12_bytesIn_5
    show _ ∧ _
    rw [e4]
    simp (disch := first | assumption | omega) only [prv_n, nxt_n, q_sw, mc4, mc6, mc8, mc20, mc24, mc100, nv_rd, nb_rd, wr_rd, nI_lit, nI_add, pk_mul, pk_sub, q_div, cl_nI, vpi, q_eq, q_le, q_lt, n1_eq, n1_eq', n1_le, n1_lt, n1_ge, n1_gt, i_0m1, nlt_t, nlt_f, nle_t, nle_f, neq_f, f_below, f_within, f_isCorner, f_isIn, f_isCornerM, f_isStreet, f_isHouse, f_isCrew, f_isRow, f_has10, f_has0, jx_I, jx_N, jx_m1, jr_I, jr_N1, jr_N2, wr_2, isB_0, isB_1, true_and, and_true, and_self, false_and, and_false, true_or, or_true, false_or, or_false, not_true_eq_false, not_false_eq_true, forall_const, implies_true, false_implies, ne_eq, eq_self, if_true, if_false, Nat.zero_add, Nat.add_zero, Nat.mul_zero, Nat.zero_mul, Nat.mul_one, Nat.one_mul, Nat.add_sub_cancel, Nat.reduceEqDiff, Nat.reduceAdd, Nat.reduceMul, Nat.reduceSub, Nat.reduceLeDiff, Nat.reduceLT, Nat.reduceDiv, Nat.reduceMod, l8]
    exact k
def tk1 (s : ab_X) (v : Int32) (i : Nat) : ab_X := if bvI v i = nI 0 then s else wr (wr s 299 (nv s.1 246 70) (v >>> (nI (24 - 8 * i) &&& nI 31)).toInt8.toInt32) 246 70 (nI (nv s.1 246 70 + 1))
def tkN (s : ab_X) (v : Int32) : Nat → ab_X
  | 0 => s
  | i + 1 => tk1 (tkN s v i) v i
theorem tkN_len {s : ab_X} {v : Int32} (h : nv s.1 246 70 ≤ 200) : ∀ i, i ≤ 4 → nv (tkN s v i).1 246 70 = nv s.1 246 70 + cn (nz v) i
  | 0, _ => rfl
  | i + 1, hi => by
    have ih := tkN_len (v := v) h i (by omega)
    have le := cn_le (nz v) i
    show nv (tk1 (tkN s v i) v i).1 246 70 = nv s.1 246 70 + (cn (nz v) i + (if nz v i then 1 else 0))
    unfold tk1
    by_cases q : bvI v i = nI 0
    · have qn : nz v i = false := decide_eq_false (fun u => u q)
      rw [if_pos q, qn, if_neg (by decide), ih]; rfl
    · have qn : nz v i = true := decide_eq_true q
      rw [if_neg q, qn, if_pos rfl, nv_e, cl_nI (by omega), ih]; omega
theorem tkN_2 {s : ab_X} {v : Int32} : ∀ i, (tkN s v i).2 = s.2
  | 0 => rfl
  | i + 1 => by
    show (tk1 (tkN s v i) v i).2 = s.2
    unfold tk1
    split <;> exact tkN_2 i
theorem feed_1 {x : ab_X} {b : Nat} {w : Int32} (h : InvA x) (hl : nv x.1 246 70 < 200) (hb : 1 ≤ b) (hb2 : b < 256) (hw : w = (nI b).toInt8.toInt32) {z : ab_X} (e : z = wr (wr (wr (wr x 159 (nv x.1 246 70) (nI b)) 158 1 (nI (nv x.1 246 70 + 1))) 299 (nv x.1 246 70) w) 246 70 (nI (nv x.1 246 70 + 1))) : InvA z := by
  subst e
  refine InvA_chg h (L := [(159, 159), (299, 299)]) (S := [70]) (C := [(158, 1)]) ?chg (Or.inr ?sc) (Or.inl rfl) (Or.inl rfl) (Or.inl rfl) (Or.inl rfl) (Or.inl rfl) (Or.inl rfl) (Or.inl rfl) (Or.inr ?ta) (Or.inl rfl) (Or.inl ⟨rfl, rfl⟩) (Or.inr ?wsc) (Or.inl rfl) (Or.inl rfl) (Or.inl rfl) (Or.inl rfl) (Or.inl rfl) (Or.inl rfl) (Or.inl rfl) (Or.inl rfl) (Or.inl rfl)
  case chg =>
    refine ⟨fun c p q r => ?_, fun f p => ?_, fun c f p q => ?_⟩
    · have r0 : c < 159 ∨ 159 < c := r (159, 159) (by simp); have r1 : c < 299 ∨ 299 < c := r (299, 299) (by simp); unfold scC at q; simp (disch := omega) only [wr_n]
    · have s0 : f ≠ 70 := fun e => p (by rw [e]; simp); simp (disch := omega) only [wr_ne]
    · have c0 : ¬ (c = 158 ∧ f = 1) := fun e => q (by rw [e.1, e.2]; simp); unfold scC at p; simp (disch := omega) only [wr_ne]
  case sc => refine ⟨?_, ?_, ?_, ?_, ?_, ?_, ?_, ?_, ?_, ?_, ?_, ?_⟩ <;> simp only [wr_rd, nv_rd, nb_rd, nI_add, nI_lit, Nat.reduceEqDiff, false_and, and_false, true_and, and_true, and_self, if_false, if_true, h.1.s9, h.1.s31, h.1.s56, h.1.s57, h.1.s58, h.1.s92, h.1.s71, h.1.s1, h.1.s70, h.1.s72, h.1.s99, h.1.s116, h.2.v70]
  case wsc => obtain ⟨w1, w2, w3, w4, w5, w6, w7, w8, w9, w10, w11, w12⟩ := h.2.sc; refine ⟨?_, ?_, ?_, ?_, ?_, ?_, ?_, ?_, ?_, ?_, ?_, ?_⟩ <;> (try simp only [wr_rd, nv_rd, nb_rd, nI_add, nI_lit, Nat.reduceEqDiff, false_and, and_false, true_and, and_true, and_self, if_false, if_true, cl_nI, nI_lit]) <;> first | assumption | (simp (disch := first | assumption | omega) only [prv_n, nxt_n, q_sw, mc4, mc6, mc8, mc20, mc24, mc100, nv_rd, nb_rd, wr_rd, nI_lit, nI_add, pk_mul, pk_sub, q_div, cl_nI, vpi, q_eq, q_le, q_lt, n1_eq, n1_eq', n1_le, n1_lt, n1_ge, n1_gt, i_0m1, nlt_t, nlt_f, nle_t, nle_f, neq_f, f_below, f_within, f_isCorner, f_isIn, f_isCornerM, f_isStreet, f_isHouse, f_isCrew, f_isRow, f_has10, f_has0, jx_I, jx_N, jx_m1, jr_I, jr_N1, jr_N2, wr_2, isB_0, isB_1, true_and, and_true, and_self, false_and, and_false, true_or, or_true, false_or, or_false, not_true_eq_false, not_false_eq_true, forall_const, implies_true, false_implies, ne_eq, eq_self, if_true, if_false, Nat.zero_add, Nat.add_zero, Nat.mul_zero, Nat.zero_mul, Nat.mul_one, Nat.one_mul, Nat.add_sub_cancel, Nat.reduceEqDiff, Nat.reduceAdd, Nat.reduceMul, Nat.reduceSub, Nat.reduceLeDiff, Nat.reduceLT, Nat.reduceDiv, Nat.reduceMod] <;> first | assumption | omega)
  case ta =>
    intro k p
    by_cases e : k = nv x.1 246 70
    · subst e
      simp (disch := first | assumption | omega) only [prv_n, nxt_n, q_sw, mc4, mc6, mc8, mc20, mc24, mc100, nv_rd, nb_rd, wr_rd, nI_lit, nI_add, pk_mul, pk_sub, q_div, cl_nI, vpi, q_eq, q_le, q_lt, n1_eq, n1_eq', n1_le, n1_lt, n1_ge, n1_gt, i_0m1, nlt_t, nlt_f, nle_t, nle_f, neq_f, f_below, f_within, f_isCorner, f_isIn, f_isCornerM, f_isStreet, f_isHouse, f_isCrew, f_isRow, f_has10, f_has0, jx_I, jx_N, jx_m1, jr_I, jr_N1, jr_N2, wr_2, isB_0, isB_1, true_and, and_true, and_self, false_and, and_false, true_or, or_true, false_or, or_false, not_true_eq_false, not_false_eq_true, forall_const, implies_true, false_implies, ne_eq, eq_self, if_true, if_false, Nat.zero_add, Nat.add_zero, Nat.mul_zero, Nat.zero_mul, Nat.mul_one, Nat.one_mul, Nat.add_sub_cancel, Nat.reduceEqDiff, Nat.reduceAdd, Nat.reduceMul, Nat.reduceSub, Nat.reduceLeDiff, Nat.reduceLT, Nat.reduceDiv, Nat.reduceMod]
      exact hw
    · simp (disch := first | assumption | omega) only [prv_n, nxt_n, q_sw, mc4, mc6, mc8, mc20, mc24, mc100, nv_rd, nb_rd, wr_rd, nI_lit, nI_add, pk_mul, pk_sub, q_div, cl_nI, vpi, q_eq, q_le, q_lt, n1_eq, n1_eq', n1_le, n1_lt, n1_ge, n1_gt, i_0m1, nlt_t, nlt_f, nle_t, nle_f, neq_f, f_below, f_within, f_isCorner, f_isIn, f_isCornerM, f_isStreet, f_isHouse, f_isCrew, f_isRow, f_has10, f_has0, jx_I, jx_N, jx_m1, jr_I, jr_N1, jr_N2, wr_2, isB_0, isB_1, true_and, and_true, and_self, false_and, and_false, true_or, or_true, false_or, or_false, not_true_eq_false, not_false_eq_true, forall_const, implies_true, false_implies, ne_eq, eq_self, if_true, if_false, Nat.zero_add, Nat.add_zero, Nat.mul_zero, Nat.zero_mul, Nat.mul_one, Nat.one_mul, Nat.add_sub_cancel, Nat.reduceEqDiff, Nat.reduceAdd, Nat.reduceMul, Nat.reduceSub, Nat.reduceLeDiff, Nat.reduceLT, Nat.reduceDiv, Nat.reduceMod] at p
      simp (disch := omega) only [wr_ne, nv_ne]
      exact h.1.ta k (by omega)
theorem c_take {x s : ab_X} {v : Int32} (h : Inv2 x s) (hl : nv s.1 246 70 + cn (nz v) 4 ≤ 200) {K : ab_X → Prop} (k : ∀ y, Inv2 y (tkN s v 4) → keepT x.1 y.1 → smM x y → K y) : wX8_take v x K := by
  unfold wX8_take
  refine Lp2.ind (fun ii a y => ∃ i, i ≤ 4 ∧ ii = 4 - i ∧ a = shI i ∧ Inv2 y (tkN s v i) ∧ keepT x.1 y.1 ∧ smM x y) 4 ⟨0, by omega, by omega, rfl, h, keepT.rfl', smM.rfl'⟩ ?_
  rintro ii a y ⟨i, hi, hii, rfl, iy, kt, sm⟩ L hL
  unfold lX8_take_3
  by_cases e : i = 4
  · subst e
    have l8 : -nI 8 < nI 0 := by decide
    have e4 : shI 4 = -nI 8 := rfl
    rw [e4]
    simp (disch := first | assumption | omega) only [prv_n, nxt_n, q_sw, mc4, mc6, mc8, mc20, mc24, mc100, nv_rd, nb_rd, wr_rd, nI_lit, nI_add, pk_mul, pk_sub, q_div, cl_nI, vpi, q_eq, q_le, q_lt, n1_eq, n1_eq', n1_le, n1_lt, n1_ge, n1_gt, i_0m1, nlt_t, nlt_f, nle_t, nle_f, neq_f, f_below, f_within, f_isCorner, f_isIn, f_isCornerM, f_isStreet, f_isHouse, f_isCrew, f_isRow, f_has10, f_has0, jx_I, jx_N, jx_m1, jr_I, jr_N1, jr_N2, wr_2, isB_0, isB_1, true_and, and_true, and_self, false_and, and_false, true_or, or_true, false_or, or_false, not_true_eq_false, not_false_eq_true, forall_const, implies_true, false_implies, ne_eq, eq_self, if_true, if_false, Nat.zero_add, Nat.add_zero, Nat.mul_zero, Nat.zero_mul, Nat.mul_one, Nat.one_mul, Nat.add_sub_cancel, Nat.reduceEqDiff, Nat.reduceAdd, Nat.reduceMul, Nat.reduceSub, Nat.reduceLeDiff, Nat.reduceLT, Nat.reduceDiv, Nat.reduceMod, l8]
    exact k y iy kt sm
  have hi4 : i < 4 := by omega
  have e4 : shI i = nI (24 - 8 * i) := if_pos hi4
  rw [e4]
  have next : ∀ y' : ab_X, Inv2 y' (tkN s v (i + 1)) → keepT x.1 y'.1 → smM x y' → L (shI (i + 1)) y' := fun y' a b c => hL _ _ _ (by omega) ⟨i + 1, by omega, rfl, rfl, a, b, c⟩
  have st : tkN s v (i + 1) = tk1 (tkN s v i) v i := rfl
  rw [st] at next
  unfold tk1 at next
  by_cases q : bvI v i = nI 0
  · rw [if_pos q] at next
    unfold bvI at q
    simp (disch := first | assumption | omega) only [prv_n, nxt_n, q_sw, mc4, mc6, mc8, mc20, mc24, mc100, nv_rd, nb_rd, wr_rd, nI_lit, nI_add, pk_mul, pk_sub, q_div, cl_nI, vpi, q_eq, q_le, q_lt, n1_eq, n1_eq', n1_le, n1_lt, n1_ge, n1_gt, i_0m1, nlt_t, nlt_f, nle_t, nle_f, neq_f, f_below, f_within, f_isCorner, f_isIn, f_isCornerM, f_isStreet, f_isHouse, f_isCrew, f_isRow, f_has10, f_has0, jx_I, jx_N, jx_m1, jr_I, jr_N1, jr_N2, wr_2, isB_0, isB_1, true_and, and_true, and_self, false_and, and_false, true_or, or_true, false_or, or_false, not_true_eq_false, not_false_eq_true, forall_const, implies_true, false_implies, ne_eq, eq_self, if_true, if_false, Nat.zero_add, Nat.add_zero, Nat.mul_zero, Nat.zero_mul, Nat.mul_one, Nat.one_mul, Nat.add_sub_cancel, Nat.reduceEqDiff, Nat.reduceAdd, Nat.reduceMul, Nat.reduceSub, Nat.reduceLeDiff, Nat.reduceLT, Nat.reduceDiv, Nat.reduceMod, q, sh_n hi4]
    exact next y iy kt sm
  · rw [if_neg q] at next
    have len := tkN_len (v := v) (s := s) (by omega) i (by omega)
    have lt : cn (nz v) i < cn (nz v) 4 := by
      have qn : nz v i = true := decide_eq_true q
      have s1 : cn (nz v) (i + 1) = cn (nz v) i + 1 := by show cn (nz v) i + (if nz v i then 1 else 0) = _; rw [qn]; rfl
      have mono : ∀ j, i + 1 ≤ j → cn (nz v) (i + 1) ≤ cn (nz v) j := by
        intro j hj
        induction j with
        | zero => omega
        | succ j ih =>
          by_cases ej : i + 1 = j + 1
          · rw [ej]; exact Nat.le_refl _
          · have := ih (by omega)
            show _ ≤ cn (nz v) j + (if nz v j then 1 else 0)
            omega
      have := mono 4 (by omega)
      omega
    obtain ⟨b, hb, eb⟩ := bvI_b v i
    have hb1 : 1 ≤ b := by
      apply Nat.pos_of_ne_zero
      intro e0
      rw [e0] at eb
      exact q eb
    have y1 : y.1 158 1 = nI (nv (tkN s v i).1 246 70) := by rw [iy.r.s70]; exact iy.w.v70
    have q' := q
    unfold bvI at q' eb
    have en : nv (mg y (tkN s v i)).1 246 70 = nv (tkN s v i).1 246 70 := by unfold nv; rw [mg_m (by decide)]
    simp (disch := first | assumption | omega) only [prv_n, nxt_n, q_sw, mc4, mc6, mc8, mc20, mc24, mc100, nv_rd, nb_rd, wr_rd, nI_lit, nI_add, pk_mul, pk_sub, q_div, cl_nI, vpi, q_eq, q_le, q_lt, n1_eq, n1_eq', n1_le, n1_lt, n1_ge, n1_gt, i_0m1, nlt_t, nlt_f, nle_t, nle_f, neq_f, f_below, f_within, f_isCorner, f_isIn, f_isCornerM, f_isStreet, f_isHouse, f_isCrew, f_isRow, f_has10, f_has0, jx_I, jx_N, jx_m1, jr_I, jr_N1, jr_N2, wr_2, isB_0, isB_1, true_and, and_true, and_self, false_and, and_false, true_or, or_true, false_or, or_false, not_true_eq_false, not_false_eq_true, forall_const, implies_true, false_implies, ne_eq, eq_self, if_true, if_false, Nat.zero_add, Nat.add_zero, Nat.mul_zero, Nat.zero_mul, Nat.mul_one, Nat.one_mul, Nat.add_sub_cancel, Nat.reduceEqDiff, Nat.reduceAdd, Nat.reduceMul, Nat.reduceSub, Nat.reduceLeDiff, Nat.reduceLT, Nat.reduceDiv, Nat.reduceMod, q', sh_n hi4, y1]
    rw [eb]
    refine next _ ?_ ?_ ?_
    · unfold Inv2
      simp (disch := omega) only [mg_wc, mg_wm]
      rw [← en]
      refine feed_1 iy (by omega) hb1 hb ?_ rfl
      rw [← eb]; exact (low8 _).symm
    · exact kt.tr (fun c k q => by unfold tk at q; simp (disch := omega) only [wr_ne])
    · exact sm.tr ⟨fun c q => by simp (disch := omega) only [wr_n], rfl⟩
theorem m_put4 {x s : ab_X} {v : Int32} (m : keepM s.1 x.1) (v70 : s.1 246 70 = nI (nv s.1 246 70)) (hl : nv s.1 246 70 + cn (nz v) 4 ≤ 200) {K : ab_X → Prop} (k : ∀ y, keepM (tkN s v 4).1 y.1 → (∀ c, c ≠ 299 → c ≠ 246 → y.1 c = x.1 c) → (∀ f, f ≠ 70 → y.1 246 f = x.1 246 f) → y.2 = x.2 → K y) : wX12_put4 v x K := by
  unfold wX12_put4
  refine Lp2.ind (fun ii a y => ∃ i, i ≤ 4 ∧ ii = 4 - i ∧ a = shI i ∧ keepM (tkN s v i).1 y.1 ∧ (∀ c, c ≠ 299 → c ≠ 246 → y.1 c = x.1 c) ∧ (∀ f, f ≠ 70 → y.1 246 f = x.1 246 f) ∧ y.2 = x.2 ∧ (tkN s v i).1 246 70 = nI (nv (tkN s v i).1 246 70)) 4 ⟨0, by omega, by omega, rfl, m, fun _ _ _ => rfl, fun _ _ => rfl, rfl, v70⟩ ?_
  rintro ii a y ⟨i, hi, hii, rfl, my, y1, y2, y3, y4⟩ L hL
  unfold lX12_put4_3
  by_cases e : i = 4
  · subst e
    have l8 : -nI 8 < nI 0 := by decide
    have e4 : shI 4 = -nI 8 := rfl
    rw [e4]
    simp (disch := first | assumption | omega) only [prv_n, nxt_n, q_sw, mc4, mc6, mc8, mc20, mc24, mc100, nv_rd, nb_rd, wr_rd, nI_lit, nI_add, pk_mul, pk_sub, q_div, cl_nI, vpi, q_eq, q_le, q_lt, n1_eq, n1_eq', n1_le, n1_lt, n1_ge, n1_gt, i_0m1, nlt_t, nlt_f, nle_t, nle_f, neq_f, f_below, f_within, f_isCorner, f_isIn, f_isCornerM, f_isStreet, f_isHouse, f_isCrew, f_isRow, f_has10, f_has0, jx_I, jx_N, jx_m1, jr_I, jr_N1, jr_N2, wr_2, isB_0, isB_1, true_and, and_true, and_self, false_and, and_false, true_or, or_true, false_or, or_false, not_true_eq_false, not_false_eq_true, forall_const, implies_true, false_implies, ne_eq, eq_self, if_true, if_false, Nat.zero_add, Nat.add_zero, Nat.mul_zero, Nat.zero_mul, Nat.mul_one, Nat.one_mul, Nat.add_sub_cancel, Nat.reduceEqDiff, Nat.reduceAdd, Nat.reduceMul, Nat.reduceSub, Nat.reduceLeDiff, Nat.reduceLT, Nat.reduceDiv, Nat.reduceMod, l8]
    exact k y my y1 y2 y3
  have hi4 : i < 4 := by omega
  have e4 : shI i = nI (24 - 8 * i) := if_pos hi4
  rw [e4]
  have len := tkN_len (v := v) (s := s) (by omega) i (by omega)
  have cl4 := cn_le (nz v) i
  have next : ∀ y' : ab_X, keepM (tkN s v (i + 1)).1 y'.1 → (∀ c, c ≠ 299 → c ≠ 246 → y'.1 c = x.1 c) → (∀ f, f ≠ 70 → y'.1 246 f = x.1 246 f) → y'.2 = x.2 → (tkN s v (i + 1)).1 246 70 = nI (nv (tkN s v (i + 1)).1 246 70) → L (shI (i + 1)) y' := fun y' a b c d e => hL _ _ _ (by omega) ⟨i + 1, by omega, rfl, rfl, a, b, c, d, e⟩
  have st : tkN s v (i + 1) = tk1 (tkN s v i) v i := rfl
  rw [st] at next
  unfold tk1 at next
  by_cases q : bvI v i = nI 0
  · rw [if_pos q] at next
    unfold bvI at q
    simp (disch := first | assumption | omega) only [prv_n, nxt_n, q_sw, mc4, mc6, mc8, mc20, mc24, mc100, nv_rd, nb_rd, wr_rd, nI_lit, nI_add, pk_mul, pk_sub, q_div, cl_nI, vpi, q_eq, q_le, q_lt, n1_eq, n1_eq', n1_le, n1_lt, n1_ge, n1_gt, i_0m1, nlt_t, nlt_f, nle_t, nle_f, neq_f, f_below, f_within, f_isCorner, f_isIn, f_isCornerM, f_isStreet, f_isHouse, f_isCrew, f_isRow, f_has10, f_has0, jx_I, jx_N, jx_m1, jr_I, jr_N1, jr_N2, wr_2, isB_0, isB_1, true_and, and_true, and_self, false_and, and_false, true_or, or_true, false_or, or_false, not_true_eq_false, not_false_eq_true, forall_const, implies_true, false_implies, ne_eq, eq_self, if_true, if_false, Nat.zero_add, Nat.add_zero, Nat.mul_zero, Nat.zero_mul, Nat.mul_one, Nat.one_mul, Nat.add_sub_cancel, Nat.reduceEqDiff, Nat.reduceAdd, Nat.reduceMul, Nat.reduceSub, Nat.reduceLeDiff, Nat.reduceLT, Nat.reduceDiv, Nat.reduceMod, q, sh_n hi4]
    exact next y my y1 y2 y3 y4
  · rw [if_neg q] at next
    have lt : cn (nz v) i < cn (nz v) 4 := by
      have qn : nz v i = true := decide_eq_true q
      have s1 : cn (nz v) (i + 1) = cn (nz v) i + 1 := by show cn (nz v) i + (if nz v i then 1 else 0) = _; rw [qn]; rfl
      have mono : ∀ j, i + 1 ≤ j → cn (nz v) (i + 1) ≤ cn (nz v) j := by
        intro j hj
        induction j with
        | zero => omega
        | succ j ih =>
          by_cases ej : i + 1 = j + 1
          · rw [ej]; exact Nat.le_refl _
          · have := ih (by omega)
            show _ ≤ cn (nz v) j + (if nz v j then 1 else 0)
            omega
      have := mono 4 (by omega)
      omega
    have y70 : y.1 246 70 = nI (nv (tkN s v i).1 246 70) := my.s70.trans y4
    have q' := q
    unfold bvI at q'
    simp (disch := first | assumption | omega) only [prv_n, nxt_n, q_sw, mc4, mc6, mc8, mc20, mc24, mc100, nv_rd, nb_rd, wr_rd, nI_lit, nI_add, pk_mul, pk_sub, q_div, cl_nI, vpi, q_eq, q_le, q_lt, n1_eq, n1_eq', n1_le, n1_lt, n1_ge, n1_gt, i_0m1, nlt_t, nlt_f, nle_t, nle_f, neq_f, f_below, f_within, f_isCorner, f_isIn, f_isCornerM, f_isStreet, f_isHouse, f_isCrew, f_isRow, f_has10, f_has0, jx_I, jx_N, jx_m1, jr_I, jr_N1, jr_N2, wr_2, isB_0, isB_1, true_and, and_true, and_self, false_and, and_false, true_or, or_true, false_or, or_false, not_true_eq_false, not_false_eq_true, forall_const, implies_true, false_implies, ne_eq, eq_self, if_true, if_false, Nat.zero_add, Nat.add_zero, Nat.mul_zero, Nat.zero_mul, Nat.mul_one, Nat.one_mul, Nat.add_sub_cancel, Nat.reduceEqDiff, Nat.reduceAdd, Nat.reduceMul, Nat.reduceSub, Nat.reduceLeDiff, Nat.reduceLT, Nat.reduceDiv, Nat.reduceMod, q', sh_n hi4, y70, pk_vb]
    refine next _ (keepM_wr (keepM_wr my)) (fun c h1 h2 => by rw [wr_n h2, wr_n h1]; exact y1 c h1 h2) (fun f hf => by rw [wr_k hf, wr_n (by decide)]; exact y2 f hf) y3 ?_
    rw [wr_e, nv_e, cl_nI (by omega)]
theorem p_feed {x : ab_X} {a b c d e : Int32} (h : InvA x) {K : ab_X → Prop} (hk : ∀ z, InvA z → keepT x.1 z.1 → K z) :
    wX11_feed a b c d e x (fun r y => wX12_feed a b c d e y (fun r' z => r = r' ∧ K z)) := by
  have b70 := h.2.b70
  have ca := cn_le (nz a) 4
  have cb := cn_le (nz b) 4
  have cc := cn_le (nz c) 4
  have cd := cn_le (nz d) 4
  have ce := cn_le (nz e) 4
  unfold wX11_feed
  refine c_bytes ?_
  refine c_bytes ?_
  refine c_bytes ?_
  refine c_bytes ?_
  refine c_bytes ?_
  generalize ha : cn (nz a) 4 = na at *
  generalize hb : cn (nz b) 4 = nb' at *
  generalize hc : cn (nz c) 4 = nc at *
  generalize hd : cn (nz d) 4 = nd at *
  generalize he : cn (nz e) 4 = ne' at *
  by_cases q : nv x.1 246 70 + (na + nb' + nc + nd + ne') ≤ 200
  · simp (disch := first | assumption | omega) only [prv_n, nxt_n, q_sw, mc4, mc6, mc8, mc20, mc24, mc100, nv_rd, nb_rd, wr_rd, nI_lit, nI_add, pk_mul, pk_sub, q_div, cl_nI, vpi, q_eq, q_le, q_lt, n1_eq, n1_eq', n1_le, n1_lt, n1_ge, n1_gt, i_0m1, nlt_t, nlt_f, nle_t, nle_f, neq_f, f_below, f_within, f_isCorner, f_isIn, f_isCornerM, f_isStreet, f_isHouse, f_isCrew, f_isRow, f_has10, f_has0, jx_I, jx_N, jx_m1, jr_I, jr_N1, jr_N2, wr_2, isB_0, isB_1, true_and, and_true, and_self, false_and, and_false, true_or, or_true, false_or, or_false, not_true_eq_false, not_false_eq_true, forall_const, implies_true, false_implies, ne_eq, eq_self, if_true, if_false, Nat.zero_add, Nat.add_zero, Nat.mul_zero, Nat.zero_mul, Nat.mul_one, Nat.one_mul, Nat.add_sub_cancel, Nat.reduceEqDiff, Nat.reduceAdd, Nat.reduceMul, Nat.reduceSub, Nat.reduceLeDiff, Nat.reduceLT, Nat.reduceDiv, Nat.reduceMod, h.1.s70, h.2.v70]
    have L0 := tkN_len (s := x) (v := a) (by omega) 4 (Nat.le_refl _)
    have L1 := tkN_len (s := tkN x a 4) (v := b) (by omega) 4 (Nat.le_refl _)
    have L2 := tkN_len (s := tkN (tkN x a 4) b 4) (v := c) (by omega) 4 (Nat.le_refl _)
    have L3 := tkN_len (s := tkN (tkN (tkN x a 4) b 4) c 4) (v := d) (by omega) 4 (Nat.le_refl _)
    refine c_take (Inv2.id h) (by omega) (fun y1 i1 k1 s1 => ?_)
    refine c_take i1 (by omega) (fun y2 i2 k2 s2 => ?_)
    refine c_take i2 (by omega) (fun y3 i3 k3 s3 => ?_)
    refine c_take i3 (by omega) (fun y4 i4 k4 s4 => ?_)
    refine c_take i4 (by omega) (fun y5 i5 k5 s5 => ?_)
    have sm := (((s1.tr s2).tr s3).tr s4).tr s5
    have kt := (((k1.tr k2).tr k3).tr k4).tr k5
    have my : keepM x.1 (wr y5 246 0 (nI 0)).1 := (sm.m keepM.rfl').tr keepM_th
    have g70 : y5.1 246 70 = nI (nv x.1 246 70) := by rw [sm.1 246 (by decide), h.2.v70]
    unfold wX12_feed
    refine m_bytes ?_
    refine m_bytes ?_
    refine m_bytes ?_
    refine m_bytes ?_
    refine m_bytes ?_
    rw [ha, hb, hc, hd, he]
    simp (disch := first | assumption | omega) only [prv_n, nxt_n, q_sw, mc4, mc6, mc8, mc20, mc24, mc100, nv_rd, nb_rd, wr_rd, nI_lit, nI_add, pk_mul, pk_sub, q_div, cl_nI, vpi, q_eq, q_le, q_lt, n1_eq, n1_eq', n1_le, n1_lt, n1_ge, n1_gt, i_0m1, nlt_t, nlt_f, nle_t, nle_f, neq_f, f_below, f_within, f_isCorner, f_isIn, f_isCornerM, f_isStreet, f_isHouse, f_isCrew, f_isRow, f_has10, f_has0, jx_I, jx_N, jx_m1, jr_I, jr_N1, jr_N2, wr_2, isB_0, isB_1, true_and, and_true, and_self, false_and, and_false, true_or, or_true, false_or, or_false, not_true_eq_false, not_false_eq_true, forall_const, implies_true, false_implies, ne_eq, eq_self, if_true, if_false, Nat.zero_add, Nat.add_zero, Nat.mul_zero, Nat.zero_mul, Nat.mul_one, Nat.one_mul, Nat.add_sub_cancel, Nat.reduceEqDiff, Nat.reduceAdd, Nat.reduceMul, Nat.reduceSub, Nat.reduceLeDiff, Nat.reduceLT, Nat.reduceDiv, Nat.reduceMod, g70]
    refine m_put4 my h.2.v70 (by omega) (fun z1 m1 a1 b1 d1 => ?_)
    refine m_put4 m1 i1.w.v70 (by omega) (fun z2 m2 a2 b2 d2 => ?_)
    refine m_put4 m2 i2.w.v70 (by omega) (fun z3 m3 a3 b3 d3 => ?_)
    refine m_put4 m3 i3.w.v70 (by omega) (fun z4 m4 a4 b4 d4 => ?_)
    refine m_put4 m4 i4.w.v70 (by omega) (fun z5 m5 a5 b5 d5 => ⟨?_, hk z5 ?_ ?_⟩)
    · rw [m5.s70, i5.r.s70]
    · refine i5.fin (fun c hc => ?_) m5 (fun k p => ?_) ?_
      · rw [a5 c (by omega) (by omega), a4 c (by omega) (by omega), a3 c (by omega) (by omega), a2 c (by omega) (by omega), a1 c (by omega) (by omega), wr_n (by omega)]
      · rw [a5 268 (by decide) (by decide), a4 268 (by decide) (by decide), a3 268 (by decide) (by decide), a2 268 (by decide) (by decide), a1 268 (by decide) (by decide), wr_n (by decide), sm.1 268 (by decide)]
        exact h.1.wa k p
      · rw [d5, d4, d3, d2, d1, tkN_2, tkN_2, tkN_2, tkN_2, tkN_2]
        show y5.2.1 329 = _
        rw [sm.2]
    · intro g k q
      unfold tk at q
      by_cases e6 : g = 246
      · subst e6
        rw [b5 k (by omega), b4 k (by omega), b3 k (by omega), b2 k (by omega), b1 k (by omega), wr_k (by omega), sm.1 246 (by decide)]
      · rw [a5 g (by omega) e6, a4 g (by omega) e6, a3 g (by omega) e6, a2 g (by omega) e6, a1 g (by omega) e6, wr_n e6]
        exact kt g k (by unfold tk; omega)
  · simp (disch := first | assumption | omega) only [prv_n, nxt_n, q_sw, mc4, mc6, mc8, mc20, mc24, mc100, nv_rd, nb_rd, wr_rd, nI_lit, nI_add, pk_mul, pk_sub, q_div, cl_nI, vpi, q_eq, q_le, q_lt, n1_eq, n1_eq', n1_le, n1_lt, n1_ge, n1_gt, i_0m1, nlt_t, nlt_f, nle_t, nle_f, neq_f, f_below, f_within, f_isCorner, f_isIn, f_isCornerM, f_isStreet, f_isHouse, f_isCrew, f_isRow, f_has10, f_has0, jx_I, jx_N, jx_m1, jr_I, jr_N1, jr_N2, wr_2, isB_0, isB_1, true_and, and_true, and_self, false_and, and_false, true_or, or_true, false_or, or_false, not_true_eq_false, not_false_eq_true, forall_const, implies_true, false_implies, ne_eq, eq_self, if_true, if_false, Nat.zero_add, Nat.add_zero, Nat.mul_zero, Nat.zero_mul, Nat.mul_one, Nat.one_mul, Nat.add_sub_cancel, Nat.reduceEqDiff, Nat.reduceAdd, Nat.reduceMul, Nat.reduceSub, Nat.reduceLeDiff, Nat.reduceLT, Nat.reduceDiv, Nat.reduceMod, h.1.s70, h.2.v70]
    unfold wX12_feed
    refine m_bytes ?_
    refine m_bytes ?_
    refine m_bytes ?_
    refine m_bytes ?_
    refine m_bytes ?_
    rw [ha, hb, hc, hd, he]
    simp (disch := first | assumption | omega) only [prv_n, nxt_n, q_sw, mc4, mc6, mc8, mc20, mc24, mc100, nv_rd, nb_rd, wr_rd, nI_lit, nI_add, pk_mul, pk_sub, q_div, cl_nI, vpi, q_eq, q_le, q_lt, n1_eq, n1_eq', n1_le, n1_lt, n1_ge, n1_gt, i_0m1, nlt_t, nlt_f, nle_t, nle_f, neq_f, f_below, f_within, f_isCorner, f_isIn, f_isCornerM, f_isStreet, f_isHouse, f_isCrew, f_isRow, f_has10, f_has0, jx_I, jx_N, jx_m1, jr_I, jr_N1, jr_N2, wr_2, isB_0, isB_1, true_and, and_true, and_self, false_and, and_false, true_or, or_true, false_or, or_false, not_true_eq_false, not_false_eq_true, forall_const, implies_true, false_implies, ne_eq, eq_self, if_true, if_false, Nat.zero_add, Nat.add_zero, Nat.mul_zero, Nat.zero_mul, Nat.mul_one, Nat.one_mul, Nat.add_sub_cancel, Nat.reduceEqDiff, Nat.reduceAdd, Nat.reduceMul, Nat.reduceSub, Nat.reduceLeDiff, Nat.reduceLT, Nat.reduceDiv, Nat.reduceMod, h.2.v70]
    exact hk _ (InvA_th h) keepT_th
