/-! WHICH CORNERS are near; points. -/
theorem nx_and (a b : Nat) : nI a &&& nI b = nI (a &&& b) := by
  apply Int32.toBitVec_inj.1
  show BitVec.ofNat 32 a &&& BitVec.ofNat 32 b = BitVec.ofNat 32 (a &&& b)
  apply BitVec.eq_of_getLsbD_eq
  intro i hi
  simp [hi]
theorem us_n {n : Nat} (hn : n < 2 ^ 32) (s k : Nat) (hs : (((nI s).toUInt32 &&& Int32.toUInt32 31).toBitVec % 32).toNat = k) : iushr (nI n) (nI s) = nI (n / 2 ^ k) := pk_ushrN hn (nI s) k hs
theorem bit_count {w : Int32} {x : ab_X} (h : ∀ i, 20 ≤ i → i < 32 → bt w i = false) {K : Int32 → Prop} (k : K (nI (cn (bt w) 20))) : wJ6_bitCount_0f7a4 w x K := by
  obtain ⟨N, hN, e, tb⟩ : ∃ N, N < 1048576 ∧ w = nI N ∧ ∀ i, bt w i = N.testBit i := by
    refine ⟨w.toBitVec.toNat, ?_, ?_, fun i => rfl⟩
    · refine Nat.lt_pow_two_of_testBit (n := 20) _ (fun j hj => ?_)
      by_cases q : j < 32
      · exact h j hj q
      · exact b_big (x := w) (by omega)
    · apply Int32.toBitVec_inj.mp
      apply BitVec.eq_of_toNat_eq
      rw [pk_tn w.toBitVec.isLt]
  have c2 : cn (bt w) 20 = cn (fun i => N.testBit i) 20 := cn_congr (fun i _ => tb i)
  rw [c2, ← pop20 hN] at k
  subst e
  have e1 : nI N - ((iushr (nI N) (nI 1)) &&& nI 1431655765) = nI (BF1 N) := by
    rw [us_n (by omega) 1 1 (by decide), nx_and, pk_sub]
    · rfl
    · exact Nat.le_trans Nat.and_le_left (Nat.div_le_self _ _)
  have l1 : BF1 N < 1048576 := Nat.lt_of_le_of_lt (Nat.sub_le _ _) hN
  have e2 : (nI (BF1 N) &&& nI 858993459) + ((iushr (nI (BF1 N)) (nI 2)) &&& nI 858993459) = nI (BF2 (BF1 N)) := by
    rw [us_n (by omega) 2 2 (by decide), nx_and, nx_and, nI_add]; rfl
  have l2 : BF2 (BF1 N) < 2097152 := by
    have a1 : (BF1 N &&& 858993459) ≤ BF1 N := Nat.and_le_left
    have a2 : (BF1 N / 4 &&& 858993459) ≤ BF1 N / 4 := Nat.and_le_left
    show (BF1 N &&& 858993459) + (BF1 N / 4 &&& 858993459) < _
    omega
  have e3 : (nI (BF2 (BF1 N)) + (iushr (nI (BF2 (BF1 N))) (nI 4))) &&& nI 252645135 = nI (BF3 (BF2 (BF1 N))) := by
    rw [us_n (by omega) 4 4 (by decide), nI_add, nx_and]; rfl
  have l3 : BF3 (BF2 (BF1 N)) < 4194304 := by
    refine Nat.lt_of_le_of_lt Nat.and_le_left ?_
    omega
  unfold wJ6_bitCount_0f7a4
  simp only [nI_lit]
  rw [e1, e2, e3, us_n (by omega) 8 8 (by decide), nI_add, us_n (by omega) 16 16 (by decide), nI_add, nx_and]
  have e4 : ∀ n, n &&& 63 = n % 64 := fun n => Nat.and_two_pow_sub_one_eq_mod n 6
  rw [e4]
  exact k
def nr (Y : Nat → Nat → Int32) (m c k : Nat) : Bool := decide (nv Y 251 (20 * k + c) ≤ m)
def ptN (n : Nat) : Nat := if n = 0 then 0 else if n = 1 then 2 else 3
def pts (Y : Nat → Nat → Int32) (m c : Nat) (w : Int32) : Nat := ptN (cn (fun k => bt w k && nr Y m c k) 20)
theorem pts_le (Y : Nat → Nat → Int32) (m c : Nat) (w : Int32) : pts Y m c w ≤ 3 := by
  unfold pts ptN; split
  · omega
  · split <;> omega
/-- the table of the near ones -/
def nrT (Y : Nat → Nat → Int32) (m : Nat) (X : Nat → Nat → Int32) : Prop := ∀ c, c < 20 → ∀ i, i < 32 → bt (X 241 c) i = (decide (i < 20) && nr Y m c i)
theorem c_nearT {x : ab_X} {Y : Nat → Nat → Int32} {D : Nat → UInt64} (r : RR x.1 Y D) (w : WW Y) {m : Nat} (hm : m ≤ 100) {K : ab_X → Prop} (k : ∀ y : ab_X, (∀ c, c ≠ 241 → y.1 c = x.1 c) → nrT Y m y.1 → y.2 = x.2 → K y) : wX7_findNear (nI m) x K := by
  unfold wX7_findNear
  refine Lp2.ind (fun ii a y => ∃ c, c ≤ 20 ∧ ii = 20 - c ∧ a = nI c ∧ (∀ c, c ≠ 241 → y.1 c = x.1 c) ∧ (∀ d, d < c → ∀ i, i < 32 → bt (y.1 241 d) i = (decide (i < 20) && nr Y m d i)) ∧ y.2 = x.2) 20 ⟨0, by omega, rfl, rfl, fun _ _ => rfl, fun d hd => by omega, rfl⟩ ?_
  rintro ii a y ⟨c, hc, hii, rfl, y1, y2, y3⟩ L hL
  unfold lX7_findNear_2
  by_cases e : c = 20
  · subst e
    simp (disch := first | assumption | omega) only [prv_n, nxt_n, q_sw, mc4, mc6, mc8, mc20, mc24, mc100, nv_rd, nb_rd, wr_rd, nI_lit, nI_add, pk_mul, pk_sub, q_div, cl_nI, vpi, q_eq, q_le, q_lt, n1_eq, n1_eq', n1_le, n1_lt, n1_ge, n1_gt, i_0m1, nlt_t, nlt_f, nle_t, nle_f, neq_f, f_below, f_within, f_isCorner, f_isIn, f_isCornerM, f_isStreet, f_isHouse, f_isCrew, f_isRow, f_has10, f_has0, jx_I, jx_N, jx_m1, jr_I, jr_N1, jr_N2, wr_2, isB_0, isB_1, true_and, and_true, and_self, false_and, and_false, true_or, or_true, false_or, or_false, not_true_eq_false, not_false_eq_true, forall_const, implies_true, false_implies, ne_eq, eq_self, if_true, if_false, Nat.zero_add, Nat.add_zero, Nat.mul_zero, Nat.zero_mul, Nat.mul_one, Nat.one_mul, Nat.add_sub_cancel, Nat.reduceEqDiff, Nat.reduceAdd, Nat.reduceMul, Nat.reduceSub, Nat.reduceLeDiff, Nat.reduceLT, Nat.reduceDiv, Nat.reduceMod]
    exact k y y1 y2 y3
  have hc2 : c < 20 := by omega
  simp (disch := first | assumption | omega) only [prv_n, nxt_n, q_sw, mc4, mc6, mc8, mc20, mc24, mc100, nv_rd, nb_rd, wr_rd, nI_lit, nI_add, pk_mul, pk_sub, q_div, cl_nI, vpi, q_eq, q_le, q_lt, n1_eq, n1_eq', n1_le, n1_lt, n1_ge, n1_gt, i_0m1, nlt_t, nlt_f, nle_t, nle_f, neq_f, f_below, f_within, f_isCorner, f_isIn, f_isCornerM, f_isStreet, f_isHouse, f_isCrew, f_isRow, f_has10, f_has0, jx_I, jx_N, jx_m1, jr_I, jr_N1, jr_N2, wr_2, isB_0, isB_1, true_and, and_true, and_self, false_and, and_false, true_or, or_true, false_or, or_false, not_true_eq_false, not_false_eq_true, forall_const, implies_true, false_implies, ne_eq, eq_self, if_true, if_false, Nat.zero_add, Nat.add_zero, Nat.mul_zero, Nat.zero_mul, Nat.mul_one, Nat.one_mul, Nat.add_sub_cancel, Nat.reduceEqDiff, Nat.reduceAdd, Nat.reduceMul, Nat.reduceSub, Nat.reduceLeDiff, Nat.reduceLT, Nat.reduceDiv, Nat.reduceMod]
  refine Lp2.ind (fun ii a z => ∃ f, f ≤ 20 ∧ ii = 20 - f ∧ a = nI f ∧ (∀ c, c ≠ 241 → z.1 c = x.1 c) ∧ (∀ d, d < c → z.1 241 d = y.1 241 d) ∧ (∀ i, i < 32 → bt (z.1 241 c) i = (decide (i < f) && nr Y m c i)) ∧ z.2 = x.2) 20 ⟨0, by omega, rfl, rfl, fun d hd => by rw [wr_n hd, y1 d hd], fun d hd => wr_k (by omega), fun i hi => by rw [wr_e, bt_z]; rfl, y3⟩ ?_
  rintro ii' a' z ⟨f, hf, hii', rfl, z1, z2, z3, z4⟩ L' hL'
  unfold lX7_findNear_17
  by_cases e2 : f = 20
  · subst e2
    simp (disch := first | assumption | omega) only [prv_n, nxt_n, q_sw, mc4, mc6, mc8, mc20, mc24, mc100, nv_rd, nb_rd, wr_rd, nI_lit, nI_add, pk_mul, pk_sub, q_div, cl_nI, vpi, q_eq, q_le, q_lt, n1_eq, n1_eq', n1_le, n1_lt, n1_ge, n1_gt, i_0m1, nlt_t, nlt_f, nle_t, nle_f, neq_f, f_below, f_within, f_isCorner, f_isIn, f_isCornerM, f_isStreet, f_isHouse, f_isCrew, f_isRow, f_has10, f_has0, jx_I, jx_N, jx_m1, jr_I, jr_N1, jr_N2, wr_2, isB_0, isB_1, true_and, and_true, and_self, false_and, and_false, true_or, or_true, false_or, or_false, not_true_eq_false, not_false_eq_true, forall_const, implies_true, false_implies, ne_eq, eq_self, if_true, if_false, Nat.zero_add, Nat.add_zero, Nat.mul_zero, Nat.zero_mul, Nat.mul_one, Nat.one_mul, Nat.add_sub_cancel, Nat.reduceEqDiff, Nat.reduceAdd, Nat.reduceMul, Nat.reduceSub, Nat.reduceLeDiff, Nat.reduceLT, Nat.reduceDiv, Nat.reduceMod]
    refine hL _ _ _ (by omega) ⟨c + 1, by omega, rfl, rfl, z1, fun d hd i hi => ?_, z4⟩
    by_cases e3 : d = c
    · subst e3; exact z3 i hi
    · rw [z2 d (by omega)]; exact y2 d (by omega) i hi
  have hf2 : f < 20 := by omega
  have rz : RR z.1 Y D := RR_keep w r ⟨fun c q => z1 c (by unfold kC at q; omega), by rw [z1 158 (by decide)], fun c f p q => by rw [z1 (82 + c) (by omega)]⟩ keepM.rfl' (fun _ _ => rfl)
  have nw := (w.wk.1 (20 * f + c) (by omega)).2
  refine ⟨fun q => absurd q (by simp only [nI_lit]; rw [q_le (by omega) (by omega)]; omega), fun _ => c_walk rz w hf2 hc2 ?_⟩
  by_cases q : nv Y 251 (20 * f + c) ≤ m
  · simp (disch := first | assumption | omega) only [prv_n, nxt_n, q_sw, mc4, mc6, mc8, mc20, mc24, mc100, nv_rd, nb_rd, wr_rd, nI_lit, nI_add, pk_mul, pk_sub, q_div, cl_nI, vpi, q_eq, q_le, q_lt, n1_eq, n1_eq', n1_le, n1_lt, n1_ge, n1_gt, i_0m1, nlt_t, nlt_f, nle_t, nle_f, neq_f, f_below, f_within, f_isCorner, f_isIn, f_isCornerM, f_isStreet, f_isHouse, f_isCrew, f_isRow, f_has10, f_has0, jx_I, jx_N, jx_m1, jr_I, jr_N1, jr_N2, wr_2, isB_0, isB_1, true_and, and_true, and_self, false_and, and_false, true_or, or_true, false_or, or_false, not_true_eq_false, not_false_eq_true, forall_const, implies_true, false_implies, ne_eq, eq_self, if_true, if_false, Nat.zero_add, Nat.add_zero, Nat.mul_zero, Nat.zero_mul, Nat.mul_one, Nat.one_mul, Nat.add_sub_cancel, Nat.reduceEqDiff, Nat.reduceAdd, Nat.reduceMul, Nat.reduceSub, Nat.reduceLeDiff, Nat.reduceLT, Nat.reduceDiv, Nat.reduceMod]
    refine hL' _ _ _ (by omega) ⟨f + 1, by omega, rfl, rfl, fun d hd => by rw [wr_n hd, z1 d hd], fun d hd => by rw [wr_k (by omega), z2 d hd], fun i hi => ?_, z4⟩
    rw [wr_e, b_or, z3 i hi, bt_one (by omega) hi]
    by_cases e4 : i = f
    · subst e4
      rw [decide_eq_true rfl, Bool.or_true, decide_eq_true (by omega : i < i + 1), show nr Y m c i = true from decide_eq_true q]; rfl
    · rw [decide_eq_false e4, Bool.or_false]
      by_cases e5 : i < f
      · rw [decide_eq_true e5, decide_eq_true (by omega : i < f + 1)]
      · rw [decide_eq_false e5, decide_eq_false (by omega : ¬ i < f + 1)]
  · simp (disch := first | assumption | omega) only [prv_n, nxt_n, q_sw, mc4, mc6, mc8, mc20, mc24, mc100, nv_rd, nb_rd, wr_rd, nI_lit, nI_add, pk_mul, pk_sub, q_div, cl_nI, vpi, q_eq, q_le, q_lt, n1_eq, n1_eq', n1_le, n1_lt, n1_ge, n1_gt, i_0m1, nlt_t, nlt_f, nle_t, nle_f, neq_f, f_below, f_within, f_isCorner, f_isIn, f_isCornerM, f_isStreet, f_isHouse, f_isCrew, f_isRow, f_has10, f_has0, jx_I, jx_N, jx_m1, jr_I, jr_N1, jr_N2, wr_2, isB_0, isB_1, true_and, and_true, and_self, false_and, and_false, true_or, or_true, false_or, or_false, not_true_eq_false, not_false_eq_true, forall_const, implies_true, false_implies, ne_eq, eq_self, if_true, if_false, Nat.zero_add, Nat.add_zero, Nat.mul_zero, Nat.zero_mul, Nat.mul_one, Nat.one_mul, Nat.add_sub_cancel, Nat.reduceEqDiff, Nat.reduceAdd, Nat.reduceMul, Nat.reduceSub, Nat.reduceLeDiff, Nat.reduceLT, Nat.reduceDiv, Nat.reduceMod]
    refine hL' _ _ _ (by omega) ⟨f + 1, by omega, rfl, rfl, z1, z2, fun i hi => ?_, z4⟩
    rw [z3 i hi]
    by_cases e4 : i = f
    · subst e4
      rw [show nr Y m c i = false from decide_eq_false q, Bool.and_false, Bool.and_false]
    · by_cases e5 : i < f
      · rw [decide_eq_true e5, decide_eq_true (by omega : i < f + 1)]
      · rw [decide_eq_false e5, decide_eq_false (by omega : ¬ i < f + 1)]
theorem ptK {n : Nat} (hn : n < 2147483648) {K : Int32 → Prop} (k : K (nI (ptN n))) : ((¬ nI n = nI 0 → ((¬ nI n = nI 1 → K (nI 3)) ∧ (nI n = nI 1 → K (nI 2)))) ∧ (nI n = nI 0 → K (nI 0))) := by
  unfold ptN at k
  by_cases q : n = 0
  · rw [if_pos q] at k
    subst q
    exact ⟨fun u => absurd rfl u, fun _ => k⟩
  · rw [if_neg q] at k
    refine ⟨fun _ => ?_, fun u => absurd ((q_eq hn (by omega)).mp u) q⟩
    by_cases q2 : n = 1
    · rw [if_pos q2] at k
      subst q2
      exact ⟨fun u => absurd rfl u, fun _ => k⟩
    · rw [if_neg q2] at k
      exact ⟨fun _ => k, fun u => absurd ((q_eq hn (by omega)).mp u) q2⟩
theorem c_pts {x : ab_X} {Y : Nat → Nat → Int32} {m c : Nat} {v : Int32} (t : nrT Y m x.1) (hc : c < 20) {K : Int32 → Prop} (k : K (nI (pts Y m c v))) : wX7_pointsAt (nI c) v x K := by
  unfold wX7_pointsAt
  simp (disch := first | assumption | omega) only [prv_n, nxt_n, q_sw, mc4, mc6, mc8, mc20, mc24, mc100, nv_rd, nb_rd, wr_rd, nI_lit, nI_add, pk_mul, pk_sub, q_div, cl_nI, vpi, q_eq, q_le, q_lt, n1_eq, n1_eq', n1_le, n1_lt, n1_ge, n1_gt, i_0m1, nlt_t, nlt_f, nle_t, nle_f, neq_f, f_below, f_within, f_isCorner, f_isIn, f_isCornerM, f_isStreet, f_isHouse, f_isCrew, f_isRow, f_has10, f_has0, jx_I, jx_N, jx_m1, jr_I, jr_N1, jr_N2, wr_2, isB_0, isB_1, true_and, and_true, and_self, false_and, and_false, true_or, or_true, false_or, or_false, not_true_eq_false, not_false_eq_true, forall_const, implies_true, false_implies, ne_eq, eq_self, if_true, if_false, Nat.zero_add, Nat.add_zero, Nat.mul_zero, Nat.zero_mul, Nat.mul_one, Nat.one_mul, Nat.add_sub_cancel, Nat.reduceEqDiff, Nat.reduceAdd, Nat.reduceMul, Nat.reduceSub, Nat.reduceLeDiff, Nat.reduceLT, Nat.reduceDiv, Nat.reduceMod]
  refine bit_count (fun i h1 h2 => ?_) ?_
  · rw [b_and, t c hc i h2, decide_eq_false (by omega : ¬ i < 20)]; rfl
  · have e : cn (bt (x.1 241 c &&& v)) 20 = cn (fun k => bt v k && nr Y m c k) 20 := cn_congr (fun i hi => by rw [b_and, t c hc i (by omega), decide_eq_true hi, Bool.true_and, Bool.and_comm])
    rw [e]
    exact ptK (by have := cn_le (fun k => bt v k && nr Y m c k) 20; omega) k
theorem m_pts {x : ab_X} {Y : Nat → Nat → Int32} (m : keepM Y x.1) (w : WW Y) {l c : Nat} (hm : l ≤ 100) {v : Int32} (hc : c < 20) {K : Int32 → Prop} (k : K (nI (pts Y l c v))) : wX12_pointsOf (nI c) v (nI l) x K := by
  unfold wX12_pointsOf
  refine Lp2.seq 20 (fun i => nI (cn (fun k => bt v k && nr Y l c k) i)) (fun i => nI i) rfl rfl (fun i hi L hL => ?_) (fun L => ?_)
  · have hL' : L (nI (cn (fun k => bt v k && nr Y l c k) i + (if (bt v i && nr Y l c i) then 1 else 0))) (nI (i + 1)) := hL
    unfold lX12_pointsOf_6 wX12_pointsOf_40 wX12_pointsOf_41
    have nw := (w.wk.1 (20 * i + c) (by omega)).2
    refine ⟨fun q => absurd q (by simp only [nI_lit]; rw [q_le (by omega) (by omega)]; omega), fun _ => ?_⟩
    simp only [nI_lit]
    rw [bit_e (by omega)]
    cases qb : bt v i
    · rw [qb, Bool.false_and, if_neg (by decide), Nat.add_zero] at hL'
      refine ⟨fun _ => ?_, fun u => absurd u (by decide)⟩
      simp (disch := first | assumption | omega) only [prv_n, nxt_n, q_sw, mc4, mc6, mc8, mc20, mc24, mc100, nv_rd, nb_rd, wr_rd, nI_lit, nI_add, pk_mul, pk_sub, q_div, cl_nI, vpi, q_eq, q_le, q_lt, n1_eq, n1_eq', n1_le, n1_lt, n1_ge, n1_gt, i_0m1, nlt_t, nlt_f, nle_t, nle_f, neq_f, f_below, f_within, f_isCorner, f_isIn, f_isCornerM, f_isStreet, f_isHouse, f_isCrew, f_isRow, f_has10, f_has0, jx_I, jx_N, jx_m1, jr_I, jr_N1, jr_N2, wr_2, isB_0, isB_1, true_and, and_true, and_self, false_and, and_false, true_or, or_true, false_or, or_false, not_true_eq_false, not_false_eq_true, forall_const, implies_true, false_implies, ne_eq, eq_self, if_true, if_false, Nat.zero_add, Nat.add_zero, Nat.mul_zero, Nat.zero_mul, Nat.mul_one, Nat.one_mul, Nat.add_sub_cancel, Nat.reduceEqDiff, Nat.reduceAdd, Nat.reduceMul, Nat.reduceSub, Nat.reduceLeDiff, Nat.reduceLT, Nat.reduceDiv, Nat.reduceMod]
      exact hL'
    · refine ⟨fun u => absurd rfl u, fun _ => m_walk m w hi hc ?_⟩
      rw [qb, Bool.true_and] at hL'
      by_cases q : nv Y 251 (20 * i + c) ≤ l
      · rw [show nr Y l c i = true from decide_eq_true q, if_pos rfl] at hL'
        simp (disch := first | assumption | omega) only [prv_n, nxt_n, q_sw, mc4, mc6, mc8, mc20, mc24, mc100, nv_rd, nb_rd, wr_rd, nI_lit, nI_add, pk_mul, pk_sub, q_div, cl_nI, vpi, q_eq, q_le, q_lt, n1_eq, n1_eq', n1_le, n1_lt, n1_ge, n1_gt, i_0m1, nlt_t, nlt_f, nle_t, nle_f, neq_f, f_below, f_within, f_isCorner, f_isIn, f_isCornerM, f_isStreet, f_isHouse, f_isCrew, f_isRow, f_has10, f_has0, jx_I, jx_N, jx_m1, jr_I, jr_N1, jr_N2, wr_2, isB_0, isB_1, true_and, and_true, and_self, false_and, and_false, true_or, or_true, false_or, or_false, not_true_eq_false, not_false_eq_true, forall_const, implies_true, false_implies, ne_eq, eq_self, if_true, if_false, Nat.zero_add, Nat.add_zero, Nat.mul_zero, Nat.zero_mul, Nat.mul_one, Nat.one_mul, Nat.add_sub_cancel, Nat.reduceEqDiff, Nat.reduceAdd, Nat.reduceMul, Nat.reduceSub, Nat.reduceLeDiff, Nat.reduceLT, Nat.reduceDiv, Nat.reduceMod]
        exact hL'
      · rw [show nr Y l c i = false from decide_eq_false q, if_neg (by decide)] at hL'
        simp (disch := first | assumption | omega) only [prv_n, nxt_n, q_sw, mc4, mc6, mc8, mc20, mc24, mc100, nv_rd, nb_rd, wr_rd, nI_lit, nI_add, pk_mul, pk_sub, q_div, cl_nI, vpi, q_eq, q_le, q_lt, n1_eq, n1_eq', n1_le, n1_lt, n1_ge, n1_gt, i_0m1, nlt_t, nlt_f, nle_t, nle_f, neq_f, f_below, f_within, f_isCorner, f_isIn, f_isCornerM, f_isStreet, f_isHouse, f_isCrew, f_isRow, f_has10, f_has0, jx_I, jx_N, jx_m1, jr_I, jr_N1, jr_N2, wr_2, isB_0, isB_1, true_and, and_true, and_self, false_and, and_false, true_or, or_true, false_or, or_false, not_true_eq_false, not_false_eq_true, forall_const, implies_true, false_implies, ne_eq, eq_self, if_true, if_false, Nat.zero_add, Nat.add_zero, Nat.mul_zero, Nat.zero_mul, Nat.mul_one, Nat.one_mul, Nat.add_sub_cancel, Nat.reduceEqDiff, Nat.reduceAdd, Nat.reduceMul, Nat.reduceSub, Nat.reduceLeDiff, Nat.reduceLT, Nat.reduceDiv, Nat.reduceMod]
        exact hL'
  · unfold lX12_pointsOf_6
    refine ⟨fun _ => ptK (by have := cn_le (fun k => bt v k && nr Y l c k) 20; omega) k, fun q => absurd (by decide) q⟩
