/-! THE FIRE: questions. -/
def Fi (v : Nat) (X Y : Nat → Nat → Int32) : Prop := (∀ k, k < 288 → X (v + 1) k = Y 266 k ∧ X (v + 2) k = Y 267 k ∧ isB (X (v + 6) k)) ∧ (∀ k, k < 72 → X (v + 4) k = Y 271 k ∧ X (v + 5) k = Y 274 k) ∧ isB (X v 7) ∧ (¬ X v 7 = nI 0 → ∀ k, k < 288 → Y 266 k = nI 0)
def Wf (Y : Nat → Nat → Int32) : Prop := (∀ k, k < 288 → nbd Y 266 k 1000 ∧ nbd Y 267 k 2000) ∧ (∀ k, k < 72 → isB (Y 274 k)) ∧ (∀ h r, h < 12 → r < 24 → (nv Y 246 31 ≤ h ∨ nv Y 256 h * nv Y 257 h ≤ r) → Y 266 (24 * h + r) = nI 0) ∧ (∀ h f r, h < nv Y 246 31 → f < nv Y 256 h → r < nv Y 257 h → ¬ Y 274 (6 * h + f) = nI 0 → Y 266 (24 * h + (f * nv Y 257 h + r)) = nI 0)
def TR (v : Nat) (X Y : Nat → Nat → Int32) : Prop := X 9 2 = Y 246 31 ∧ Rho X Y ∧ Fi v X Y
def TW (Y : Nat → Nat → Int32) : Prop := nbd Y 246 31 12 ∧ Who Y ∧ Wf Y
theorem RR.tr {X Y : Nat → Nat → Int32} {D : Nat → UInt64} (h : RR X Y D) : TR 11 X Y := ⟨h.s31, h.ho, fun k p => ⟨(h.fi.1 k p).1, (h.fi.1 k p).2.1, (h.fi.1 k p).2.2.1⟩, fun k p => ⟨(h.fi.2.1 k p).1, (h.fi.2.1 k p).2.1⟩, h.fi.2.2.1, h.fi.2.2.2⟩
theorem WW.tw {Y : Nat → Nat → Int32} (h : WW Y) : TW Y := ⟨⟨h.v31, h.b31⟩, h.ho, h.fi.1, h.fi.2.1, h.fi.2.2.1, h.fi.2.2.2.1⟩
def kF (c : Nat) : Prop := (254 ≤ c ∧ c ≤ 261) ∨ (265 ≤ c ∧ c ≤ 267) ∨ c = 271 ∨ c = 274
def keepF (Y Z : Nat → Nat → Int32) : Prop := (∀ c, kF c → Z c = Y c) ∧ Z 246 31 = Y 246 31
theorem keepM.f {Y Z : Nat → Nat → Int32} (m : keepM Y Z) : keepF Y Z := ⟨fun c q => m.1 c (by unfold kM; unfold kF at q; omega), m.s31⟩
theorem keepF.rfl' {Y : Nat → Nat → Int32} : keepF Y Y := ⟨fun _ _ => rfl, rfl⟩
theorem keepF.c254 {Y Z : Nat → Nat → Int32} (m : keepF Y Z) : Z 254 = Y 254 := m.1 254 (by unfold kF; omega)
theorem keepF.c255 {Y Z : Nat → Nat → Int32} (m : keepF Y Z) : Z 255 = Y 255 := m.1 255 (by unfold kF; omega)
theorem keepF.c256 {Y Z : Nat → Nat → Int32} (m : keepF Y Z) : Z 256 = Y 256 := m.1 256 (by unfold kF; omega)
theorem keepF.c257 {Y Z : Nat → Nat → Int32} (m : keepF Y Z) : Z 257 = Y 257 := m.1 257 (by unfold kF; omega)
theorem keepF.c258 {Y Z : Nat → Nat → Int32} (m : keepF Y Z) : Z 258 = Y 258 := m.1 258 (by unfold kF; omega)
theorem keepF.c259 {Y Z : Nat → Nat → Int32} (m : keepF Y Z) : Z 259 = Y 259 := m.1 259 (by unfold kF; omega)
theorem keepF.c260 {Y Z : Nat → Nat → Int32} (m : keepF Y Z) : Z 260 = Y 260 := m.1 260 (by unfold kF; omega)
theorem keepF.c261 {Y Z : Nat → Nat → Int32} (m : keepF Y Z) : Z 261 = Y 261 := m.1 261 (by unfold kF; omega)
theorem keepF.c265 {Y Z : Nat → Nat → Int32} (m : keepF Y Z) : Z 265 = Y 265 := m.1 265 (by unfold kF; omega)
theorem keepF.c266 {Y Z : Nat → Nat → Int32} (m : keepF Y Z) : Z 266 = Y 266 := m.1 266 (by unfold kF; omega)
theorem keepF.c267 {Y Z : Nat → Nat → Int32} (m : keepF Y Z) : Z 267 = Y 267 := m.1 267 (by unfold kF; omega)
theorem keepF.c271 {Y Z : Nat → Nat → Int32} (m : keepF Y Z) : Z 271 = Y 271 := m.1 271 (by unfold kF; omega)
theorem keepF.c274 {Y Z : Nat → Nat → Int32} (m : keepF Y Z) : Z 274 = Y 274 := m.1 274 (by unfold kF; omega)
theorem TW.v {Y : Nat → Nat → Int32} (w : TW Y) : Y 246 31 = nI (nv Y 246 31) := w.1.1
theorem TW.b {Y : Nat → Nat → Int32} (w : TW Y) : nv Y 246 31 ≤ 12 := w.1.2
/-- rooms of a house, and the like -/
theorem rm_le {Y : Nat → Nat → Int32} {h : Nat} (w : TW Y) (hh : h < nv Y 246 31) : nv Y 256 h * nv Y 257 h ≤ 24 := by
  have := w.2.1.1 h hh
  exact Nat.le_trans (Nat.mul_le_mul this.2.2.1.2 this.2.2.2.2.1.2) (by decide)
theorem fl_of {Y : Nat → Nat → Int32} {h r : Nat} (w : TW Y) (hh : h < nv Y 246 31) (hr : r < nv Y 256 h * nv Y 257 h) : r / nv Y 257 h < nv Y 256 h := by
  apply Nat.div_lt_of_lt_mul
  rw [Nat.mul_comm]
  exact hr
def bb (b : Bool) : Int32 := if b then nI 1 else nI 0
theorem bb_t : bb true = nI 1 := rfl
theorem bb_f : bb false = nI 0 := rfl
theorem bu_f1 {Y : Nat → Nat → Int32} {k : Nat} (h : nv Y 266 k < 300) : bu Y k = false := by unfold bu; rw [decide_eq_false (by omega)]; rfl
theorem bu_f2 {Y : Nat → Nat → Int32} {k : Nat} (h : nv Y 267 k = 0) : bu Y k = false := by unfold bu; rw [decide_eq_false (p := 1 ≤ nv Y 267 k) (by omega), Bool.and_false]
theorem bu_t {Y : Nat → Nat → Int32} {k : Nat} (h : 300 ≤ nv Y 266 k) (h2 : 1 ≤ nv Y 267 k) : bu Y k = true := by unfold bu; rw [decide_eq_true h, decide_eq_true h2]; rfl
theorem c_burns {x : ab_X} {Y : Nat → Nat → Int32} {v k : Nat} (t : TR v x.1 Y) (w : TW Y) (hk : k < 288) {K : Int32 → Prop} (q : K (bb (bu Y k))) : wX3_burns v (nI k) x K := by
  obtain ⟨e1, e2, -⟩ := t.2.2.1 k hk
  obtain ⟨w1, w2⟩ := w.2.2.1 k hk
  have u1 := w1.2
  have u2 := w2.2
  unfold wX3_burns
  by_cases q1 : nv Y 266 k < 300
  · rw [bu_f1 q1] at q
    simp (disch := first | assumption | omega) only [prv_n, nxt_n, q_sw, mc4, mc6, mc8, mc20, mc24, mc100, nv_rd, nb_rd, wr_rd, nI_lit, nI_add, pk_mul, pk_sub, q_div, cl_nI, vpi, q_eq, q_le, q_lt, n1_eq, n1_eq', n1_le, n1_lt, n1_ge, n1_gt, i_0m1, nlt_t, nlt_f, nle_t, nle_f, neq_f, f_below, f_within, f_isCorner, f_isIn, f_isCornerM, f_isStreet, f_isHouse, f_isCrew, f_isRow, f_has10, f_has0, jx_I, jx_N, jx_m1, jr_I, jr_N1, jr_N2, wr_2, isB_0, isB_1, true_and, and_true, and_self, false_and, and_false, true_or, or_true, false_or, or_false, not_true_eq_false, not_false_eq_true, forall_const, implies_true, false_implies, ne_eq, eq_self, if_true, if_false, Nat.zero_add, Nat.add_zero, Nat.mul_zero, Nat.zero_mul, Nat.mul_one, Nat.one_mul, Nat.add_sub_cancel, Nat.reduceEqDiff, Nat.reduceAdd, Nat.reduceMul, Nat.reduceSub, Nat.reduceLeDiff, Nat.reduceLT, Nat.reduceDiv, Nat.reduceMod, e1, e2, w1.1, w2.1]
    exact q
  · by_cases q2 : nv Y 267 k = 0
    · rw [bu_f2 q2] at q
      simp (disch := first | assumption | omega) only [prv_n, nxt_n, q_sw, mc4, mc6, mc8, mc20, mc24, mc100, nv_rd, nb_rd, wr_rd, nI_lit, nI_add, pk_mul, pk_sub, q_div, cl_nI, vpi, q_eq, q_le, q_lt, n1_eq, n1_eq', n1_le, n1_lt, n1_ge, n1_gt, i_0m1, nlt_t, nlt_f, nle_t, nle_f, neq_f, f_below, f_within, f_isCorner, f_isIn, f_isCornerM, f_isStreet, f_isHouse, f_isCrew, f_isRow, f_has10, f_has0, jx_I, jx_N, jx_m1, jr_I, jr_N1, jr_N2, wr_2, isB_0, isB_1, true_and, and_true, and_self, false_and, and_false, true_or, or_true, false_or, or_false, not_true_eq_false, not_false_eq_true, forall_const, implies_true, false_implies, ne_eq, eq_self, if_true, if_false, Nat.zero_add, Nat.add_zero, Nat.mul_zero, Nat.zero_mul, Nat.mul_one, Nat.one_mul, Nat.add_sub_cancel, Nat.reduceEqDiff, Nat.reduceAdd, Nat.reduceMul, Nat.reduceSub, Nat.reduceLeDiff, Nat.reduceLT, Nat.reduceDiv, Nat.reduceMod, e1, e2, w1.1, w2.1]
      exact q
    · rw [bu_t (by omega) (by omega)] at q
      simp (disch := first | assumption | omega) only [prv_n, nxt_n, q_sw, mc4, mc6, mc8, mc20, mc24, mc100, nv_rd, nb_rd, wr_rd, nI_lit, nI_add, pk_mul, pk_sub, q_div, cl_nI, vpi, q_eq, q_le, q_lt, n1_eq, n1_eq', n1_le, n1_lt, n1_ge, n1_gt, i_0m1, nlt_t, nlt_f, nle_t, nle_f, neq_f, f_below, f_within, f_isCorner, f_isIn, f_isCornerM, f_isStreet, f_isHouse, f_isCrew, f_isRow, f_has10, f_has0, jx_I, jx_N, jx_m1, jr_I, jr_N1, jr_N2, wr_2, isB_0, isB_1, true_and, and_true, and_self, false_and, and_false, true_or, or_true, false_or, or_false, not_true_eq_false, not_false_eq_true, forall_const, implies_true, false_implies, ne_eq, eq_self, if_true, if_false, Nat.zero_add, Nat.add_zero, Nat.mul_zero, Nat.zero_mul, Nat.mul_one, Nat.one_mul, Nat.add_sub_cancel, Nat.reduceEqDiff, Nat.reduceAdd, Nat.reduceMul, Nat.reduceSub, Nat.reduceLeDiff, Nat.reduceLT, Nat.reduceDiv, Nat.reduceMod, e1, e2, w1.1, w2.1]
      exact q
theorem m_floorOf {x : ab_X} {Y : Nat → Nat → Int32} {h r : Nat} (m : keepF Y x.1) (w : TW Y) (hh : h < nv Y 246 31) (hr : r < 1000) {K : Int32 → Prop} (q : K (nI (r / nv Y 257 h))) : wX12_floorOf (nI h) (nI r) x K := by
  have b := w.b
  obtain ⟨-, -, -, -, w5, w6, -⟩ := w.2.1.1 h hh
  have u5 := w5.2
  unfold wX12_floorOf
  simp (disch := first | assumption | omega) only [prv_n, nxt_n, q_sw, mc4, mc6, mc8, mc20, mc24, mc100, nv_rd, nb_rd, wr_rd, nI_lit, nI_add, pk_mul, pk_sub, q_div, cl_nI, vpi, q_eq, q_le, q_lt, n1_eq, n1_eq', n1_le, n1_lt, n1_ge, n1_gt, i_0m1, nlt_t, nlt_f, nle_t, nle_f, neq_f, f_below, f_within, f_isCorner, f_isIn, f_isCornerM, f_isStreet, f_isHouse, f_isCrew, f_isRow, f_has10, f_has0, jx_I, jx_N, jx_m1, jr_I, jr_N1, jr_N2, wr_2, isB_0, isB_1, true_and, and_true, and_self, false_and, and_false, true_or, or_true, false_or, or_false, not_true_eq_false, not_false_eq_true, forall_const, implies_true, false_implies, ne_eq, eq_self, if_true, if_false, Nat.zero_add, Nat.add_zero, Nat.mul_zero, Nat.zero_mul, Nat.mul_one, Nat.one_mul, Nat.add_sub_cancel, Nat.reduceEqDiff, Nat.reduceAdd, Nat.reduceMul, Nat.reduceSub, Nat.reduceLeDiff, Nat.reduceLT, Nat.reduceDiv, Nat.reduceMod, m.c257, w5.1]
  exact q
theorem m_burns {x : ab_X} {Y : Nat → Nat → Int32} {h r : Nat} (m : keepF Y x.1) (w : TW Y) (hh : h < nv Y 246 31) (hr : r < nv Y 256 h * nv Y 257 h) {K : Int32 → Prop} (q : K (bb (bu Y (24 * h + r)))) : wX12_burns (nI h) (nI r) x K := by
  have b := w.b
  have rm := rm_le w hh
  obtain ⟨w1, w2⟩ := w.2.2.1 (24 * h + r) (by omega)
  have u1 := w1.2
  have u2 := w2.2
  have w3 := w.2.1.1 h hh
  unfold wX12_burns
  by_cases q1 : nv Y 266 (24 * h + r) < 300
  · rw [bu_f1 q1] at q
    simp (disch := first | assumption | omega) only [prv_n, nxt_n, q_sw, mc4, mc6, mc8, mc20, mc24, mc100, nv_rd, nb_rd, wr_rd, nI_lit, nI_add, pk_mul, pk_sub, q_div, cl_nI, vpi, q_eq, q_le, q_lt, n1_eq, n1_eq', n1_le, n1_lt, n1_ge, n1_gt, i_0m1, nlt_t, nlt_f, nle_t, nle_f, neq_f, f_below, f_within, f_isCorner, f_isIn, f_isCornerM, f_isStreet, f_isHouse, f_isCrew, f_isRow, f_has10, f_has0, jx_I, jx_N, jx_m1, jr_I, jr_N1, jr_N2, wr_2, isB_0, isB_1, true_and, and_true, and_self, false_and, and_false, true_or, or_true, false_or, or_false, not_true_eq_false, not_false_eq_true, forall_const, implies_true, false_implies, ne_eq, eq_self, if_true, if_false, Nat.zero_add, Nat.add_zero, Nat.mul_zero, Nat.zero_mul, Nat.mul_one, Nat.one_mul, Nat.add_sub_cancel, Nat.reduceEqDiff, Nat.reduceAdd, Nat.reduceMul, Nat.reduceSub, Nat.reduceLeDiff, Nat.reduceLT, Nat.reduceDiv, Nat.reduceMod, m.c266, m.c267, w1.1, w2.1]
    exact q
  · by_cases q2 : nv Y 267 (24 * h + r) = 0
    · rw [bu_f2 q2] at q
      simp (disch := first | assumption | omega) only [prv_n, nxt_n, q_sw, mc4, mc6, mc8, mc20, mc24, mc100, nv_rd, nb_rd, wr_rd, nI_lit, nI_add, pk_mul, pk_sub, q_div, cl_nI, vpi, q_eq, q_le, q_lt, n1_eq, n1_eq', n1_le, n1_lt, n1_ge, n1_gt, i_0m1, nlt_t, nlt_f, nle_t, nle_f, neq_f, f_below, f_within, f_isCorner, f_isIn, f_isCornerM, f_isStreet, f_isHouse, f_isCrew, f_isRow, f_has10, f_has0, jx_I, jx_N, jx_m1, jr_I, jr_N1, jr_N2, wr_2, isB_0, isB_1, true_and, and_true, and_self, false_and, and_false, true_or, or_true, false_or, or_false, not_true_eq_false, not_false_eq_true, forall_const, implies_true, false_implies, ne_eq, eq_self, if_true, if_false, Nat.zero_add, Nat.add_zero, Nat.mul_zero, Nat.zero_mul, Nat.mul_one, Nat.one_mul, Nat.add_sub_cancel, Nat.reduceEqDiff, Nat.reduceAdd, Nat.reduceMul, Nat.reduceSub, Nat.reduceLeDiff, Nat.reduceLT, Nat.reduceDiv, Nat.reduceMod, m.c266, m.c267, w1.1, w2.1]
      exact q
    · rw [bu_t (by omega) (by omega)] at q
      simp (disch := first | assumption | omega) only [prv_n, nxt_n, q_sw, mc4, mc6, mc8, mc20, mc24, mc100, nv_rd, nb_rd, wr_rd, nI_lit, nI_add, pk_mul, pk_sub, q_div, cl_nI, vpi, q_eq, q_le, q_lt, n1_eq, n1_eq', n1_le, n1_lt, n1_ge, n1_gt, i_0m1, nlt_t, nlt_f, nle_t, nle_f, neq_f, f_below, f_within, f_isCorner, f_isIn, f_isCornerM, f_isStreet, f_isHouse, f_isCrew, f_isRow, f_has10, f_has0, jx_I, jx_N, jx_m1, jr_I, jr_N1, jr_N2, wr_2, isB_0, isB_1, true_and, and_true, and_self, false_and, and_false, true_or, or_true, false_or, or_false, not_true_eq_false, not_false_eq_true, forall_const, implies_true, false_implies, ne_eq, eq_self, if_true, if_false, Nat.zero_add, Nat.add_zero, Nat.mul_zero, Nat.zero_mul, Nat.mul_one, Nat.one_mul, Nat.add_sub_cancel, Nat.reduceEqDiff, Nat.reduceAdd, Nat.reduceMul, Nat.reduceSub, Nat.reduceLeDiff, Nat.reduceLT, Nat.reduceDiv, Nat.reduceMod, m.c266, m.c267, w1.1, w2.1]
      refine m_floorOf m w hh (by omega) ?_
      have fl := fl_of w hh hr
      have f6 := w3.2.2.1.2
      have z : Y 274 (6 * h + r / nv Y 257 h) = nI 0 := by
        apply Classical.byContradiction
        intro ne
        have p1 : 0 < nv Y 257 h := w3.2.2.2.2.2.1
        have := w.2.2.2.2.2 h (r / nv Y 257 h) (r % nv Y 257 h) hh fl (Nat.mod_lt _ p1) ne
        rw [Nat.mul_comm (r / nv Y 257 h), Nat.div_add_mod, w1.1, q_eq (by omega) (by omega)] at this
        omega
      simp (disch := first | assumption | omega) only [prv_n, nxt_n, q_sw, mc4, mc6, mc8, mc20, mc24, mc100, nv_rd, nb_rd, wr_rd, nI_lit, nI_add, pk_mul, pk_sub, q_div, cl_nI, vpi, q_eq, q_le, q_lt, n1_eq, n1_eq', n1_le, n1_lt, n1_ge, n1_gt, i_0m1, nlt_t, nlt_f, nle_t, nle_f, neq_f, f_below, f_within, f_isCorner, f_isIn, f_isCornerM, f_isStreet, f_isHouse, f_isCrew, f_isRow, f_has10, f_has0, jx_I, jx_N, jx_m1, jr_I, jr_N1, jr_N2, wr_2, isB_0, isB_1, true_and, and_true, and_self, false_and, and_false, true_or, or_true, false_or, or_false, not_true_eq_false, not_false_eq_true, forall_const, implies_true, false_implies, ne_eq, eq_self, if_true, if_false, Nat.zero_add, Nat.add_zero, Nat.mul_zero, Nat.zero_mul, Nat.mul_one, Nat.one_mul, Nat.add_sub_cancel, Nat.reduceEqDiff, Nat.reduceAdd, Nat.reduceMul, Nat.reduceSub, Nat.reduceLeDiff, Nat.reduceLT, Nat.reduceDiv, Nat.reduceMod, m.c274, z]
      exact q
