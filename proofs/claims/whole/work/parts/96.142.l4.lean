/-! judge, loss -/
def addD (a b : FP.Core.Datum) : FP.Core.Datum := dD (UInt64.ofNat (FP.Core.encode FP.Core.b64 (FP.Core.round FP.Core.b64 (FP.Core.exactSum a b))))
def mulD (a b : FP.Core.Datum) : FP.Core.Datum := dD (UInt64.ofNat (FP.Core.encode FP.Core.b64 (FP.Core.round FP.Core.b64 (FP.Core.exactProduct a b))))
def vA (kind v : Int32) : FP.Core.Datum := if kind = nI 3 then (if v = -nI 1000000 then dD 4652007308841189376 else dD (FP.f2d (FP.fdiv (FP.i2f v) 1090519040))) else dD (FP.i2d v)
def jS (V : Nat → FP.Core.Datum) (P : Nat → Nat) : Nat → FP.Core.Datum
  | 0 => dD 0
  | i + 1 => addD (jS V P i) (mulD (V i) (dD (FP.i2d (nI (P i)))))
theorem f2d_alk {r : UInt32} {v : Int32} (h : alike32 r (FP.fdiv (FP.i2f v) 1090519040) = true) : FP.f2d r = FP.f2d (FP.fdiv (FP.i2f v) 1090519040) := by
  have e := alkF h
  have n := div8_n v
  have n' : dF r ≠ .nan := by rw [e]; exact n
  rw [(f2d_n n).1, (f2d_n n').1, e]
/-- the value that the reference takes -/
theorem m_val {kind v : Int32} {d : UInt64} (h : rw_ok kind v d) {x : ab_X} {K : UInt64 → Prop} (k : ∀ u, dD u = vA kind v → K u) : wJxe99ae_isNaN_b9ae7 d x (fun r => ((r = 0 → K d) ∧ (¬ r = 0 → K 4652007308841189376))) := by
  apply is_nan
  have dn : dD 9221120237041090560 = .nan := nanD (by decide)
  unfold vA at k
  by_cases q : kind = nI 3
  · rw [if_pos q] at k
    by_cases q2 : v = -nI 1000000
    · rw [if_pos q2] at k
      have e := (h.1 q).1 q2
      rw [e, if_pos dn]
      exact ⟨fun u => absurd u (by decide), fun _ => k _ rfl⟩
    · rw [if_neg q2] at k
      obtain ⟨r, r1, r2⟩ := (h.1 q).2 q2
      have e : dD d = dD (FP.f2d (FP.fdiv (FP.i2f v) 1090519040)) := by rw [alkD r2, f2d_alk r1]
      have nn : dD d ≠ .nan := by rw [e]; exact (f2d_n (div8_n v)).2
      rw [if_neg nn]
      exact ⟨fun _ => k _ e, fun u => absurd rfl u⟩
  · rw [if_neg q] at k
    have e := h.2 q
    have nn : dD d ≠ .nan := by rw [e]; exact i2d_n v
    rw [if_neg nn]
    exact ⟨fun _ => k _ (by rw [e]), fun u => absurd rfl u⟩
def pS (Y : Nat → Nat → Int32) (X : Nat → Nat → Int32) (l j : Nat) (s : Int32) : FP.Core.Datum := jS (fun c => vA (Y 331 j) (X 245 (20 * j + c))) (fun c => pts Y l c s) 20
theorem c_jud {x : ab_X} {Y : Nat → Nat → Int32} {D : Nat → UInt64} (r : RR x.1 Y D) (w : WW Y) {l j : Nat} {s : Int32} (hl : l ≤ 100) (hj : j < nv Y 246 116) {K : UInt64 → ab_X → Prop} (k : ∀ (v : UInt64) (y : ab_X), dD v = pS Y x.1 l j s → (∀ c, c ≠ 241 → y.1 c = x.1 c) → y.2 = x.2 → K v y) : wX11_judgement (nI j) s (nI l) x K := by
  have b := w.b116
  unfold wX11_judgement
  refine c_nearT r w hl (fun y y1 y2 y3 => ?_)
  refine Lp2.ind (fun ii (a : UInt64) (i : Int32) => ∃ c, c ≤ 20 ∧ ii = 20 - c ∧ i = nI c ∧ dD a = jS (fun c => vA (Y 331 j) (x.1 245 (20 * j + c))) (fun c => pts Y l c s) c) 20 ⟨0, by omega, rfl, rfl, rfl⟩ ?_
  rintro ii a i ⟨c, hc, hii, rfl, ha⟩ L hL
  unfold lX11_judgement_14
  by_cases e : c = 20
  · subst e
    simp (disch := first | assumption | omega) only [prv_n, nxt_n, q_sw, mc4, mc6, mc8, mc20, mc24, mc100, nv_rd, nb_rd, wr_rd, nI_lit, nI_add, pk_mul, pk_sub, q_div, cl_nI, vpi, q_eq, q_le, q_lt, n1_eq, n1_eq', n1_le, n1_lt, n1_ge, n1_gt, i_0m1, nlt_t, nlt_f, nle_t, nle_f, neq_f, f_below, f_within, f_isCorner, f_isIn, f_isCornerM, f_isStreet, f_isHouse, f_isCrew, f_isRow, f_has10, f_has0, jx_I, jx_N, jx_m1, jr_I, jr_N1, jr_N2, wr_2, isB_0, isB_1, true_and, and_true, and_self, false_and, and_false, true_or, or_true, false_or, or_false, not_true_eq_false, not_false_eq_true, forall_const, implies_true, false_implies, ne_eq, eq_self, if_true, if_false, Nat.zero_add, Nat.add_zero, Nat.mul_zero, Nat.zero_mul, Nat.mul_one, Nat.one_mul, Nat.add_sub_cancel, Nat.reduceEqDiff, Nat.reduceAdd, Nat.reduceMul, Nat.reduceSub, Nat.reduceLeDiff, Nat.reduceLT, Nat.reduceDiv, Nat.reduceMod]
    exact k a y ha y1 y3
  have hc2 : c < 20 := by omega
  refine ⟨fun q => absurd q (by simp only [nI_lit]; rw [q_le (by omega) (by omega)]; omega), fun _ => ?_⟩
  have next : ∀ u : UInt64, dD u = vA (Y 331 j) (x.1 245 (20 * j + c)) → wX7_pointsAt (nI c) s y (fun r3 => (∀ r4, alike64 r4 (FP.dmul u (FP.i2d r3)) = true → (∀ r5, alike64 r5 (FP.dadd a r4) = true → L r5 (nI (c + 1))))) := by
    intro u hu
    refine c_pts y2 hc2 (fun r4 h4 r5 h5 => ?_)
    refine hL _ _ _ (by omega) ⟨c + 1, by omega, rfl, rfl, ?_⟩
    rw [alkD h5]
    show addD (dD a) (dD r4) = addD (jS (fun c => vA (Y 331 j) (x.1 245 (20 * j + c))) (fun c => pts Y l c s) c) (mulD (vA (Y 331 j) (x.1 245 (20 * j + c))) (dD (FP.i2d (nI (pts Y l c s)))))
    rw [ha, alkD h4]
    show addD _ (mulD (dD u) _) = _
    rw [hu]; rfl
  unfold wX11_valueAt
  have e43 : y.1 243 j = Y 331 j := by rw [y1 243 (by decide)]; exact (r.ro.1 j hj).1
  have e45 : y.1 245 (20 * j + c) = x.1 245 (20 * j + c) := by rw [y1 245 (by decide)]
  unfold vA at next
  by_cases q : Y 331 j = nI 3
  · rw [if_pos q] at next
    by_cases q2 : x.1 245 (20 * j + c) = -nI 1000000
    · rw [if_pos q2] at next
      simp (disch := first | assumption | omega) only [prv_n, nxt_n, q_sw, mc4, mc6, mc8, mc20, mc24, mc100, nv_rd, nb_rd, wr_rd, nI_lit, nI_add, pk_mul, pk_sub, q_div, cl_nI, vpi, q_eq, q_le, q_lt, n1_eq, n1_eq', n1_le, n1_lt, n1_ge, n1_gt, i_0m1, nlt_t, nlt_f, nle_t, nle_f, neq_f, f_below, f_within, f_isCorner, f_isIn, f_isCornerM, f_isStreet, f_isHouse, f_isCrew, f_isRow, f_has10, f_has0, jx_I, jx_N, jx_m1, jr_I, jr_N1, jr_N2, wr_2, isB_0, isB_1, true_and, and_true, and_self, false_and, and_false, true_or, or_true, false_or, or_false, not_true_eq_false, not_false_eq_true, forall_const, implies_true, false_implies, ne_eq, eq_self, if_true, if_false, Nat.zero_add, Nat.add_zero, Nat.mul_zero, Nat.zero_mul, Nat.mul_one, Nat.one_mul, Nat.add_sub_cancel, Nat.reduceEqDiff, Nat.reduceAdd, Nat.reduceMul, Nat.reduceSub, Nat.reduceLeDiff, Nat.reduceLT, Nat.reduceDiv, Nat.reduceMod, e43, e45, q, q2]
      exact next _ rfl
    · rw [if_neg q2] at next
      simp (disch := first | assumption | omega) only [prv_n, nxt_n, q_sw, mc4, mc6, mc8, mc20, mc24, mc100, nv_rd, nb_rd, wr_rd, nI_lit, nI_add, pk_mul, pk_sub, q_div, cl_nI, vpi, q_eq, q_le, q_lt, n1_eq, n1_eq', n1_le, n1_lt, n1_ge, n1_gt, i_0m1, nlt_t, nlt_f, nle_t, nle_f, neq_f, f_below, f_within, f_isCorner, f_isIn, f_isCornerM, f_isStreet, f_isHouse, f_isCrew, f_isRow, f_has10, f_has0, jx_I, jx_N, jx_m1, jr_I, jr_N1, jr_N2, wr_2, isB_0, isB_1, true_and, and_true, and_self, false_and, and_false, true_or, or_true, false_or, or_false, not_true_eq_false, not_false_eq_true, forall_const, implies_true, false_implies, ne_eq, eq_self, if_true, if_false, Nat.zero_add, Nat.add_zero, Nat.mul_zero, Nat.zero_mul, Nat.mul_one, Nat.one_mul, Nat.add_sub_cancel, Nat.reduceEqDiff, Nat.reduceAdd, Nat.reduceMul, Nat.reduceSub, Nat.reduceLeDiff, Nat.reduceLT, Nat.reduceDiv, Nat.reduceMod, e43, e45, q, q2]
      intro r3 h3 r4 h4
      refine next _ ?_
      rw [alkD h4, f2d_alk h3]
  · rw [if_neg q] at next
    simp (disch := first | assumption | omega) only [prv_n, nxt_n, q_sw, mc4, mc6, mc8, mc20, mc24, mc100, nv_rd, nb_rd, wr_rd, nI_lit, nI_add, pk_mul, pk_sub, q_div, cl_nI, vpi, q_eq, q_le, q_lt, n1_eq, n1_eq', n1_le, n1_lt, n1_ge, n1_gt, i_0m1, nlt_t, nlt_f, nle_t, nle_f, neq_f, f_below, f_within, f_isCorner, f_isIn, f_isCornerM, f_isStreet, f_isHouse, f_isCrew, f_isRow, f_has10, f_has0, jx_I, jx_N, jx_m1, jr_I, jr_N1, jr_N2, wr_2, isB_0, isB_1, true_and, and_true, and_self, false_and, and_false, true_or, or_true, false_or, or_false, not_true_eq_false, not_false_eq_true, forall_const, implies_true, false_implies, ne_eq, eq_self, if_true, if_false, Nat.zero_add, Nat.add_zero, Nat.mul_zero, Nat.zero_mul, Nat.mul_one, Nat.one_mul, Nat.add_sub_cancel, Nat.reduceEqDiff, Nat.reduceAdd, Nat.reduceMul, Nat.reduceSub, Nat.reduceLeDiff, Nat.reduceLT, Nat.reduceDiv, Nat.reduceMod, e43, e45, q]
    exact next _ rfl
theorem m_jud {x : ab_X} {X Y : Nat → Nat → Int32} (m : keepM Y x.1) (w : WW Y) (r : RR X Y (x.2.1 329)) {l j : Nat} {s : Int32} (hl : l ≤ 100) (hj : j < nv Y 246 116) {K : UInt64 → Prop} (k : ∀ v : UInt64, dD v = pS Y X l j s → K v) : wX12_judged (nI j) s (nI l) x K := by
  have b := w.b116
  unfold wX12_judged
  refine Lp2.ind (fun ii (a : UInt64) (i : Int32) => ∃ c, c ≤ 20 ∧ ii = 20 - c ∧ i = nI c ∧ dD a = jS (fun c => vA (Y 331 j) (X 245 (20 * j + c))) (fun c => pts Y l c s) c) 20 ⟨0, by omega, rfl, rfl, rfl⟩ ?_
  rintro ii a i ⟨c, hc, hii, rfl, ha⟩ L hL
  unfold lX12_judged_6
  by_cases e : c = 20
  · subst e
    simp (disch := first | assumption | omega) only [prv_n, nxt_n, q_sw, mc4, mc6, mc8, mc20, mc24, mc100, nv_rd, nb_rd, wr_rd, nI_lit, nI_add, pk_mul, pk_sub, q_div, cl_nI, vpi, q_eq, q_le, q_lt, n1_eq, n1_eq', n1_le, n1_lt, n1_ge, n1_gt, i_0m1, nlt_t, nlt_f, nle_t, nle_f, neq_f, f_below, f_within, f_isCorner, f_isIn, f_isCornerM, f_isStreet, f_isHouse, f_isCrew, f_isRow, f_has10, f_has0, jx_I, jx_N, jx_m1, jr_I, jr_N1, jr_N2, wr_2, isB_0, isB_1, true_and, and_true, and_self, false_and, and_false, true_or, or_true, false_or, or_false, not_true_eq_false, not_false_eq_true, forall_const, implies_true, false_implies, ne_eq, eq_self, if_true, if_false, Nat.zero_add, Nat.add_zero, Nat.mul_zero, Nat.zero_mul, Nat.mul_one, Nat.one_mul, Nat.add_sub_cancel, Nat.reduceEqDiff, Nat.reduceAdd, Nat.reduceMul, Nat.reduceSub, Nat.reduceLeDiff, Nat.reduceLT, Nat.reduceDiv, Nat.reduceMod]
    exact k a ha
  have hc2 : c < 20 := by omega
  refine ⟨fun q => absurd q (by simp only [nI_lit]; rw [q_le (by omega) (by omega)]; omega), fun _ => ?_⟩
  simp only [nI_lit, pk_mul, nI_add]
  rw [vpi (by omega) (by omega), cl_nI (by omega)]
  refine ⟨trivial, ?_⟩
  refine m_val (K := fun u => wX12_judged_40 (nI j) s (nI l) a (nI c) u x K L) ((r.ro.1 j hj).2.2 c hc2) (fun u hu => ?_)
  unfold wX12_judged_40
  refine m_pts m w hl hc2 (fun r4 h4 r5 h5 => ?_)
  have e5 : nI c + 1 = nI (c + 1) := nI_add c 1
  rw [e5]
  refine hL _ _ _ (by omega) ⟨c + 1, by omega, rfl, rfl, ?_⟩
  rw [alkD h5]
  show addD (dD a) (dD r4) = addD (jS (fun c => vA (Y 331 j) (X 245 (20 * j + c))) (fun c => pts Y l c s) c) (mulD (vA (Y 331 j) (X 245 (20 * j + c))) (dD (FP.i2d (nI (pts Y l c s)))))
  rw [ha, alkD h4]
  show addD _ (mulD (dD u) _) = _
  rw [hu]; rfl
/-- may one judge: both alike -/
theorem jud_d {x : ab_X} (h : InvA x) (a b c : Int32) : (∀ (P : Int32 → Prop) (Q : Int32 → ab_X → Prop), (P (nI 0) → wX11_canJudge a b c x P) ∧ (∀ y : ab_X, keepM x.1 y.1 → Q (nI 0) (wr y 246 0 (nI 0)) → wX12_canJudge a b c y Q)) ∨ (∃ j l, j < nv x.1 246 116 ∧ l ≤ 100 ∧ a = nI j ∧ c = nI l ∧ ∀ (P : Int32 → Prop) (Q : Int32 → ab_X → Prop), (P (nI 1) → wX11_canJudge a b c x P) ∧ (∀ y : ab_X, keepM x.1 y.1 → Q (nI 1) (wr y 246 0 (nI 0)) → wX12_canJudge a b c y Q)) := by
  have bn := h.2.b116
  have f16 : ∀ y : ab_X, keepM x.1 y.1 → y.1 246 116 = nI (nv x.1 246 116) := fun y m => by rw [m.2 116 (by simp [kS]), h.2.v116]
  have f32 : ∀ y : ab_X, keepM x.1 y.1 → y.1 332 = x.1 332 := fun y m => m.1 332 (by unfold kM; omega)
  rcases jx_d a (n := nv x.1 246 116) (by omega) with e | ⟨j, hj, rfl⟩
  · left
    intro P Q
    refine ⟨fun p => ?_, fun y m q => ?_⟩
    · unfold wX11_canJudge wX11_hasRow
      simp (disch := first | assumption | omega) only [prv_n, nxt_n, q_sw, mc4, mc6, mc8, mc20, mc24, mc100, nv_rd, nb_rd, wr_rd, nI_lit, nI_add, pk_mul, pk_sub, q_div, cl_nI, vpi, q_eq, q_le, q_lt, n1_eq, n1_eq', n1_le, n1_lt, n1_ge, n1_gt, i_0m1, nlt_t, nlt_f, nle_t, nle_f, neq_f, f_below, f_within, f_isCorner, f_isIn, f_isCornerM, f_isStreet, f_isHouse, f_isCrew, f_isRow, f_has10, f_has0, jx_I, jx_N, jx_m1, jr_I, jr_N1, jr_N2, wr_2, isB_0, isB_1, true_and, and_true, and_self, false_and, and_false, true_or, or_true, false_or, or_false, not_true_eq_false, not_false_eq_true, forall_const, implies_true, false_implies, ne_eq, eq_self, if_true, if_false, Nat.zero_add, Nat.add_zero, Nat.mul_zero, Nat.zero_mul, Nat.mul_one, Nat.one_mul, Nat.add_sub_cancel, Nat.reduceEqDiff, Nat.reduceAdd, Nat.reduceMul, Nat.reduceSub, Nat.reduceLeDiff, Nat.reduceLT, Nat.reduceDiv, Nat.reduceMod, h.1.s116, h.2.v116, e]
      exact p
    · unfold wX12_canJudge
      simp (disch := first | assumption | omega) only [prv_n, nxt_n, q_sw, mc4, mc6, mc8, mc20, mc24, mc100, nv_rd, nb_rd, wr_rd, nI_lit, nI_add, pk_mul, pk_sub, q_div, cl_nI, vpi, q_eq, q_le, q_lt, n1_eq, n1_eq', n1_le, n1_lt, n1_ge, n1_gt, i_0m1, nlt_t, nlt_f, nle_t, nle_f, neq_f, f_below, f_within, f_isCorner, f_isIn, f_isCornerM, f_isStreet, f_isHouse, f_isCrew, f_isRow, f_has10, f_has0, jx_I, jx_N, jx_m1, jr_I, jr_N1, jr_N2, wr_2, isB_0, isB_1, true_and, and_true, and_self, false_and, and_false, true_or, or_true, false_or, or_false, not_true_eq_false, not_false_eq_true, forall_const, implies_true, false_implies, ne_eq, eq_self, if_true, if_false, Nat.zero_add, Nat.add_zero, Nat.mul_zero, Nat.zero_mul, Nat.mul_one, Nat.one_mul, Nat.add_sub_cancel, Nat.reduceEqDiff, Nat.reduceAdd, Nat.reduceMul, Nat.reduceSub, Nat.reduceLeDiff, Nat.reduceLT, Nat.reduceDiv, Nat.reduceMod, f16 y m, e]
      exact q
  have s2 := h.1.ro.2.1 j (by omega)
  by_cases q0 : x.1 332 j = nI 0
  case neg =>
    left
    intro P Q
    refine ⟨fun p => ?_, fun y m q => ?_⟩
    · unfold wX11_canJudge wX11_hasRow
      simp (disch := first | assumption | omega) only [prv_n, nxt_n, q_sw, mc4, mc6, mc8, mc20, mc24, mc100, nv_rd, nb_rd, wr_rd, nI_lit, nI_add, pk_mul, pk_sub, q_div, cl_nI, vpi, q_eq, q_le, q_lt, n1_eq, n1_eq', n1_le, n1_lt, n1_ge, n1_gt, i_0m1, nlt_t, nlt_f, nle_t, nle_f, neq_f, f_below, f_within, f_isCorner, f_isIn, f_isCornerM, f_isStreet, f_isHouse, f_isCrew, f_isRow, f_has10, f_has0, jx_I, jx_N, jx_m1, jr_I, jr_N1, jr_N2, wr_2, isB_0, isB_1, true_and, and_true, and_self, false_and, and_false, true_or, or_true, false_or, or_false, not_true_eq_false, not_false_eq_true, forall_const, implies_true, false_implies, ne_eq, eq_self, if_true, if_false, Nat.zero_add, Nat.add_zero, Nat.mul_zero, Nat.zero_mul, Nat.mul_one, Nat.one_mul, Nat.add_sub_cancel, Nat.reduceEqDiff, Nat.reduceAdd, Nat.reduceMul, Nat.reduceSub, Nat.reduceLeDiff, Nat.reduceLT, Nat.reduceDiv, Nat.reduceMod, h.1.s116, h.2.v116, s2.1, q0]
      exact p
    · unfold wX12_canJudge
      simp (disch := first | assumption | omega) only [prv_n, nxt_n, q_sw, mc4, mc6, mc8, mc20, mc24, mc100, nv_rd, nb_rd, wr_rd, nI_lit, nI_add, pk_mul, pk_sub, q_div, cl_nI, vpi, q_eq, q_le, q_lt, n1_eq, n1_eq', n1_le, n1_lt, n1_ge, n1_gt, i_0m1, nlt_t, nlt_f, nle_t, nle_f, neq_f, f_below, f_within, f_isCorner, f_isIn, f_isCornerM, f_isStreet, f_isHouse, f_isCrew, f_isRow, f_has10, f_has0, jx_I, jx_N, jx_m1, jr_I, jr_N1, jr_N2, wr_2, isB_0, isB_1, true_and, and_true, and_self, false_and, and_false, true_or, or_true, false_or, or_false, not_true_eq_false, not_false_eq_true, forall_const, implies_true, false_implies, ne_eq, eq_self, if_true, if_false, Nat.zero_add, Nat.add_zero, Nat.mul_zero, Nat.zero_mul, Nat.mul_one, Nat.one_mul, Nat.add_sub_cancel, Nat.reduceEqDiff, Nat.reduceAdd, Nat.reduceMul, Nat.reduceSub, Nat.reduceLeDiff, Nat.reduceLT, Nat.reduceDiv, Nat.reduceMod, f16 y m, f32 y m, q0]
      exact q
  have jj := jr_jx b (n := 1048576) (by decide) (by decide)
  simp only [Nat.reduceSub] at jj
  rcases jx_d b (n := 1048576) (by decide) with e | ⟨u, hu, rfl⟩
  · left
    intro P Q
    refine ⟨fun p => ?_, fun y m q => ?_⟩
    · unfold wX11_canJudge wX11_hasRow
      simp (disch := first | assumption | omega) only [prv_n, nxt_n, q_sw, mc4, mc6, mc8, mc20, mc24, mc100, nv_rd, nb_rd, wr_rd, nI_lit, nI_add, pk_mul, pk_sub, q_div, cl_nI, vpi, q_eq, q_le, q_lt, n1_eq, n1_eq', n1_le, n1_lt, n1_ge, n1_gt, i_0m1, nlt_t, nlt_f, nle_t, nle_f, neq_f, f_below, f_within, f_isCorner, f_isIn, f_isCornerM, f_isStreet, f_isHouse, f_isCrew, f_isRow, f_has10, f_has0, jx_I, jx_N, jx_m1, jr_I, jr_N1, jr_N2, wr_2, isB_0, isB_1, true_and, and_true, and_self, false_and, and_false, true_or, or_true, false_or, or_false, not_true_eq_false, not_false_eq_true, forall_const, implies_true, false_implies, ne_eq, eq_self, if_true, if_false, Nat.zero_add, Nat.add_zero, Nat.mul_zero, Nat.zero_mul, Nat.mul_one, Nat.one_mul, Nat.add_sub_cancel, Nat.reduceEqDiff, Nat.reduceAdd, Nat.reduceMul, Nat.reduceSub, Nat.reduceLeDiff, Nat.reduceLT, Nat.reduceDiv, Nat.reduceMod, h.1.s116, h.2.v116, s2.1, q0, e]
      exact p
    · unfold wX12_canJudge
      simp (disch := first | assumption | omega) only [prv_n, nxt_n, q_sw, mc4, mc6, mc8, mc20, mc24, mc100, nv_rd, nb_rd, wr_rd, nI_lit, nI_add, pk_mul, pk_sub, q_div, cl_nI, vpi, q_eq, q_le, q_lt, n1_eq, n1_eq', n1_le, n1_lt, n1_ge, n1_gt, i_0m1, nlt_t, nlt_f, nle_t, nle_f, neq_f, f_below, f_within, f_isCorner, f_isIn, f_isCornerM, f_isStreet, f_isHouse, f_isCrew, f_isRow, f_has10, f_has0, jx_I, jx_N, jx_m1, jr_I, jr_N1, jr_N2, wr_2, isB_0, isB_1, true_and, and_true, and_self, false_and, and_false, true_or, or_true, false_or, or_false, not_true_eq_false, not_false_eq_true, forall_const, implies_true, false_implies, ne_eq, eq_self, if_true, if_false, Nat.zero_add, Nat.add_zero, Nat.mul_zero, Nat.zero_mul, Nat.mul_one, Nat.one_mul, Nat.add_sub_cancel, Nat.reduceEqDiff, Nat.reduceAdd, Nat.reduceMul, Nat.reduceSub, Nat.reduceLeDiff, Nat.reduceLT, Nat.reduceDiv, Nat.reduceMod, f16 y m, f32 y m, q0, jj, e]
      exact q
  rcases jr_d c (lo := 0) (hi := 100) (by omega) (by omega) with e | ⟨l, -, hl, rfl⟩
  · left
    intro P Q
    refine ⟨fun p => ?_, fun y m q => ?_⟩
    · unfold wX11_canJudge wX11_hasRow
      simp (disch := first | assumption | omega) only [prv_n, nxt_n, q_sw, mc4, mc6, mc8, mc20, mc24, mc100, nv_rd, nb_rd, wr_rd, nI_lit, nI_add, pk_mul, pk_sub, q_div, cl_nI, vpi, q_eq, q_le, q_lt, n1_eq, n1_eq', n1_le, n1_lt, n1_ge, n1_gt, i_0m1, nlt_t, nlt_f, nle_t, nle_f, neq_f, f_below, f_within, f_isCorner, f_isIn, f_isCornerM, f_isStreet, f_isHouse, f_isCrew, f_isRow, f_has10, f_has0, jx_I, jx_N, jx_m1, jr_I, jr_N1, jr_N2, wr_2, isB_0, isB_1, true_and, and_true, and_self, false_and, and_false, true_or, or_true, false_or, or_false, not_true_eq_false, not_false_eq_true, forall_const, implies_true, false_implies, ne_eq, eq_self, if_true, if_false, Nat.zero_add, Nat.add_zero, Nat.mul_zero, Nat.zero_mul, Nat.mul_one, Nat.one_mul, Nat.add_sub_cancel, Nat.reduceEqDiff, Nat.reduceAdd, Nat.reduceMul, Nat.reduceSub, Nat.reduceLeDiff, Nat.reduceLT, Nat.reduceDiv, Nat.reduceMod, h.1.s116, h.2.v116, s2.1, q0, e]
      exact p
    · unfold wX12_canJudge
      simp (disch := first | assumption | omega) only [prv_n, nxt_n, q_sw, mc4, mc6, mc8, mc20, mc24, mc100, nv_rd, nb_rd, wr_rd, nI_lit, nI_add, pk_mul, pk_sub, q_div, cl_nI, vpi, q_eq, q_le, q_lt, n1_eq, n1_eq', n1_le, n1_lt, n1_ge, n1_gt, i_0m1, nlt_t, nlt_f, nle_t, nle_f, neq_f, f_below, f_within, f_isCorner, f_isIn, f_isCornerM, f_isStreet, f_isHouse, f_isCrew, f_isRow, f_has10, f_has0, jx_I, jx_N, jx_m1, jr_I, jr_N1, jr_N2, wr_2, isB_0, isB_1, true_and, and_true, and_self, false_and, and_false, true_or, or_true, false_or, or_false, not_true_eq_false, not_false_eq_true, forall_const, implies_true, false_implies, ne_eq, eq_self, if_true, if_false, Nat.zero_add, Nat.add_zero, Nat.mul_zero, Nat.zero_mul, Nat.mul_one, Nat.one_mul, Nat.add_sub_cancel, Nat.reduceEqDiff, Nat.reduceAdd, Nat.reduceMul, Nat.reduceSub, Nat.reduceLeDiff, Nat.reduceLT, Nat.reduceDiv, Nat.reduceMod, f16 y m, f32 y m, q0, jj, e]
      exact q
  refine Or.inr ⟨j, l, hj, hl, rfl, rfl, fun P Q => ⟨fun p => ?_, fun y m q => ?_⟩⟩
  · unfold wX11_canJudge wX11_hasRow
    simp (disch := first | assumption | omega) only [prv_n, nxt_n, q_sw, mc4, mc6, mc8, mc20, mc24, mc100, nv_rd, nb_rd, wr_rd, nI_lit, nI_add, pk_mul, pk_sub, q_div, cl_nI, vpi, q_eq, q_le, q_lt, n1_eq, n1_eq', n1_le, n1_lt, n1_ge, n1_gt, i_0m1, nlt_t, nlt_f, nle_t, nle_f, neq_f, f_below, f_within, f_isCorner, f_isIn, f_isCornerM, f_isStreet, f_isHouse, f_isCrew, f_isRow, f_has10, f_has0, jx_I, jx_N, jx_m1, jr_I, jr_N1, jr_N2, wr_2, isB_0, isB_1, true_and, and_true, and_self, false_and, and_false, true_or, or_true, false_or, or_false, not_true_eq_false, not_false_eq_true, forall_const, implies_true, false_implies, ne_eq, eq_self, if_true, if_false, Nat.zero_add, Nat.add_zero, Nat.mul_zero, Nat.zero_mul, Nat.mul_one, Nat.one_mul, Nat.add_sub_cancel, Nat.reduceEqDiff, Nat.reduceAdd, Nat.reduceMul, Nat.reduceSub, Nat.reduceLeDiff, Nat.reduceLT, Nat.reduceDiv, Nat.reduceMod, h.1.s116, h.2.v116, s2.1, q0]
    exact p
  · unfold wX12_canJudge
    simp (disch := first | assumption | omega) only [prv_n, nxt_n, q_sw, mc4, mc6, mc8, mc20, mc24, mc100, nv_rd, nb_rd, wr_rd, nI_lit, nI_add, pk_mul, pk_sub, q_div, cl_nI, vpi, q_eq, q_le, q_lt, n1_eq, n1_eq', n1_le, n1_lt, n1_ge, n1_gt, i_0m1, nlt_t, nlt_f, nle_t, nle_f, neq_f, f_below, f_within, f_isCorner, f_isIn, f_isCornerM, f_isStreet, f_isHouse, f_isCrew, f_isRow, f_has10, f_has0, jx_I, jx_N, jx_m1, jr_I, jr_N1, jr_N2, wr_2, isB_0, isB_1, true_and, and_true, and_self, false_and, and_false, true_or, or_true, false_or, or_false, not_true_eq_false, not_false_eq_true, forall_const, implies_true, false_implies, ne_eq, eq_self, if_true, if_false, Nat.zero_add, Nat.add_zero, Nat.mul_zero, Nat.zero_mul, Nat.mul_one, Nat.one_mul, Nat.add_sub_cancel, Nat.reduceEqDiff, Nat.reduceAdd, Nat.reduceMul, Nat.reduceSub, Nat.reduceLeDiff, Nat.reduceLT, Nat.reduceDiv, Nat.reduceMod, f16 y m, f32 y m, q0, jj]
    exact q
theorem k41 {x y : ab_X} (h : InvA x) (e : ∀ c, c ≠ 241 → y.1 c = x.1 c) (e2 : y.2 = x.2) : InvA y ∧ keepM x.1 y.1 ∧ keepT x.1 y.1 := by
  have m : keepM x.1 y.1 := ⟨fun c q => e c (by unfold kM at q; omega), fun f q => by rw [e 246 (by decide)]⟩
  exact ⟨InvA_keep h ⟨fun c q => e c (by unfold kC at q; omega), by rw [e 158 (by decide)], fun c f p q => by rw [e (82 + c) (by omega)]⟩ m (fun k _ => by rw [e 268 (by decide)]) (by rw [e2]), m, fun c k q => by rw [e c (by unfold tk at q; omega)]⟩
theorem p_judge {x : ab_X} {a b c : Int32} (h : InvA x) {K : ab_X → Prop} (hk : ∀ z, InvA z → keepT x.1 z.1 → K z) :
    wX11_judge a b c x (fun r y => wX12_judge a b c y (fun r' z => dD r = dD r' ∧ K z)) := by
  unfold wX11_judge
  rcases jud_d h a b c with q | ⟨j, l, hj, hl, rfl, rfl, q⟩
  · refine (q _ (fun _ _ => True)).1 ⟨fun _ => ?_, fun u => absurd rfl u⟩
    unfold wX12_judge
    refine (q (fun _ => True) _).2 x keepM.rfl' ⟨fun _ => ⟨rfl, ?_⟩, fun u => absurd rfl u⟩
    exact hk _ (InvA_th h) keepT_th
  · refine (q _ (fun _ _ => True)).1 ⟨fun u => absurd u (by decide), fun _ => ?_⟩
    refine c_jud h.1 h.2 hl hj (fun v y hv y1 y2 => ?_)
    obtain ⟨iy, my, ty⟩ := k41 h y1 y2
    unfold wX12_judge
    refine (q (fun _ => True) _).2 y my ⟨fun u => absurd u (by decide), fun _ => ?_⟩
    refine m_jud (X := x.1) (Y := x.1) (my.tr keepM_th) h.2 (by show RR x.1 x.1 (y.2.1 329); rw [y2]; exact h.1) hl hj (fun v' hv' => ⟨hv.trans hv'.symm, hk _ (InvA_th iy) (ty.tr keepT_th)⟩)
theorem pS_cg {Y X X' : Nat → Nat → Int32} {l j : Nat} {s : Int32} (e : X' 245 = X 245) : pS Y X' l j s = pS Y X l j s := by unfold pS; rw [e]
theorem p_loss {x : ab_X} {a b c d : Int32} (h : InvA x) {K : ab_X → Prop} (hk : ∀ z, InvA z → keepT x.1 z.1 → K z) :
    wX11_loss a b c d x (fun r y => wX12_loss a b c d y (fun r' z => dD r = dD r' ∧ K z)) := by
  unfold wX11_loss
  rcases jud_d h a b c with q | ⟨j, l, hj, hl, rfl, rfl, q⟩
  · refine (q _ (fun _ _ => True)).1 ⟨fun _ => ?_, fun u => absurd rfl u⟩
    unfold wX12_loss
    refine (q (fun _ => True) _).2 x keepM.rfl' ⟨fun _ => ⟨rfl, ?_⟩, fun u => absurd rfl u⟩
    exact hk _ (InvA_th h) keepT_th
  · refine (q _ (fun _ _ => True)).1 ⟨fun u => absurd u (by decide), fun _ => ?_⟩
    rcases jx_d d (n := 20) (by omega) with e | ⟨i, hi, rfl⟩
    · simp (disch := first | assumption | omega) only [prv_n, nxt_n, q_sw, mc4, mc6, mc8, mc20, mc24, mc100, nv_rd, nb_rd, wr_rd, nI_lit, nI_add, pk_mul, pk_sub, q_div, cl_nI, vpi, q_eq, q_le, q_lt, n1_eq, n1_eq', n1_le, n1_lt, n1_ge, n1_gt, i_0m1, nlt_t, nlt_f, nle_t, nle_f, neq_f, f_below, f_within, f_isCorner, f_isIn, f_isCornerM, f_isStreet, f_isHouse, f_isCrew, f_isRow, f_has10, f_has0, jx_I, jx_N, jx_m1, jr_I, jr_N1, jr_N2, wr_2, isB_0, isB_1, true_and, and_true, and_self, false_and, and_false, true_or, or_true, false_or, or_false, not_true_eq_false, not_false_eq_true, forall_const, implies_true, false_implies, ne_eq, eq_self, if_true, if_false, Nat.zero_add, Nat.add_zero, Nat.mul_zero, Nat.zero_mul, Nat.mul_one, Nat.one_mul, Nat.add_sub_cancel, Nat.reduceEqDiff, Nat.reduceAdd, Nat.reduceMul, Nat.reduceSub, Nat.reduceLeDiff, Nat.reduceLT, Nat.reduceDiv, Nat.reduceMod, e]
      unfold wX12_loss
      refine (q (fun _ => True) _).2 x keepM.rfl' ⟨fun u => absurd u (by decide), fun _ => ?_⟩
      simp (disch := first | assumption | omega) only [prv_n, nxt_n, q_sw, mc4, mc6, mc8, mc20, mc24, mc100, nv_rd, nb_rd, wr_rd, nI_lit, nI_add, pk_mul, pk_sub, q_div, cl_nI, vpi, q_eq, q_le, q_lt, n1_eq, n1_eq', n1_le, n1_lt, n1_ge, n1_gt, i_0m1, nlt_t, nlt_f, nle_t, nle_f, neq_f, f_below, f_within, f_isCorner, f_isIn, f_isCornerM, f_isStreet, f_isHouse, f_isCrew, f_isRow, f_has10, f_has0, jx_I, jx_N, jx_m1, jr_I, jr_N1, jr_N2, wr_2, isB_0, isB_1, true_and, and_true, and_self, false_and, and_false, true_or, or_true, false_or, or_false, not_true_eq_false, not_false_eq_true, forall_const, implies_true, false_implies, ne_eq, eq_self, if_true, if_false, Nat.zero_add, Nat.add_zero, Nat.mul_zero, Nat.zero_mul, Nat.mul_one, Nat.one_mul, Nat.add_sub_cancel, Nat.reduceEqDiff, Nat.reduceAdd, Nat.reduceMul, Nat.reduceSub, Nat.reduceLeDiff, Nat.reduceLT, Nat.reduceDiv, Nat.reduceMod, e]
      exact hk _ (InvA_th h) keepT_th
    by_cases qb : ((b >>> (nI i &&& nI 31)) &&& nI 1) = nI 0
    · simp (disch := first | assumption | omega) only [prv_n, nxt_n, q_sw, mc4, mc6, mc8, mc20, mc24, mc100, nv_rd, nb_rd, wr_rd, nI_lit, nI_add, pk_mul, pk_sub, q_div, cl_nI, vpi, q_eq, q_le, q_lt, n1_eq, n1_eq', n1_le, n1_lt, n1_ge, n1_gt, i_0m1, nlt_t, nlt_f, nle_t, nle_f, neq_f, f_below, f_within, f_isCorner, f_isIn, f_isCornerM, f_isStreet, f_isHouse, f_isCrew, f_isRow, f_has10, f_has0, jx_I, jx_N, jx_m1, jr_I, jr_N1, jr_N2, wr_2, isB_0, isB_1, true_and, and_true, and_self, false_and, and_false, true_or, or_true, false_or, or_false, not_true_eq_false, not_false_eq_true, forall_const, implies_true, false_implies, ne_eq, eq_self, if_true, if_false, Nat.zero_add, Nat.add_zero, Nat.mul_zero, Nat.zero_mul, Nat.mul_one, Nat.one_mul, Nat.add_sub_cancel, Nat.reduceEqDiff, Nat.reduceAdd, Nat.reduceMul, Nat.reduceSub, Nat.reduceLeDiff, Nat.reduceLT, Nat.reduceDiv, Nat.reduceMod, qb]
      unfold wX12_loss
      refine (q (fun _ => True) _).2 x keepM.rfl' ⟨fun u => absurd u (by decide), fun _ => ?_⟩
      simp (disch := first | assumption | omega) only [prv_n, nxt_n, q_sw, mc4, mc6, mc8, mc20, mc24, mc100, nv_rd, nb_rd, wr_rd, nI_lit, nI_add, pk_mul, pk_sub, q_div, cl_nI, vpi, q_eq, q_le, q_lt, n1_eq, n1_eq', n1_le, n1_lt, n1_ge, n1_gt, i_0m1, nlt_t, nlt_f, nle_t, nle_f, neq_f, f_below, f_within, f_isCorner, f_isIn, f_isCornerM, f_isStreet, f_isHouse, f_isCrew, f_isRow, f_has10, f_has0, jx_I, jx_N, jx_m1, jr_I, jr_N1, jr_N2, wr_2, isB_0, isB_1, true_and, and_true, and_self, false_and, and_false, true_or, or_true, false_or, or_false, not_true_eq_false, not_false_eq_true, forall_const, implies_true, false_implies, ne_eq, eq_self, if_true, if_false, Nat.zero_add, Nat.add_zero, Nat.mul_zero, Nat.zero_mul, Nat.mul_one, Nat.one_mul, Nat.add_sub_cancel, Nat.reduceEqDiff, Nat.reduceAdd, Nat.reduceMul, Nat.reduceSub, Nat.reduceLeDiff, Nat.reduceLT, Nat.reduceDiv, Nat.reduceMod, qb]
      exact hk _ (InvA_th h) keepT_th
    · simp (disch := first | assumption | omega) only [prv_n, nxt_n, q_sw, mc4, mc6, mc8, mc20, mc24, mc100, nv_rd, nb_rd, wr_rd, nI_lit, nI_add, pk_mul, pk_sub, q_div, cl_nI, vpi, q_eq, q_le, q_lt, n1_eq, n1_eq', n1_le, n1_lt, n1_ge, n1_gt, i_0m1, nlt_t, nlt_f, nle_t, nle_f, neq_f, f_below, f_within, f_isCorner, f_isIn, f_isCornerM, f_isStreet, f_isHouse, f_isCrew, f_isRow, f_has10, f_has0, jx_I, jx_N, jx_m1, jr_I, jr_N1, jr_N2, wr_2, isB_0, isB_1, true_and, and_true, and_self, false_and, and_false, true_or, or_true, false_or, or_false, not_true_eq_false, not_false_eq_true, forall_const, implies_true, false_implies, ne_eq, eq_self, if_true, if_false, Nat.zero_add, Nat.add_zero, Nat.mul_zero, Nat.zero_mul, Nat.mul_one, Nat.one_mul, Nat.add_sub_cancel, Nat.reduceEqDiff, Nat.reduceAdd, Nat.reduceMul, Nat.reduceSub, Nat.reduceLeDiff, Nat.reduceLT, Nat.reduceDiv, Nat.reduceMod, qb]
      refine c_jud h.1 h.2 hl hj (fun v y hv y1 y2 => ?_)
      obtain ⟨iy, my, ty⟩ := k41 h y1 y2
      have ry : RR y.1 x.1 (x.2.1 329) := RR_keep h.2 h.1 ⟨fun c q => y1 c (by unfold kC at q; omega), by rw [y1 158 (by decide)], fun c f p q => by rw [y1 (82 + c) (by omega)]⟩ keepM.rfl' (fun _ _ => rfl)
      refine c_jud ry h.2 hl hj (fun v2 y' hv2 y1' y2' => ?_)
      rw [pS_cg (y1 245 (by decide))] at hv2
      obtain ⟨iy', my', ty'⟩ := k41 iy y1' y2'
      intro r7 h7
      unfold wX12_loss
      refine (q (fun _ => True) _).2 y' (my.tr my') ⟨fun u => absurd u (by decide), fun _ => ?_⟩
      simp (disch := first | assumption | omega) only [prv_n, nxt_n, q_sw, mc4, mc6, mc8, mc20, mc24, mc100, nv_rd, nb_rd, wr_rd, nI_lit, nI_add, pk_mul, pk_sub, q_div, cl_nI, vpi, q_eq, q_le, q_lt, n1_eq, n1_eq', n1_le, n1_lt, n1_ge, n1_gt, i_0m1, nlt_t, nlt_f, nle_t, nle_f, neq_f, f_below, f_within, f_isCorner, f_isIn, f_isCornerM, f_isStreet, f_isHouse, f_isCrew, f_isRow, f_has10, f_has0, jx_I, jx_N, jx_m1, jr_I, jr_N1, jr_N2, wr_2, isB_0, isB_1, true_and, and_true, and_self, false_and, and_false, true_or, or_true, false_or, or_false, not_true_eq_false, not_false_eq_true, forall_const, implies_true, false_implies, ne_eq, eq_self, if_true, if_false, Nat.zero_add, Nat.add_zero, Nat.mul_zero, Nat.zero_mul, Nat.mul_one, Nat.one_mul, Nat.add_sub_cancel, Nat.reduceEqDiff, Nat.reduceAdd, Nat.reduceMul, Nat.reduceSub, Nat.reduceLeDiff, Nat.reduceLT, Nat.reduceDiv, Nat.reduceMod, qb]
      have rr : RR x.1 x.1 ((wr y' 246 0 (nI 0)).2.1 329) := by show RR x.1 x.1 (y'.2.1 329); rw [y2', y2]; exact h.1
      refine m_jud (X := x.1) (Y := x.1) ((my.tr my').tr keepM_th) h.2 rr hl hj (fun u hu => m_jud (X := x.1) (Y := x.1) ((my.tr my').tr keepM_th) h.2 rr hl hj (fun u2 hu2 r6 h6 => ⟨?_, hk _ (InvA_th iy') ((ty.tr ty').tr keepT_th)⟩))
      rw [alkD h7, alkD h6, dsub_c (hv.trans hu.symm) (hv2.trans hu2.symm)]
