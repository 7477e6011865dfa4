/-! plan, planned: the calls -/
theorem caN_s (Y : Nat → Nat → Int32) (k c : Nat) : caN Y (k + 1) c = caN Y k c + (if nv Y 310 k = c then 1 else 0) := by
  show cn _ k + (if decide (nv Y 310 k = c) = true then 1 else 0) = _
  by_cases e : nv Y 310 k = c
  · rw [if_pos e, if_pos (decide_eq_true e)]; rfl
  · rw [if_neg e, if_neg (by rw [decide_eq_false e]; decide)]; rfl
theorem c_make {x : ab_X} {Y : Nat → Nat → Int32} {D : Nat → UInt64} (r : RR x.1 Y D) (w : WW Y) {t l : Nat} (ht : t ≤ 4) (hl : l ≤ 100) {K : ab_X → Prop} (k : ∀ y : ab_X, (∀ c, c ≠ 241 → c ≠ 242 → c ≠ 234 → y.1 c = x.1 c) → y.2 = x.2 → y.1 234 16 = pI (chs (wgh Y (nv Y 246 92) l) t 0 (nI 0) (0, nI 0)).1 → y.1 234 17 = (chs (wgh Y (nv Y 246 92) l) t 0 (nI 0) (0, nI 0)).2 → K y) : wX7_makePlan (nI t) (nI l) x K := by
  have bn := w.b92
  unfold wX7_makePlan
  refine c_nearT r w hl (fun y y1 y2 y3 => ?_)
  refine c_fill (by decide) (fun y' a1 a2 a3 a4 => ?_)
  refine Lp2.ind (fun ii a z => ∃ i, i ≤ nv Y 246 92 ∧ ii = nv Y 246 92 - i ∧ a = nI i ∧ (∀ c, c ≠ 241 → c ≠ 242 → z.1 c = x.1 c) ∧ z.2 = x.2 ∧ z.1 241 = y.1 241 ∧ (∀ c, c < 20 → z.1 242 c = nI (caN Y i c))) (nv Y 246 92) ⟨0, by omega, rfl, rfl, fun c p q => by rw [a1 c q, y1 c p], a2.trans y3, a1 241 (by decide), fun c hc => a3 c hc⟩ ?_
  rintro ii a z ⟨i, hi, hii, rfl, z1, z2, z3, z4⟩ L hL
  unfold lX7_makePlan_16
  have e5 : z.1 66 5 = nI (nv Y 246 92) := by rw [z1 66 (by decide) (by decide), r.s92, w.v92]
  by_cases e : i = nv Y 246 92
  · simp (disch := first | assumption | omega) only [prv_n, nxt_n, q_sw, mc4, mc6, mc8, mc20, mc24, mc100, nv_rd, nb_rd, wr_rd, nI_lit, nI_add, pk_mul, pk_sub, q_div, cl_nI, vpi, q_eq, q_le, q_lt, n1_eq, n1_eq', n1_le, n1_lt, n1_ge, n1_gt, i_0m1, nlt_t, nlt_f, nle_t, nle_f, neq_f, f_below, f_within, f_isCorner, f_isIn, f_isCornerM, f_isStreet, f_isHouse, f_isCrew, f_isRow, f_has10, f_has0, jx_I, jx_N, jx_m1, jr_I, jr_N1, jr_N2, wr_2, isB_0, isB_1, true_and, and_true, and_self, false_and, and_false, true_or, or_true, false_or, or_false, not_true_eq_false, not_false_eq_true, forall_const, implies_true, false_implies, ne_eq, eq_self, if_true, if_false, Nat.zero_add, Nat.add_zero, Nat.mul_zero, Nat.zero_mul, Nat.mul_one, Nat.one_mul, Nat.add_sub_cancel, Nat.reduceEqDiff, Nat.reduceAdd, Nat.reduceMul, Nat.reduceSub, Nat.reduceLeDiff, Nat.reduceLT, Nat.reduceDiv, Nat.reduceMod, e5, e]
    refine ⟨t + 1, by omega, ?_⟩
    refine c_choose (Y := Y) (l := l) bn t 0 (nI 0) (0, nI 0) _ _ (by omega) (by omega) ⟨fun c hc j hj => ?_, fun c hc => ?_, ?_, ?_, by decide⟩ (fun u u1 u2 => ?_)
    · simp (disch := omega) only [wr_ne]
      rw [z3]; exact y2 c hc j hj
    · simp (disch := omega) only [wr_ne]
      rw [z4 c hc, e]
    · rw [wr_ne (by omega), wr_e]; rfl
    · rw [wr_e]
    · refine k u (fun c p q o => ?_) (u1.2.trans z2) u2.2.2.1 u2.2.2.2.1
      funext j
      rw [u1.1 c j (Or.inl o), wr_ne (Or.inl o), wr_ne (Or.inl o), z1 c p q]
  have hi2 : i < nv Y 246 92 := by omega
  have f0 : z.1 (98 + i) 0 = nI (nv Y 310 i) := by rw [z1 (98 + i) (by omega) (by omega), (r.ca.1 i hi2).1, ← (w.ca.1 i hi2).1.1]
  have c0 := (w.ca.1 i hi2).1.2
  have cl := caN_le Y (n := i) (by omega) (nv Y 310 i)
  simp (disch := first | assumption | omega) only [prv_n, nxt_n, q_sw, mc4, mc6, mc8, mc20, mc24, mc100, nv_rd, nb_rd, wr_rd, nI_lit, nI_add, pk_mul, pk_sub, q_div, cl_nI, vpi, q_eq, q_le, q_lt, n1_eq, n1_eq', n1_le, n1_lt, n1_ge, n1_gt, i_0m1, nlt_t, nlt_f, nle_t, nle_f, neq_f, f_below, f_within, f_isCorner, f_isIn, f_isCornerM, f_isStreet, f_isHouse, f_isCrew, f_isRow, f_has10, f_has0, jx_I, jx_N, jx_m1, jr_I, jr_N1, jr_N2, wr_2, isB_0, isB_1, true_and, and_true, and_self, false_and, and_false, true_or, or_true, false_or, or_false, not_true_eq_false, not_false_eq_true, forall_const, implies_true, false_implies, ne_eq, eq_self, if_true, if_false, Nat.zero_add, Nat.add_zero, Nat.mul_zero, Nat.zero_mul, Nat.mul_one, Nat.one_mul, Nat.add_sub_cancel, Nat.reduceEqDiff, Nat.reduceAdd, Nat.reduceMul, Nat.reduceSub, Nat.reduceLeDiff, Nat.reduceLT, Nat.reduceDiv, Nat.reduceMod, e5, f0, z4]
  refine hL _ _ _ (by omega) ⟨i + 1, by omega, rfl, rfl, fun c p q => by rw [wr_n q, z1 c p q], z2, by rw [wr_n (by decide), z3], fun c hc => ?_⟩
  rw [caN_s]
  by_cases e6 : nv Y 310 i = c
  · rw [if_pos e6, e6, wr_e]
  · rw [if_neg e6, wr_k (by omega), z4 c hc]; rfl
theorem m_find {x : ab_X} {Y : Nat → Nat → Int32} (m : keepM Y x.1) (w : WW Y) {t l : Nat} (ht : t ≤ 4) (h1 : 1 ≤ t) (hl : l ≤ 100) (hl1 : 1 ≤ l) {K : Int32 → ab_X → Prop} (k : ∀ z : ab_X, (∀ c, c ≠ 328 → c ≠ 246 → z.1 c = x.1 c) → (∀ f, f ≠ 0 → f ≠ 109 → f ≠ 110 → z.1 246 f = x.1 246 f) → z.2 = x.2 → z.1 246 109 = pI (chs (wgh Y (nv Y 246 92) l) t 0 (nI 0) (0, x.1 246 110)).1 → z.1 246 110 = (chs (wgh Y (nv Y 246 92) l) t 0 (nI 0) (0, x.1 246 110)).2 → K (nI 1) z) : wX12_findPlan (nI t) (nI l) x K := by
  have bn := w.b92
  unfold wX12_findPlan
  simp (disch := first | assumption | omega) only [prv_n, nxt_n, q_sw, mc4, mc6, mc8, mc20, mc24, mc100, nv_rd, nb_rd, wr_rd, nI_lit, nI_add, pk_mul, pk_sub, q_div, cl_nI, vpi, q_eq, q_le, q_lt, n1_eq, n1_eq', n1_le, n1_lt, n1_ge, n1_gt, i_0m1, nlt_t, nlt_f, nle_t, nle_f, neq_f, f_below, f_within, f_isCorner, f_isIn, f_isCornerM, f_isStreet, f_isHouse, f_isCrew, f_isRow, f_has10, f_has0, jx_I, jx_N, jx_m1, jr_I, jr_N1, jr_N2, wr_2, isB_0, isB_1, true_and, and_true, and_self, false_and, and_false, true_or, or_true, false_or, or_false, not_true_eq_false, not_false_eq_true, forall_const, implies_true, false_implies, ne_eq, eq_self, if_true, if_false, Nat.zero_add, Nat.add_zero, Nat.mul_zero, Nat.zero_mul, Nat.mul_one, Nat.one_mul, Nat.add_sub_cancel, Nat.reduceEqDiff, Nat.reduceAdd, Nat.reduceMul, Nat.reduceSub, Nat.reduceLeDiff, Nat.reduceLT, Nat.reduceDiv, Nat.reduceMod]
  refine Lp2.ind (fun ii a z => ∃ i, i ≤ 20 ∧ ii = 20 - i ∧ a = nI i ∧ (∀ c, c ≠ 328 → c ≠ 246 → z.1 c = x.1 c) ∧ (∀ f, f ≠ 0 → z.1 246 f = x.1 246 f) ∧ z.2 = x.2 ∧ (∀ c, c < i → z.1 328 c = nI 0)) 20 ⟨0, by omega, rfl, rfl, fun c p q => wr_n q, fun f p => wr_k p, rfl, fun c hc => by omega⟩ ?_
  rintro ii a z ⟨i, hi, hii, rfl, z1, z2, z3, z4⟩ L hL
  unfold lX12_findPlan_28
  by_cases e : i = 20
  case neg =>
    simp (disch := first | assumption | omega) only [prv_n, nxt_n, q_sw, mc4, mc6, mc8, mc20, mc24, mc100, nv_rd, nb_rd, wr_rd, nI_lit, nI_add, pk_mul, pk_sub, q_div, cl_nI, vpi, q_eq, q_le, q_lt, n1_eq, n1_eq', n1_le, n1_lt, n1_ge, n1_gt, i_0m1, nlt_t, nlt_f, nle_t, nle_f, neq_f, f_below, f_within, f_isCorner, f_isIn, f_isCornerM, f_isStreet, f_isHouse, f_isCrew, f_isRow, f_has10, f_has0, jx_I, jx_N, jx_m1, jr_I, jr_N1, jr_N2, wr_2, isB_0, isB_1, true_and, and_true, and_self, false_and, and_false, true_or, or_true, false_or, or_false, not_true_eq_false, not_false_eq_true, forall_const, implies_true, false_implies, ne_eq, eq_self, if_true, if_false, Nat.zero_add, Nat.add_zero, Nat.mul_zero, Nat.zero_mul, Nat.mul_one, Nat.one_mul, Nat.add_sub_cancel, Nat.reduceEqDiff, Nat.reduceAdd, Nat.reduceMul, Nat.reduceSub, Nat.reduceLeDiff, Nat.reduceLT, Nat.reduceDiv, Nat.reduceMod]
    refine hL _ _ _ (by omega) ⟨i + 1, by omega, rfl, rfl, fun c p q => by rw [wr_n p, z1 c p q], fun f p => by rw [wr_n (by decide), z2 f p], z3, fun c hc => ?_⟩
    by_cases e6 : c = i
    · rw [e6, wr_e]
    · rw [wr_k e6, z4 c (by omega)]
  subst e
  simp (disch := first | assumption | omega) only [prv_n, nxt_n, q_sw, mc4, mc6, mc8, mc20, mc24, mc100, nv_rd, nb_rd, wr_rd, nI_lit, nI_add, pk_mul, pk_sub, q_div, cl_nI, vpi, q_eq, q_le, q_lt, n1_eq, n1_eq', n1_le, n1_lt, n1_ge, n1_gt, i_0m1, nlt_t, nlt_f, nle_t, nle_f, neq_f, f_below, f_within, f_isCorner, f_isIn, f_isCornerM, f_isStreet, f_isHouse, f_isCrew, f_isRow, f_has10, f_has0, jx_I, jx_N, jx_m1, jr_I, jr_N1, jr_N2, wr_2, isB_0, isB_1, true_and, and_true, and_self, false_and, and_false, true_or, or_true, false_or, or_false, not_true_eq_false, not_false_eq_true, forall_const, implies_true, false_implies, ne_eq, eq_self, if_true, if_false, Nat.zero_add, Nat.add_zero, Nat.mul_zero, Nat.zero_mul, Nat.mul_one, Nat.one_mul, Nat.add_sub_cancel, Nat.reduceEqDiff, Nat.reduceAdd, Nat.reduceMul, Nat.reduceSub, Nat.reduceLeDiff, Nat.reduceLT, Nat.reduceDiv, Nat.reduceMod]
  refine Lp2.ind (fun ii a y => ∃ i, i ≤ nv Y 246 92 ∧ ii = nv Y 246 92 - i ∧ a = nI i ∧ (∀ c, c ≠ 328 → c ≠ 246 → y.1 c = x.1 c) ∧ (∀ f, f ≠ 0 → y.1 246 f = x.1 246 f) ∧ y.2 = x.2 ∧ (∀ c, c < 20 → y.1 328 c = nI (caN Y i c))) (nv Y 246 92) ⟨0, by omega, rfl, rfl, z1, z2, z3, fun c hc => z4 c hc⟩ ?_
  rintro ii a y ⟨i, hi, hii, rfl, y1, y2, y3, y4⟩ L' hL'
  unfold lX12_findPlan_49
  have e5 : y.1 246 92 = nI (nv Y 246 92) := by rw [y2 92 (by decide), m.2 92 (by simp [kS]), w.v92]
  by_cases e : i = nv Y 246 92
  · simp (disch := first | assumption | omega) only [prv_n, nxt_n, q_sw, mc4, mc6, mc8, mc20, mc24, mc100, nv_rd, nb_rd, wr_rd, nI_lit, nI_add, pk_mul, pk_sub, q_div, cl_nI, vpi, q_eq, q_le, q_lt, n1_eq, n1_eq', n1_le, n1_lt, n1_ge, n1_gt, i_0m1, nlt_t, nlt_f, nle_t, nle_f, neq_f, f_below, f_within, f_isCorner, f_isIn, f_isCornerM, f_isStreet, f_isHouse, f_isCrew, f_isRow, f_has10, f_has0, jx_I, jx_N, jx_m1, jr_I, jr_N1, jr_N2, wr_2, isB_0, isB_1, true_and, and_true, and_self, false_and, and_false, true_or, or_true, false_or, or_false, not_true_eq_false, not_false_eq_true, forall_const, implies_true, false_implies, ne_eq, eq_self, if_true, if_false, Nat.zero_add, Nat.add_zero, Nat.mul_zero, Nat.zero_mul, Nat.mul_one, Nat.one_mul, Nat.add_sub_cancel, Nat.reduceEqDiff, Nat.reduceAdd, Nat.reduceMul, Nat.reduceSub, Nat.reduceLeDiff, Nat.reduceLT, Nat.reduceDiv, Nat.reduceMod, e5, e]
    refine ⟨t + 1, by omega, ?_⟩
    refine m_plans (Y := Y) w hl bn t 0 (nI 0) (0, x.1 246 110) _ _ (by omega) (by omega) ⟨⟨fun c hc => ?_, fun f hf => ?_⟩, fun c hc => ?_, ?_, ?_, Nat.zero_le _⟩ (fun u u1 u2 => ?_)
    · rw [wr_n (by unfold kM at hc; omega), y1 c (by unfold kM at hc; omega) (by unfold kM at hc; omega)]; exact m.1 c hc
    · rw [wr_k (by unfold kS at hf; omega), y2 f (by unfold kS at hf; omega)]; exact m.2 f hf
    · rw [wr_n (by decide), y4 c hc, e]
    · rw [wr_e]; rfl
    · rw [wr_k (by decide), y2 110 (by decide)]
    · refine k u (fun c p q => ?_) (fun f p q o => ?_) (u1.2.trans y3) u2.2.2.1 u2.2.2.2.1
      · funext j
        rw [u1.1 c j (Or.inl q), wr_ne (Or.inl q), y1 c p q]
      · rw [u1.1 246 f (Or.inr ⟨q, o⟩), wr_k q, y2 f p]
  have hi2 : i < nv Y 246 92 := by omega
  have f0 : y.1 310 i = nI (nv Y 310 i) := by rw [y1 310 (by decide) (by decide), m.1 310 (by unfold kM; omega), ← (w.ca.1 i hi2).1.1]
  have c0 := (w.ca.1 i hi2).1.2
  have cl := caN_le Y (n := i) (by omega) (nv Y 310 i)
  simp (disch := first | assumption | omega) only [prv_n, nxt_n, q_sw, mc4, mc6, mc8, mc20, mc24, mc100, nv_rd, nb_rd, wr_rd, nI_lit, nI_add, pk_mul, pk_sub, q_div, cl_nI, vpi, q_eq, q_le, q_lt, n1_eq, n1_eq', n1_le, n1_lt, n1_ge, n1_gt, i_0m1, nlt_t, nlt_f, nle_t, nle_f, neq_f, f_below, f_within, f_isCorner, f_isIn, f_isCornerM, f_isStreet, f_isHouse, f_isCrew, f_isRow, f_has10, f_has0, jx_I, jx_N, jx_m1, jr_I, jr_N1, jr_N2, wr_2, isB_0, isB_1, true_and, and_true, and_self, false_and, and_false, true_or, or_true, false_or, or_false, not_true_eq_false, not_false_eq_true, forall_const, implies_true, false_implies, ne_eq, eq_self, if_true, if_false, Nat.zero_add, Nat.add_zero, Nat.mul_zero, Nat.zero_mul, Nat.mul_one, Nat.one_mul, Nat.add_sub_cancel, Nat.reduceEqDiff, Nat.reduceAdd, Nat.reduceMul, Nat.reduceSub, Nat.reduceLeDiff, Nat.reduceLT, Nat.reduceDiv, Nat.reduceMod, e5, f0, y4]
  refine hL' _ _ _ (by omega) ⟨i + 1, by omega, rfl, rfl, fun c p q => by rw [wr_n p, y1 c p q], fun f p => by rw [wr_n (by decide), y2 f p], y3, fun c hc => ?_⟩
  rw [caN_s]
  by_cases e6 : nv Y 310 i = c
  · rw [if_pos e6, e6, wr_e]
  · rw [if_neg e6, wr_k (by omega), y4 c hc]; rfl
def sb (w : Int32) (i : Nat) : Int32 := fstB (fun c => bt w c && decide (cn (bt w) c = i)) 0 20
theorem fstB_s {p : Nat → Bool} {c : Nat} (hc : c < 20) : fstB p c (20 - c) = if p c then nI c else fstB p (c + 1) (20 - (c + 1)) := by
  obtain ⟨m, hm⟩ : ∃ m, 20 - c = m + 1 := ⟨20 - c - 1, by omega⟩
  rw [hm, show 20 - (c + 1) = m by omega]; rfl
theorem fstB_n {p : Nat → Bool} : ∀ m f, (∀ c, f ≤ c → c < f + m → p c = false) → fstB p f m = -nI 1
  | 0, _, _ => rfl
  | m + 1, f, h => by
    show (if p f then nI f else fstB p (f + 1) m) = _
    rw [h f (Nat.le_refl _) (by omega), if_neg (by decide)]
    exact fstB_n m (f + 1) (fun c a b => h c (by omega) (by omega))
theorem c_bitAt {w : Int32} {i : Nat} (hi : i < 2147483648) {x : ab_X} {K : Int32 → Prop} (k : K (sb w i)) : wX7_bitAt w (nI i) x K := by
  unfold wX7_bitAt
  refine Lp2.ind (fun ii (a : Int32) (b : Int32) => ∃ c, c ≤ 20 ∧ ii = 20 - c ∧ a = nI (cn (bt w) c) ∧ b = nI c ∧ fstB (fun c => bt w c && decide (cn (bt w) c = i)) c (20 - c) = sb w i) 20 ⟨0, by omega, rfl, rfl, rfl, rfl⟩ ?_
  rintro ii a b ⟨c, hc, hii, rfl, rfl, hf⟩ L hL
  unfold lX7_bitAt_4
  by_cases e : c = 20
  · subst e
    rw [← hf] at k
    simp (disch := first | assumption | omega) only [prv_n, nxt_n, q_sw, mc4, mc6, mc8, mc20, mc24, mc100, nv_rd, nb_rd, wr_rd, nI_lit, nI_add, pk_mul, pk_sub, q_div, cl_nI, vpi, q_eq, q_le, q_lt, n1_eq, n1_eq', n1_le, n1_lt, n1_ge, n1_gt, i_0m1, nlt_t, nlt_f, nle_t, nle_f, neq_f, f_below, f_within, f_isCorner, f_isIn, f_isCornerM, f_isStreet, f_isHouse, f_isCrew, f_isRow, f_has10, f_has0, jx_I, jx_N, jx_m1, jr_I, jr_N1, jr_N2, wr_2, isB_0, isB_1, true_and, and_true, and_self, false_and, and_false, true_or, or_true, false_or, or_false, not_true_eq_false, not_false_eq_true, forall_const, implies_true, false_implies, ne_eq, eq_self, if_true, if_false, Nat.zero_add, Nat.add_zero, Nat.mul_zero, Nat.zero_mul, Nat.mul_one, Nat.one_mul, Nat.add_sub_cancel, Nat.reduceEqDiff, Nat.reduceAdd, Nat.reduceMul, Nat.reduceSub, Nat.reduceLeDiff, Nat.reduceLT, Nat.reduceDiv, Nat.reduceMod]
    exact k
  have hc2 : c < 20 := by omega
  rw [fstB_s hc2] at hf
  have le := cn_le (bt w) c
  refine ⟨fun q => absurd q (by simp only [nI_lit]; rw [q_le (by omega) (by omega)]; omega), fun _ => ?_⟩
  simp only [nI_lit]
  rw [bit_e (by omega)]
  cases qb : bt w c
  · have s1 : cn (bt w) (c + 1) = cn (bt w) c := by show cn (bt w) c + (if bt w c then 1 else 0) = _; rw [qb]; rfl
    refine ⟨fun _ => ?_, fun u => absurd u (by decide)⟩
    rw [nI_add]
    refine hL _ _ _ (by omega) ⟨c + 1, by omega, rfl, by rw [s1], rfl, ?_⟩
    rw [← hf, qb]; rfl
  · have s1 : cn (bt w) (c + 1) = cn (bt w) c + 1 := by show cn (bt w) c + (if bt w c then 1 else 0) = _; rw [qb]; rfl
    refine ⟨fun u => absurd rfl u, fun _ => ?_⟩
    rw [nI_add, nI_add, q_eq (by omega) hi]
    rw [qb, Bool.true_and] at hf
    by_cases q : cn (bt w) c = i
    · rw [if_pos (decide_eq_true q)] at hf
      rw [← hf] at k
      exact ⟨fun u => absurd q u, fun _ => k⟩
    · rw [if_neg (by rw [decide_eq_false q]; decide)] at hf
      exact ⟨fun _ => hL _ _ _ (by omega) ⟨c + 1, by omega, rfl, by rw [s1], rfl, hf⟩, fun u => absurd u q⟩
theorem m_bitAt {w : Int32} {i : Nat} (hi : i < 2147483648) {x : ab_X} (hx : x.1 246 110 = w) {K : Int32 → ab_X → Prop} (k : K (sb w i) x) : Lp2 (lX12_planned_21 x K) (nI i) (nI 0) := by
  refine Lp2.ind (fun ii (a : Int32) (b : Int32) => ∃ c, c ≤ 20 ∧ ii = 20 - c ∧ cn (bt w) c ≤ i ∧ a = nI (i - cn (bt w) c) ∧ b = nI c ∧ fstB (fun c => bt w c && decide (cn (bt w) c = i)) c (20 - c) = sb w i) 20 ⟨0, by omega, rfl, Nat.zero_le _, rfl, rfl, rfl⟩ ?_
  rintro ii a b ⟨c, hc, hii, hci, rfl, rfl, hf⟩ L hL
  unfold lX12_planned_21
  by_cases e : c = 20
  · subst e
    rw [← hf] at k
    simp (disch := first | assumption | omega) only [prv_n, nxt_n, q_sw, mc4, mc6, mc8, mc20, mc24, mc100, nv_rd, nb_rd, wr_rd, nI_lit, nI_add, pk_mul, pk_sub, q_div, cl_nI, vpi, q_eq, q_le, q_lt, n1_eq, n1_eq', n1_le, n1_lt, n1_ge, n1_gt, i_0m1, nlt_t, nlt_f, nle_t, nle_f, neq_f, f_below, f_within, f_isCorner, f_isIn, f_isCornerM, f_isStreet, f_isHouse, f_isCrew, f_isRow, f_has10, f_has0, jx_I, jx_N, jx_m1, jr_I, jr_N1, jr_N2, wr_2, isB_0, isB_1, true_and, and_true, and_self, false_and, and_false, true_or, or_true, false_or, or_false, not_true_eq_false, not_false_eq_true, forall_const, implies_true, false_implies, ne_eq, eq_self, if_true, if_false, Nat.zero_add, Nat.add_zero, Nat.mul_zero, Nat.zero_mul, Nat.mul_one, Nat.one_mul, Nat.add_sub_cancel, Nat.reduceEqDiff, Nat.reduceAdd, Nat.reduceMul, Nat.reduceSub, Nat.reduceLeDiff, Nat.reduceLT, Nat.reduceDiv, Nat.reduceMod]
    exact k
  have hc2 : c < 20 := by omega
  rw [fstB_s hc2] at hf
  have le := cn_le (bt w) c
  refine ⟨fun q => absurd q (by simp only [nI_lit]; rw [q_le (by omega) (by omega)]; omega), fun _ => ?_⟩
  simp only [nI_lit, hx]
  rw [bit_e (by omega)]
  cases qb : bt w c
  · have s1 : cn (bt w) (c + 1) = cn (bt w) c := by show cn (bt w) c + (if bt w c then 1 else 0) = _; rw [qb]; rfl
    refine ⟨fun u => absurd rfl u, fun _ => ?_⟩
    rw [nI_add]
    refine hL _ _ _ (by omega) ⟨c + 1, by omega, rfl, by rw [s1]; exact hci, by rw [s1], rfl, ?_⟩
    rw [← hf, qb]; rfl
  · have s1 : cn (bt w) (c + 1) = cn (bt w) c + 1 := by show cn (bt w) c + (if bt w c then 1 else 0) = _; rw [qb]; rfl
    refine ⟨fun _ => ?_, fun u => absurd u (by decide)⟩
    rw [nI_add, q_eq (by omega) (by omega)]
    rw [qb, Bool.true_and] at hf
    by_cases q : cn (bt w) c = i
    · rw [if_pos (decide_eq_true q)] at hf
      rw [← hf] at k
      exact ⟨fun u => absurd (by omega) u, fun _ => k⟩
    · rw [if_neg (by rw [decide_eq_false q]; decide)] at hf
      refine ⟨fun _ => ?_, fun u => absurd (by omega) q⟩
      rw [i_pm1 _ (by omega)]
      exact hL _ _ _ (by omega) ⟨c + 1, by omega, rfl, by omega, by rw [s1]; congr 1, rfl, hf⟩
theorem cn_le2 {p : Nat → Bool} {m : Nat} : ∀ n, m ≤ n → cn p m ≤ cn p n
  | 0, h => by rw [show m = 0 by omega]; exact Nat.le_refl _
  | n + 1, h => by
    by_cases e : m = n + 1
    · rw [e]; exact Nat.le_refl _
    · have := cn_le2 (p := p) (m := m) n (by omega)
      show _ ≤ cn p n + _
      omega
theorem sb_out {w : Int32} {t i : Nat} (h : cn (bt w) 20 ≤ t) (hi : t ≤ i) : sb w i = -nI 1 := by
  refine fstB_n _ _ (fun c _ hc => ?_)
  cases qb : bt w c
  · rfl
  · have s1 : cn (bt w) (c + 1) = cn (bt w) c + 1 := by show cn (bt w) c + (if bt w c then 1 else 0) = _; rw [qb]; rfl
    have := cn_le2 (p := bt w) (m := c + 1) 20 (by omega)
    rw [Bool.true_and]
    exact decide_eq_false (by omega)
theorem chs_eq {Y : Nat → Nat → Int32} {n l t : Nat} (ht : t ≤ 20) (v v' : Int32) : chs (wgh Y n l) t 0 (nI 0) (0, v) = chs (wgh Y n l) t 0 (nI 0) (0, v') := by
  have hp : ∀ s w, 1 ≤ (wgh Y n l s w).1 := by
    intro s w; unfold wgh; split
    · show 1 ≤ _ + 1; omega
    · omega
  have h := chs_rel (W := wgh Y n l) (fun s s' => s = s' ∨ (s.1 = 0 ∧ s'.1 = 0)) (fun s s' w r => by
    rcases r with r | ⟨r1, r2⟩
    · exact Or.inl (by rw [r])
    · left; unfold wgh; rw [r1, r2, if_pos (by omega), if_pos (by omega)]) t 0 (nI 0) (0, v) (0, v') (Or.inr ⟨rfl, rfl⟩)
  rcases h with h | h
  · exact h
  · have := chs_pos (W := wgh Y n l) hp t 0 (nI 0) (0, v) (by omega)
    omega
theorem chs_bits {Y : Nat → Nat → Int32} {n l t : Nat} (ht : t ≤ 20) (v : Int32) : cn (bt (chs (wgh Y n l) t 0 (nI 0) (0, v)).2) 20 ≤ t := by
  have hp : ∀ s w, 1 ≤ (wgh Y n l s w).1 := by
    intro s w; unfold wgh; split
    · show 1 ≤ _ + 1; omega
    · omega
  have h := chs_cn (W := wgh Y n l) (N := t) (fun s w => by unfold wgh; split <;> simp) t 0 (nI 0) (0, v) (Or.inl rfl) (by
    have : cn (bt (nI 0)) 20 = 0 := cn_0 (fun i _ => bt_z i)
    omega)
  have := chs_pos (W := wgh Y n l) hp t 0 (nI 0) (0, v) (by omega)
  rcases h with h | h
  · omega
  · exact h
theorem k234 {x y : ab_X} (h : InvA x) (e : ∀ c, c ≠ 241 → c ≠ 242 → c ≠ 234 → y.1 c = x.1 c) (e2 : y.2 = x.2) : InvA y ∧ keepM x.1 y.1 ∧ keepT x.1 y.1 := by
  have m : keepM x.1 y.1 := ⟨fun c q => e c (by unfold kM at q; omega) (by unfold kM at q; omega) (by unfold kM at q; omega), fun f q => by rw [e 246 (by decide) (by decide) (by decide)]⟩
  exact ⟨InvA_keep h ⟨fun c q => e c (by unfold kC at q; omega) (by unfold kC at q; omega) (by unfold kC at q; omega), by rw [e 158 (by decide) (by decide) (by decide)], fun c f p q => by rw [e (82 + c) (by omega) (by omega) (by omega)]⟩ m (fun k _ => by rw [e 268 (by decide) (by decide) (by decide)]) (by rw [e2]), m, fun c k q => by rw [e c (by unfold tk at q; omega) (by unfold tk at q; omega) (by unfold tk at q; omega)]⟩
theorem k328 {x y : ab_X} (h : InvA x) (e : ∀ c, c ≠ 328 → c ≠ 246 → y.1 c = x.1 c) (e1 : ∀ f, f ≠ 0 → f ≠ 109 → f ≠ 110 → y.1 246 f = x.1 246 f) (e2 : y.2 = x.2) : InvA y ∧ keepT x.1 y.1 := by
  have m : keepM x.1 y.1 := ⟨fun c q => e c (by unfold kM at q; omega) (by unfold kM at q; omega), fun f q => e1 f (by unfold kS at q; omega) (by unfold kS at q; omega) (by unfold kS at q; omega)⟩
  refine ⟨InvA_keep h ⟨fun c q => e c (by unfold kC at q; omega) (by unfold kC at q; omega), by rw [e 158 (by decide) (by decide)], fun c f p q => by rw [e (82 + c) (by omega) (by omega)]⟩ m (fun k _ => by rw [e 268 (by decide) (by decide)]) (by rw [e2]), fun c k q => ?_⟩
  by_cases h6 : c = 246
  · subst h6
    exact e1 k (by unfold tk at q; omega) (by unfold tk at q; omega) (by unfold tk at q; omega)
  · rw [e c (by unfold tk at q; omega) h6]
theorem p_plan {x : ab_X} {a b : Int32} (h : InvA x) {K : ab_X → Prop} (hk : ∀ z, InvA z → keepT x.1 z.1 → K z) :
    wX11_plan a b x (fun r y => wX12_plan a b y (fun r' z => r = r' ∧ K z)) := by
  unfold wX11_plan
  rcases jr_d a (lo := 1) (hi := 4) (by omega) (by omega) with e | ⟨t, t1, t4, rfl⟩
  · unfold wX12_plan wX12_findPlan
    simp (disch := first | assumption | omega) only [prv_n, nxt_n, q_sw, mc4, mc6, mc8, mc20, mc24, mc100, nv_rd, nb_rd, wr_rd, nI_lit, nI_add, pk_mul, pk_sub, q_div, cl_nI, vpi, q_eq, q_le, q_lt, n1_eq, n1_eq', n1_le, n1_lt, n1_ge, n1_gt, i_0m1, nlt_t, nlt_f, nle_t, nle_f, neq_f, f_below, f_within, f_isCorner, f_isIn, f_isCornerM, f_isStreet, f_isHouse, f_isCrew, f_isRow, f_has10, f_has0, jx_I, jx_N, jx_m1, jr_I, jr_N1, jr_N2, wr_2, isB_0, isB_1, true_and, and_true, and_self, false_and, and_false, true_or, or_true, false_or, or_false, not_true_eq_false, not_false_eq_true, forall_const, implies_true, false_implies, ne_eq, eq_self, if_true, if_false, Nat.zero_add, Nat.add_zero, Nat.mul_zero, Nat.zero_mul, Nat.mul_one, Nat.one_mul, Nat.add_sub_cancel, Nat.reduceEqDiff, Nat.reduceAdd, Nat.reduceMul, Nat.reduceSub, Nat.reduceLeDiff, Nat.reduceLT, Nat.reduceDiv, Nat.reduceMod, e]
    exact hk _ (InvA_th h) keepT_th
  rcases jr_d b (lo := 1) (hi := 100) (by omega) (by omega) with e | ⟨l, l1, l4, rfl⟩
  · unfold wX12_plan wX12_findPlan
    simp (disch := first | assumption | omega) only [prv_n, nxt_n, q_sw, mc4, mc6, mc8, mc20, mc24, mc100, nv_rd, nb_rd, wr_rd, nI_lit, nI_add, pk_mul, pk_sub, q_div, cl_nI, vpi, q_eq, q_le, q_lt, n1_eq, n1_eq', n1_le, n1_lt, n1_ge, n1_gt, i_0m1, nlt_t, nlt_f, nle_t, nle_f, neq_f, f_below, f_within, f_isCorner, f_isIn, f_isCornerM, f_isStreet, f_isHouse, f_isCrew, f_isRow, f_has10, f_has0, jx_I, jx_N, jx_m1, jr_I, jr_N1, jr_N2, wr_2, isB_0, isB_1, true_and, and_true, and_self, false_and, and_false, true_or, or_true, false_or, or_false, not_true_eq_false, not_false_eq_true, forall_const, implies_true, false_implies, ne_eq, eq_self, if_true, if_false, Nat.zero_add, Nat.add_zero, Nat.mul_zero, Nat.zero_mul, Nat.mul_one, Nat.one_mul, Nat.add_sub_cancel, Nat.reduceEqDiff, Nat.reduceAdd, Nat.reduceMul, Nat.reduceSub, Nat.reduceLeDiff, Nat.reduceLT, Nat.reduceDiv, Nat.reduceMod, e]
    exact hk _ (InvA_th h) keepT_th
  simp (disch := first | assumption | omega) only [prv_n, nxt_n, q_sw, mc4, mc6, mc8, mc20, mc24, mc100, nv_rd, nb_rd, wr_rd, nI_lit, nI_add, pk_mul, pk_sub, q_div, cl_nI, vpi, q_eq, q_le, q_lt, n1_eq, n1_eq', n1_le, n1_lt, n1_ge, n1_gt, i_0m1, nlt_t, nlt_f, nle_t, nle_f, neq_f, f_below, f_within, f_isCorner, f_isIn, f_isCornerM, f_isStreet, f_isHouse, f_isCrew, f_isRow, f_has10, f_has0, jx_I, jx_N, jx_m1, jr_I, jr_N1, jr_N2, wr_2, isB_0, isB_1, true_and, and_true, and_self, false_and, and_false, true_or, or_true, false_or, or_false, not_true_eq_false, not_false_eq_true, forall_const, implies_true, false_implies, ne_eq, eq_self, if_true, if_false, Nat.zero_add, Nat.add_zero, Nat.mul_zero, Nat.zero_mul, Nat.mul_one, Nat.one_mul, Nat.add_sub_cancel, Nat.reduceEqDiff, Nat.reduceAdd, Nat.reduceMul, Nat.reduceSub, Nat.reduceLeDiff, Nat.reduceLT, Nat.reduceDiv, Nat.reduceMod]
  refine c_make h.1 h.2 t4 l4 (fun y y1 y2 y3 y4 => ?_)
  obtain ⟨iy, my, ty⟩ := k234 h y1 y2
  unfold wX12_plan
  refine m_find my h.2 t4 t1 l4 l1 (fun z z1 z2 z3 z4 z5 => ⟨fun u => absurd u (by decide), fun _ => ?_⟩)
  obtain ⟨iz, tz⟩ := k328 iy z1 z2 z3
  rw [chs_eq (by omega) _ (nI 0)] at z4
  exact ⟨y3.trans z4.symm, hk _ iz (ty.tr tz)⟩
theorem p_planned {x : ab_X} {a b c : Int32} (h : InvA x) {K : ab_X → Prop} (hk : ∀ z, InvA z → keepT x.1 z.1 → K z) :
    wX11_planned a b c x (fun r y => wX12_planned a b c y (fun r' z => r = r' ∧ K z)) := by
  unfold wX11_planned
  rcases jr_d a (lo := 1) (hi := 4) (by omega) (by omega) with e | ⟨t, t1, t4, rfl⟩
  · unfold wX12_planned wX12_findPlan
    simp (disch := first | assumption | omega) only [prv_n, nxt_n, q_sw, mc4, mc6, mc8, mc20, mc24, mc100, nv_rd, nb_rd, wr_rd, nI_lit, nI_add, pk_mul, pk_sub, q_div, cl_nI, vpi, q_eq, q_le, q_lt, n1_eq, n1_eq', n1_le, n1_lt, n1_ge, n1_gt, i_0m1, nlt_t, nlt_f, nle_t, nle_f, neq_f, f_below, f_within, f_isCorner, f_isIn, f_isCornerM, f_isStreet, f_isHouse, f_isCrew, f_isRow, f_has10, f_has0, jx_I, jx_N, jx_m1, jr_I, jr_N1, jr_N2, wr_2, isB_0, isB_1, true_and, and_true, and_self, false_and, and_false, true_or, or_true, false_or, or_false, not_true_eq_false, not_false_eq_true, forall_const, implies_true, false_implies, ne_eq, eq_self, if_true, if_false, Nat.zero_add, Nat.add_zero, Nat.mul_zero, Nat.zero_mul, Nat.mul_one, Nat.one_mul, Nat.add_sub_cancel, Nat.reduceEqDiff, Nat.reduceAdd, Nat.reduceMul, Nat.reduceSub, Nat.reduceLeDiff, Nat.reduceLT, Nat.reduceDiv, Nat.reduceMod, e]
    exact hk _ (InvA_th h) keepT_th
  rcases jr_d b (lo := 1) (hi := 100) (by omega) (by omega) with e | ⟨l, l1, l4, rfl⟩
  · unfold wX12_planned wX12_findPlan
    simp (disch := first | assumption | omega) only [prv_n, nxt_n, q_sw, mc4, mc6, mc8, mc20, mc24, mc100, nv_rd, nb_rd, wr_rd, nI_lit, nI_add, pk_mul, pk_sub, q_div, cl_nI, vpi, q_eq, q_le, q_lt, n1_eq, n1_eq', n1_le, n1_lt, n1_ge, n1_gt, i_0m1, nlt_t, nlt_f, nle_t, nle_f, neq_f, f_below, f_within, f_isCorner, f_isIn, f_isCornerM, f_isStreet, f_isHouse, f_isCrew, f_isRow, f_has10, f_has0, jx_I, jx_N, jx_m1, jr_I, jr_N1, jr_N2, wr_2, isB_0, isB_1, true_and, and_true, and_self, false_and, and_false, true_or, or_true, false_or, or_false, not_true_eq_false, not_false_eq_true, forall_const, implies_true, false_implies, ne_eq, eq_self, if_true, if_false, Nat.zero_add, Nat.add_zero, Nat.mul_zero, Nat.zero_mul, Nat.mul_one, Nat.one_mul, Nat.add_sub_cancel, Nat.reduceEqDiff, Nat.reduceAdd, Nat.reduceMul, Nat.reduceSub, Nat.reduceLeDiff, Nat.reduceLT, Nat.reduceDiv, Nat.reduceMod, e]
    exact hk _ (InvA_th h) keepT_th
  rcases jx_d c (n := t) (by omega) with e | ⟨i, hi, rfl⟩
  · simp (disch := first | assumption | omega) only [prv_n, nxt_n, q_sw, mc4, mc6, mc8, mc20, mc24, mc100, nv_rd, nb_rd, wr_rd, nI_lit, nI_add, pk_mul, pk_sub, q_div, cl_nI, vpi, q_eq, q_le, q_lt, n1_eq, n1_eq', n1_le, n1_lt, n1_ge, n1_gt, i_0m1, nlt_t, nlt_f, nle_t, nle_f, neq_f, f_below, f_within, f_isCorner, f_isIn, f_isCornerM, f_isStreet, f_isHouse, f_isCrew, f_isRow, f_has10, f_has0, jx_I, jx_N, jx_m1, jr_I, jr_N1, jr_N2, wr_2, isB_0, isB_1, true_and, and_true, and_self, false_and, and_false, true_or, or_true, false_or, or_false, not_true_eq_false, not_false_eq_true, forall_const, implies_true, false_implies, ne_eq, eq_self, if_true, if_false, Nat.zero_add, Nat.add_zero, Nat.mul_zero, Nat.zero_mul, Nat.mul_one, Nat.one_mul, Nat.add_sub_cancel, Nat.reduceEqDiff, Nat.reduceAdd, Nat.reduceMul, Nat.reduceSub, Nat.reduceLeDiff, Nat.reduceLT, Nat.reduceDiv, Nat.reduceMod, e]
    unfold wX12_planned
    refine m_find keepM.rfl' h.2 t4 t1 l4 l1 (fun z z1 z2 z3 z4 z5 => ⟨fun u => absurd u (by decide), fun _ => ?_⟩)
    obtain ⟨iz, tz⟩ := k328 h z1 z2 z3
    refine ⟨fun q => ?_, fun _ => ⟨rfl, hk _ iz tz⟩⟩
    have q' : ¬ c < 0 := Int32.not_lt.mpr q
    obtain ⟨i, hi, rfl⟩ := nI_of q'
    have ti : t ≤ i := by
      by_cases u : i < t
      · rw [jx_I u (by omega)] at e
        exact absurd e (by decide)
      · omega
    refine m_bitAt hi z5 ?_
    rw [sb_out (chs_bits (by omega) _) ti]
    exact ⟨rfl, hk _ iz tz⟩
  simp (disch := first | assumption | omega) only [prv_n, nxt_n, q_sw, mc4, mc6, mc8, mc20, mc24, mc100, nv_rd, nb_rd, wr_rd, nI_lit, nI_add, pk_mul, pk_sub, q_div, cl_nI, vpi, q_eq, q_le, q_lt, n1_eq, n1_eq', n1_le, n1_lt, n1_ge, n1_gt, i_0m1, nlt_t, nlt_f, nle_t, nle_f, neq_f, f_below, f_within, f_isCorner, f_isIn, f_isCornerM, f_isStreet, f_isHouse, f_isCrew, f_isRow, f_has10, f_has0, jx_I, jx_N, jx_m1, jr_I, jr_N1, jr_N2, wr_2, isB_0, isB_1, true_and, and_true, and_self, false_and, and_false, true_or, or_true, false_or, or_false, not_true_eq_false, not_false_eq_true, forall_const, implies_true, false_implies, ne_eq, eq_self, if_true, if_false, Nat.zero_add, Nat.add_zero, Nat.mul_zero, Nat.zero_mul, Nat.mul_one, Nat.one_mul, Nat.add_sub_cancel, Nat.reduceEqDiff, Nat.reduceAdd, Nat.reduceMul, Nat.reduceSub, Nat.reduceLeDiff, Nat.reduceLT, Nat.reduceDiv, Nat.reduceMod]
  refine c_make h.1 h.2 t4 l4 (fun y y1 y2 y3 y4 => ?_)
  obtain ⟨iy, my, ty⟩ := k234 h y1 y2
  rw [y4]
  refine c_bitAt (by omega) ?_
  unfold wX12_planned
  refine m_find my h.2 t4 t1 l4 l1 (fun z z1 z2 z3 z4 z5 => ⟨fun u => absurd u (by decide), fun _ => ?_⟩)
  obtain ⟨iz, tz⟩ := k328 iy z1 z2 z3
  rw [chs_eq (by omega) _ (nI 0)] at z5
  refine ⟨fun _ => m_bitAt (by omega) z5 ⟨rfl, hk _ iz (ty.tr tz)⟩, fun q => absurd ?_ q⟩
  exact (q_le (a := 0) (b := i) (by omega) (by omega)).mpr (by omega)
