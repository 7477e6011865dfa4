/-! COMING: the reference. -/
def MRc (x y : ab_X) (B : Nat → Nat → Bool) : Prop := (∀ c, c ≠ 253 → y.1 c = x.1 c) ∧ y.2 = x.2 ∧ ∀ t c, t ≤ 600 → c < 20 → y.1 253 (20 * t + c) = bb (B t c)
theorem MRc_ad {x y : ab_X} {B : Nat → Nat → Bool} {t c : Nat} (h : MRc x y B) (hc : c < 20) : MRc x (wr y 253 (20 * t + c) (nI 1)) (adB B t c) := by
  refine ⟨fun d hd => by rw [wr_n hd]; exact h.1 d hd, h.2.1, fun t' c' ht hc' => ?_⟩
  unfold adB
  by_cases e : t' = t ∧ c' = c
  · rw [e.1, e.2, wr_e, decide_eq_true rfl, decide_eq_true rfl]
    simp [bb_t]
  · rw [wr_k (by omega), h.2.2 t' c' ht hc']
    have : (decide (t' = t) && decide (c' = c)) = false := by
      cases q : (decide (t' = t) && decide (c' = c))
      · rfl
      · rw [Bool.and_eq_true] at q
        exact absurd ⟨of_decide_eq_true q.1, of_decide_eq_true q.2⟩ e
    rw [this, Bool.or_false]
theorem MRc.m {x y : ab_X} {B : Nat → Nat → Bool} {Y : Nat → Nat → Int32} (h : MRc x y B) (m : keepM Y x.1) : keepM Y y.1 := ⟨fun c q => by rw [h.1 c (by unfold kM at q; omega)]; exact m.1 c q, fun f q => by rw [h.1 246 (by decide)]; exact m.2 f q⟩
theorem m_spr {x : ab_X} {Y : Nat → Nat → Int32} (mm : keepM Y x.1) (w : WW Y) {to mi v m p : Nat} {B : Nat → Nat → Bool} (hp : p < 4) (hv : 50 ≤ v) (hv2 : v ≤ 300) (hm : m ≤ 600) {K : Int32 → ab_X → Prop} {L : Int32 → ab_X → Prop} {y0 : ab_X} (h0 : MRc x y0 B) (hl : ∀ y, MRc x y (spr Y v m p (B m) (nv Y 246 9) B) → L (nI (m + 1)) y) : Lp2 (lX12_comeBy_75 (nI to) (nI mi) (nI v) (nI m) (nI p) K L) 0 y0 := by
  have b9 := w.b9
  refine Lp2.ind (fun i a y => ∃ s, s ≤ nv Y 246 9 ∧ i = nv Y 246 9 - s ∧ a = nI s ∧ MRc x y (spr Y v m p (B m) s B)) (nv Y 246 9) ⟨0, by omega, by omega, rfl, h0⟩ ?_
  rintro i a y ⟨s, hs, rfl, rfl, hy⟩ L2 hL
  have my := hy.m mm
  unfold lX12_comeBy_75 wX12_comeBy_147 wX12_comeBy_218
  by_cases e : s = nv Y 246 9
  · simp (disch := first | assumption | omega) only [prv_n, nxt_n, q_sw, mc4, mc6, mc8, mc20, mc24, mc100, nv_rd, nb_rd, wr_rd, nI_lit, nI_add, pk_mul, pk_sub, q_div, cl_nI, vpi, q_eq, q_le, q_lt, n1_eq, n1_eq', n1_le, n1_lt, n1_ge, n1_gt, i_0m1, nlt_t, nlt_f, nle_t, nle_f, neq_f, f_below, f_within, f_isCorner, f_isIn, f_isCornerM, f_isStreet, f_isHouse, f_isCrew, f_isRow, f_has10, f_has0, jx_I, jx_N, jx_m1, jr_I, jr_N1, jr_N2, wr_2, isB_0, isB_1, true_and, and_true, and_self, false_and, and_false, true_or, or_true, false_or, or_false, not_true_eq_false, not_false_eq_true, forall_const, implies_true, false_implies, ne_eq, eq_self, if_true, if_false, Nat.zero_add, Nat.add_zero, Nat.mul_zero, Nat.zero_mul, Nat.mul_one, Nat.one_mul, Nat.add_sub_cancel, Nat.reduceEqDiff, Nat.reduceAdd, Nat.reduceMul, Nat.reduceSub, Nat.reduceLeDiff, Nat.reduceLT, Nat.reduceDiv, Nat.reduceMod, my.s9, w.v9]
    exact hl y (e ▸ hy)
  have hs2 : s < nv Y 246 9 := by omega
  obtain ⟨w1, w2, w3, -⟩ := w.st.1 s hs2
  obtain ⟨w5, -⟩ := w.st.2.2 (4 * s + p) (by omega)
  have u1 := w1.2
  have u2 := w2.2
  obtain ⟨c1, c2, c3, c4⟩ := cst_b w hs2 hp hv hv2
  have go : ∀ z, MRc x z (spr Y v m p (B m) (s + 1) B) → L2 (nI (s + 1)) z := fun z hz => hL _ _ _ (by omega) ⟨s + 1, by omega, rfl, rfl, hz⟩
  rw [spr_s] at go
  have e1 : y.1 253 (20 * m + nv Y 247 s) = bb (B m (nv Y 247 s)) := by rw [hy.2.2 m _ hm (by omega), spr_row w hp hv hv2 (by omega) m _ (Nat.le_refl _)]
  have e2 : y.1 253 (20 * m + nv Y 248 s) = bb (B m (nv Y 248 s)) := by rw [hy.2.2 m _ hm (by omega), spr_row w hp hv hv2 (by omega) m _ (Nat.le_refl _)]
  have ec : (nv Y 249 s * nv Y 250 (4 * s + p) * v + 9999) / 10000 = cst Y s p v := rfl
  by_cases q : Y 252 s = nI 0
  case neg =>
    unfold spS at go
    rw [if_neg (fun u => q u.1)] at go
    simp (disch := first | assumption | omega) only [prv_n, nxt_n, q_sw, mc4, mc6, mc8, mc20, mc24, mc100, nv_rd, nb_rd, wr_rd, nI_lit, nI_add, pk_mul, pk_sub, q_div, cl_nI, vpi, q_eq, q_le, q_lt, n1_eq, n1_eq', n1_le, n1_lt, n1_ge, n1_gt, i_0m1, nlt_t, nlt_f, nle_t, nle_f, neq_f, f_below, f_within, f_isCorner, f_isIn, f_isCornerM, f_isStreet, f_isHouse, f_isCrew, f_isRow, f_has10, f_has0, jx_I, jx_N, jx_m1, jr_I, jr_N1, jr_N2, wr_2, isB_0, isB_1, true_and, and_true, and_self, false_and, and_false, true_or, or_true, false_or, or_false, not_true_eq_false, not_false_eq_true, forall_const, implies_true, false_implies, ne_eq, eq_self, if_true, if_false, Nat.zero_add, Nat.add_zero, Nat.mul_zero, Nat.zero_mul, Nat.mul_one, Nat.one_mul, Nat.add_sub_cancel, Nat.reduceEqDiff, Nat.reduceAdd, Nat.reduceMul, Nat.reduceSub, Nat.reduceLeDiff, Nat.reduceLT, Nat.reduceDiv, Nat.reduceMod, my.s9, w.v9, my.c247, w1.1, my.c248, w2.1, my.c252, q]
    exact go y hy
  by_cases q2 : m + cst Y s p v ≤ 600
  case neg =>
    unfold spS at go
    rw [if_neg (fun u => q2 u.2)] at go
    cases r1 : B m (nv Y 247 s) <;> cases r2 : B m (nv Y 248 s)
    all_goals
      rw [r1] at e1
      rw [r2] at e2
      simp (disch := first | assumption | omega) only [prv_n, nxt_n, q_sw, mc4, mc6, mc8, mc20, mc24, mc100, nv_rd, nb_rd, wr_rd, nI_lit, nI_add, pk_mul, pk_sub, q_div, cl_nI, vpi, q_eq, q_le, q_lt, n1_eq, n1_eq', n1_le, n1_lt, n1_ge, n1_gt, i_0m1, nlt_t, nlt_f, nle_t, nle_f, neq_f, f_below, f_within, f_isCorner, f_isIn, f_isCornerM, f_isStreet, f_isHouse, f_isCrew, f_isRow, f_has10, f_has0, jx_I, jx_N, jx_m1, jr_I, jr_N1, jr_N2, wr_2, isB_0, isB_1, true_and, and_true, and_self, false_and, and_false, true_or, or_true, false_or, or_false, not_true_eq_false, not_false_eq_true, forall_const, implies_true, false_implies, ne_eq, eq_self, if_true, if_false, Nat.zero_add, Nat.add_zero, Nat.mul_zero, Nat.zero_mul, Nat.mul_one, Nat.one_mul, Nat.add_sub_cancel, Nat.reduceEqDiff, Nat.reduceAdd, Nat.reduceMul, Nat.reduceSub, Nat.reduceLeDiff, Nat.reduceLT, Nat.reduceDiv, Nat.reduceMod, my.s9, w.v9, my.c247, w1.1, my.c248, w2.1, my.c252, q, e1, e2, bb_t, bb_f, my.c249, w3.1, my.c250, w5.1, ec]
      exact go y hy
  unfold spS at go
  rw [if_pos ⟨q, q2⟩] at go
  cases r1 : B m (nv Y 247 s) <;> cases r2 : B m (nv Y 248 s)
  all_goals
    rw [r1] at e1
    rw [r2] at e2
    simp only [r1, r2, if_true, if_false, Bool.false_eq_true] at go
    simp (disch := first | assumption | omega) only [prv_n, nxt_n, q_sw, mc4, mc6, mc8, mc20, mc24, mc100, nv_rd, nb_rd, wr_rd, nI_lit, nI_add, pk_mul, pk_sub, q_div, cl_nI, vpi, q_eq, q_le, q_lt, n1_eq, n1_eq', n1_le, n1_lt, n1_ge, n1_gt, i_0m1, nlt_t, nlt_f, nle_t, nle_f, neq_f, f_below, f_within, f_isCorner, f_isIn, f_isCornerM, f_isStreet, f_isHouse, f_isCrew, f_isRow, f_has10, f_has0, jx_I, jx_N, jx_m1, jr_I, jr_N1, jr_N2, wr_2, isB_0, isB_1, true_and, and_true, and_self, false_and, and_false, true_or, or_true, false_or, or_false, not_true_eq_false, not_false_eq_true, forall_const, implies_true, false_implies, ne_eq, eq_self, if_true, if_false, Nat.zero_add, Nat.add_zero, Nat.mul_zero, Nat.zero_mul, Nat.mul_one, Nat.one_mul, Nat.add_sub_cancel, Nat.reduceEqDiff, Nat.reduceAdd, Nat.reduceMul, Nat.reduceSub, Nat.reduceLeDiff, Nat.reduceLT, Nat.reduceDiv, Nat.reduceMod, my.s9, w.v9, my.c247, w1.1, my.c248, w2.1, my.c252, q, e1, e2, bb_t, bb_f, my.c249, w3.1, my.c250, w5.1, ec]
  · exact go y hy
  · exact go _ (MRc_ad hy (by omega))
  · exact go _ (MRc_ad hy (by omega))
  · exact go _ (MRc_ad (MRc_ad hy (by omega)) (by omega))
theorem m_come {x : ab_X} {Y : Nat → Nat → Int32} (mm : keepM Y x.1) (w : WW Y) {fr to mi v : Nat} (hf : fr < 20) (ht : to < 20) (hmi : mi ≤ 30000) (hv : 50 ≤ v) (hv2 : v ≤ 300) {K : Int32 → ab_X → Prop} (k : ∀ y, (∀ c, c ≠ 253 → y.1 c = x.1 c) → y.2 = x.2 → K (cmr Y fr to mi v) y) : wX12_comeBy (nI fr) (nI to) (nI mi) (nI v) x K := by
  unfold wX12_comeBy
  refine Lp2.ind (fun i a y => ∃ s, s ≤ 12020 ∧ i = 12020 - s ∧ a = nI s ∧ (∀ c, c ≠ 253 → y.1 c = x.1 c) ∧ y.2 = x.2 ∧ ∀ j, j < s → y.1 253 j = nI 0) 12020 ⟨0, by omega, by omega, rfl, fun _ _ => rfl, rfl, fun j hj => by omega⟩ ?_
  rintro i a y ⟨s, hs, rfl, rfl, hy1, hy2, hy3⟩ L hL
  unfold lX12_comeBy_3
  by_cases e : s = 12020
  case neg =>
    simp (disch := first | assumption | omega) only [prv_n, nxt_n, q_sw, mc4, mc6, mc8, mc20, mc24, mc100, nv_rd, nb_rd, wr_rd, nI_lit, nI_add, pk_mul, pk_sub, q_div, cl_nI, vpi, q_eq, q_le, q_lt, n1_eq, n1_eq', n1_le, n1_lt, n1_ge, n1_gt, i_0m1, nlt_t, nlt_f, nle_t, nle_f, neq_f, f_below, f_within, f_isCorner, f_isIn, f_isCornerM, f_isStreet, f_isHouse, f_isCrew, f_isRow, f_has10, f_has0, jx_I, jx_N, jx_m1, jr_I, jr_N1, jr_N2, wr_2, isB_0, isB_1, true_and, and_true, and_self, false_and, and_false, true_or, or_true, false_or, or_false, not_true_eq_false, not_false_eq_true, forall_const, implies_true, false_implies, ne_eq, eq_self, if_true, if_false, Nat.zero_add, Nat.add_zero, Nat.mul_zero, Nat.zero_mul, Nat.mul_one, Nat.one_mul, Nat.add_sub_cancel, Nat.reduceEqDiff, Nat.reduceAdd, Nat.reduceMul, Nat.reduceSub, Nat.reduceLeDiff, Nat.reduceLT, Nat.reduceDiv, Nat.reduceMod]
    refine hL _ _ _ (by omega) ⟨s + 1, by omega, rfl, rfl, fun c hc => by rw [wr_n hc]; exact hy1 c hc, hy2, fun j hj => ?_⟩
    by_cases q : j = s
    · subst q; exact wr_e
    · rw [wr_k q]; exact hy3 j (by omega)
  · simp (disch := first | assumption | omega) only [prv_n, nxt_n, q_sw, mc4, mc6, mc8, mc20, mc24, mc100, nv_rd, nb_rd, wr_rd, nI_lit, nI_add, pk_mul, pk_sub, q_div, cl_nI, vpi, q_eq, q_le, q_lt, n1_eq, n1_eq', n1_le, n1_lt, n1_ge, n1_gt, i_0m1, nlt_t, nlt_f, nle_t, nle_f, neq_f, f_below, f_within, f_isCorner, f_isIn, f_isCornerM, f_isStreet, f_isHouse, f_isCrew, f_isRow, f_has10, f_has0, jx_I, jx_N, jx_m1, jr_I, jr_N1, jr_N2, wr_2, isB_0, isB_1, true_and, and_true, and_self, false_and, and_false, true_or, or_true, false_or, or_false, not_true_eq_false, not_false_eq_true, forall_const, implies_true, false_implies, ne_eq, eq_self, if_true, if_false, Nat.zero_add, Nat.add_zero, Nat.mul_zero, Nat.zero_mul, Nat.mul_one, Nat.one_mul, Nat.add_sub_cancel, Nat.reduceEqDiff, Nat.reduceAdd, Nat.reduceMul, Nat.reduceSub, Nat.reduceLeDiff, Nat.reduceLT, Nat.reduceDiv, Nat.reduceMod]
    have h0 : MRc x (wr y 253 fr (nI 1)) (Am Y v mi fr 0) := by
      refine ⟨fun c hc => by rw [wr_n hc]; exact hy1 c hc, hy2, fun t c h1 h2 => ?_⟩
      show _ = bb (decide (t = 0) && decide (c = fr))
      by_cases q : t = 0 ∧ c = fr
      · rw [q.1, q.2, Nat.mul_zero, Nat.zero_add, wr_e]; simp [bb_t]
      · have ff : (decide (t = 0) && decide (c = fr)) = false := by
          cases q' : (decide (t = 0) && decide (c = fr))
          · rfl
          · rw [Bool.and_eq_true] at q'
            exact absurd ⟨of_decide_eq_true q'.1, of_decide_eq_true q'.2⟩ q
        rw [ff, wr_k (by omega), hy3 _ (by omega)]; rfl
    refine Lp2.ind (fun i a y => ∃ m, m ≤ 601 ∧ i = 601 - m ∧ a = nI m ∧ MRc x y (Am Y v mi fr m) ∧ ∀ m', m' < m → Am Y v mi fr m' m' to = false) 601 ⟨0, by omega, by omega, rfl, h0, fun m' h => by omega⟩ ?_
    rintro i a z ⟨m, hm, rfl, rfl, hz, no⟩ L2 hL2
    unfold lX12_comeBy_35 wX12_partOf
    by_cases e : m = 601
    · simp (disch := first | assumption | omega) only [prv_n, nxt_n, q_sw, mc4, mc6, mc8, mc20, mc24, mc100, nv_rd, nb_rd, wr_rd, nI_lit, nI_add, pk_mul, pk_sub, q_div, cl_nI, vpi, q_eq, q_le, q_lt, n1_eq, n1_eq', n1_le, n1_lt, n1_ge, n1_gt, i_0m1, nlt_t, nlt_f, nle_t, nle_f, neq_f, f_below, f_within, f_isCorner, f_isIn, f_isCornerM, f_isStreet, f_isHouse, f_isCrew, f_isRow, f_has10, f_has0, jx_I, jx_N, jx_m1, jr_I, jr_N1, jr_N2, wr_2, isB_0, isB_1, true_and, and_true, and_self, false_and, and_false, true_or, or_true, false_or, or_false, not_true_eq_false, not_false_eq_true, forall_const, implies_true, false_implies, ne_eq, eq_self, if_true, if_false, Nat.zero_add, Nat.add_zero, Nat.mul_zero, Nat.zero_mul, Nat.mul_one, Nat.one_mul, Nat.add_sub_cancel, Nat.reduceEqDiff, Nat.reduceAdd, Nat.reduceMul, Nat.reduceSub, Nat.reduceLeDiff, Nat.reduceLT, Nat.reduceDiv, Nat.reduceMod]
      have : cmr Y fr to mi v = -nI 1 := by
        unfold cmr
        rw [if_pos (fstB_no (fun j h1 h2 => no j (by omega)))]
      rw [← this]
      exact k z hz.1 hz.2.1
    have e1 := hz.2.2 m to (by omega) ht
    cases r : Am Y v mi fr m m to
    · rw [r] at e1
      simp (disch := first | assumption | omega) only [prv_n, nxt_n, q_sw, mc4, mc6, mc8, mc20, mc24, mc100, nv_rd, nb_rd, wr_rd, nI_lit, nI_add, pk_mul, pk_sub, q_div, cl_nI, vpi, q_eq, q_le, q_lt, n1_eq, n1_eq', n1_le, n1_lt, n1_ge, n1_gt, i_0m1, nlt_t, nlt_f, nle_t, nle_f, neq_f, f_below, f_within, f_isCorner, f_isIn, f_isCornerM, f_isStreet, f_isHouse, f_isCrew, f_isRow, f_has10, f_has0, jx_I, jx_N, jx_m1, jr_I, jr_N1, jr_N2, wr_2, isB_0, isB_1, true_and, and_true, and_self, false_and, and_false, true_or, or_true, false_or, or_false, not_true_eq_false, not_false_eq_true, forall_const, implies_true, false_implies, ne_eq, eq_self, if_true, if_false, Nat.zero_add, Nat.add_zero, Nat.mul_zero, Nat.zero_mul, Nat.mul_one, Nat.one_mul, Nat.add_sub_cancel, Nat.reduceEqDiff, Nat.reduceAdd, Nat.reduceMul, Nat.reduceSub, Nat.reduceLeDiff, Nat.reduceLT, Nat.reduceDiv, Nat.reduceMod, e1, bb_f]
      have pl := pN_lt (mi + m)
      unfold pN at pl
      refine m_spr (m := m) mm w pl hv hv2 (by omega) hz (fun y' hy' => ?_)
      refine hL2 _ _ _ (by omega) ⟨m + 1, by omega, rfl, rfl, hy', fun m' hm' => ?_⟩
      by_cases q : m' = m
      · subst q; exact r
      · exact no m' (by omega)
    · rw [r] at e1
      simp (disch := first | assumption | omega) only [prv_n, nxt_n, q_sw, mc4, mc6, mc8, mc20, mc24, mc100, nv_rd, nb_rd, wr_rd, nI_lit, nI_add, pk_mul, pk_sub, q_div, cl_nI, vpi, q_eq, q_le, q_lt, n1_eq, n1_eq', n1_le, n1_lt, n1_ge, n1_gt, i_0m1, nlt_t, nlt_f, nle_t, nle_f, neq_f, f_below, f_within, f_isCorner, f_isIn, f_isCornerM, f_isStreet, f_isHouse, f_isCrew, f_isRow, f_has10, f_has0, jx_I, jx_N, jx_m1, jr_I, jr_N1, jr_N2, wr_2, isB_0, isB_1, true_and, and_true, and_self, false_and, and_false, true_or, or_true, false_or, or_false, not_true_eq_false, not_false_eq_true, forall_const, implies_true, false_implies, ne_eq, eq_self, if_true, if_false, Nat.zero_add, Nat.add_zero, Nat.mul_zero, Nat.zero_mul, Nat.mul_one, Nat.one_mul, Nat.add_sub_cancel, Nat.reduceEqDiff, Nat.reduceAdd, Nat.reduceMul, Nat.reduceSub, Nat.reduceLeDiff, Nat.reduceLT, Nat.reduceDiv, Nat.reduceMod, e1, bb_t]
      have f := fstB_yes (p := fun m => Am Y v mi fr m m to) (i := 0) (n := 601) (Nat.zero_le m) (by omega) r (fun j _ h => no j h)
      have : cmr Y fr to mi v = nI (mi + m) := by
        unfold cmr
        rw [f, if_neg (n1_eq' (by omega)).mp, nI_add]
      rw [← this]
      exact k z hz.1 hz.2.1
