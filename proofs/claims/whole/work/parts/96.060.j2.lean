/-! mark; light. -/
def opB (Y : Nat → Nat → Int32) (c : Int32) (k : Nat) : Bool := decide (Y 310 k = c) && decide (Y 312 k = nI 0)
theorem opB_t {Y : Nat → Nat → Int32} {c : Int32} {k : Nat} : opB Y c k = true ↔ (Y 310 k = c ∧ Y 312 k = nI 0) := by unfold opB; rw [Bool.and_eq_true, decide_eq_true_eq, decide_eq_true_eq]
def oaI (Y : Nat → Nat → Int32) (c : Int32) : Int32 := fstB (opB Y c) 0 (nv Y 246 92)
theorem m_openAt {x s : ab_X} {c : Int32} (m : keepM s.1 x.1) (v92 : s.1 246 92 = nI (nv s.1 246 92)) (b92 : nv s.1 246 92 ≤ 60) {K : Int32 → Prop} (k : K (oaI s.1 c)) : wX12_openAt c x K := by
  unfold wX12_openAt
  refine Lp1.ind (fun i a => ∃ j, j ≤ nv s.1 246 92 ∧ i = nv s.1 246 92 - j ∧ a = nI j ∧ ∀ h, h < j → opB s.1 c h = false) (nv s.1 246 92) ⟨0, by omega, by omega, rfl, fun h hh => by omega⟩ ?_
  rintro i a ⟨j, hj, rfl, rfl, z⟩ L hL
  unfold lX12_openAt_2
  by_cases e : j = nv s.1 246 92
  · have : oaI s.1 c = -nI 1 := fstB_no (fun h _ h2 => z h (by omega))
    rw [this] at k
    simp (disch := first | assumption | omega) only [prv_n, nxt_n, q_sw, mc4, mc6, mc8, mc20, mc24, mc100, nv_rd, nb_rd, wr_rd, nI_lit, nI_add, pk_mul, pk_sub, q_div, cl_nI, vpi, q_eq, q_le, q_lt, n1_eq, n1_eq', n1_le, n1_lt, n1_ge, n1_gt, i_0m1, nlt_t, nlt_f, nle_t, nle_f, neq_f, f_below, f_within, f_isCorner, f_isIn, f_isCornerM, f_isStreet, f_isHouse, f_isCrew, f_isRow, f_has10, f_has0, jx_I, jx_N, jx_m1, jr_I, jr_N1, jr_N2, wr_2, isB_0, isB_1, true_and, and_true, and_self, false_and, and_false, true_or, or_true, false_or, or_false, not_true_eq_false, not_false_eq_true, forall_const, implies_true, false_implies, ne_eq, eq_self, if_true, if_false, Nat.zero_add, Nat.add_zero, Nat.mul_zero, Nat.zero_mul, Nat.mul_one, Nat.one_mul, Nat.add_sub_cancel, Nat.reduceEqDiff, Nat.reduceAdd, Nat.reduceMul, Nat.reduceSub, Nat.reduceLeDiff, Nat.reduceLT, Nat.reduceDiv, Nat.reduceMod, m.s92, v92]
    exact k
  · have next : opB s.1 c j = false → L (nI (j + 1)) := fun hb => hL _ _ (by omega) ⟨j + 1, by omega, rfl, rfl, fun h hh => by
      by_cases q : h = j
      · subst q; exact hb
      · exact z h (by omega)⟩
    by_cases q1 : s.1 310 j = c
    · by_cases q2 : s.1 312 j = nI 0
      · have : oaI s.1 c = nI j := fstB_yes (Nat.zero_le j) (by omega) (opB_t.mpr ⟨q1, q2⟩) (fun h _ h2 => z h h2)
        rw [this] at k
        simp (disch := first | assumption | omega) only [prv_n, nxt_n, q_sw, mc4, mc6, mc8, mc20, mc24, mc100, nv_rd, nb_rd, wr_rd, nI_lit, nI_add, pk_mul, pk_sub, q_div, cl_nI, vpi, q_eq, q_le, q_lt, n1_eq, n1_eq', n1_le, n1_lt, n1_ge, n1_gt, i_0m1, nlt_t, nlt_f, nle_t, nle_f, neq_f, f_below, f_within, f_isCorner, f_isIn, f_isCornerM, f_isStreet, f_isHouse, f_isCrew, f_isRow, f_has10, f_has0, jx_I, jx_N, jx_m1, jr_I, jr_N1, jr_N2, wr_2, isB_0, isB_1, true_and, and_true, and_self, false_and, and_false, true_or, or_true, false_or, or_false, not_true_eq_false, not_false_eq_true, forall_const, implies_true, false_implies, ne_eq, eq_self, if_true, if_false, Nat.zero_add, Nat.add_zero, Nat.mul_zero, Nat.zero_mul, Nat.mul_one, Nat.one_mul, Nat.add_sub_cancel, Nat.reduceEqDiff, Nat.reduceAdd, Nat.reduceMul, Nat.reduceSub, Nat.reduceLeDiff, Nat.reduceLT, Nat.reduceDiv, Nat.reduceMod, m.s92, v92, m.c310, m.c312, q1, q2]
        exact k
      · simp (disch := first | assumption | omega) only [prv_n, nxt_n, q_sw, mc4, mc6, mc8, mc20, mc24, mc100, nv_rd, nb_rd, wr_rd, nI_lit, nI_add, pk_mul, pk_sub, q_div, cl_nI, vpi, q_eq, q_le, q_lt, n1_eq, n1_eq', n1_le, n1_lt, n1_ge, n1_gt, i_0m1, nlt_t, nlt_f, nle_t, nle_f, neq_f, f_below, f_within, f_isCorner, f_isIn, f_isCornerM, f_isStreet, f_isHouse, f_isCrew, f_isRow, f_has10, f_has0, jx_I, jx_N, jx_m1, jr_I, jr_N1, jr_N2, wr_2, isB_0, isB_1, true_and, and_true, and_self, false_and, and_false, true_or, or_true, false_or, or_false, not_true_eq_false, not_false_eq_true, forall_const, implies_true, false_implies, ne_eq, eq_self, if_true, if_false, Nat.zero_add, Nat.add_zero, Nat.mul_zero, Nat.zero_mul, Nat.mul_one, Nat.one_mul, Nat.add_sub_cancel, Nat.reduceEqDiff, Nat.reduceAdd, Nat.reduceMul, Nat.reduceSub, Nat.reduceLeDiff, Nat.reduceLT, Nat.reduceDiv, Nat.reduceMod, m.s92, v92, m.c310, m.c312, q1, q2]
        refine next ?_
        cases q : opB s.1 c j
        · rfl
        · exact absurd (opB_t.mp q).2 q2
    · simp (disch := first | assumption | omega) only [prv_n, nxt_n, q_sw, mc4, mc6, mc8, mc20, mc24, mc100, nv_rd, nb_rd, wr_rd, nI_lit, nI_add, pk_mul, pk_sub, q_div, cl_nI, vpi, q_eq, q_le, q_lt, n1_eq, n1_eq', n1_le, n1_lt, n1_ge, n1_gt, i_0m1, nlt_t, nlt_f, nle_t, nle_f, neq_f, f_below, f_within, f_isCorner, f_isIn, f_isCornerM, f_isStreet, f_isHouse, f_isCrew, f_isRow, f_has10, f_has0, jx_I, jx_N, jx_m1, jr_I, jr_N1, jr_N2, wr_2, isB_0, isB_1, true_and, and_true, and_self, false_and, and_false, true_or, or_true, false_or, or_false, not_true_eq_false, not_false_eq_true, forall_const, implies_true, false_implies, ne_eq, eq_self, if_true, if_false, Nat.zero_add, Nat.add_zero, Nat.mul_zero, Nat.zero_mul, Nat.mul_one, Nat.one_mul, Nat.add_sub_cancel, Nat.reduceEqDiff, Nat.reduceAdd, Nat.reduceMul, Nat.reduceSub, Nat.reduceLeDiff, Nat.reduceLT, Nat.reduceDiv, Nat.reduceMod, m.s92, v92, m.c310, q1]
      refine next ?_
      cases q : opB s.1 c j
      · rfl
      · exact absurd (opB_t.mp q).1 q1
theorem m_mark {x s : ab_X} {c : Int32} (m : keepM s.1 x.1) (w : WWp s.1) (oth : ∀ k, k < nv s.1 246 92 → s.1 312 k = nI 0 → ¬ wor s.1 (s.1 310 k) = -nI 1 → ¬ s.1 310 k = c → s.1 318 k = nI 1) {K : ab_X → Prop} (k : ∀ z : ab_X, keepM (wtS s).1 z.1 → (∀ d, d ≠ 318 → z.1 d = x.1 d) → z.2 = x.2 → K z) : wX12_mark c x K := by
  have b := w.b92
  have base : ∀ z : ab_X, (∀ d, d ≠ 318 → z.1 d = x.1 d) → z.1 318 = wtF s.1 → keepM (wtS s).1 z.1 := by
    intro z z1 z2
    refine ⟨fun d p => ?_, fun f p => ?_⟩
    · by_cases e : d = 318
      · subst e; rw [wtS_e, z2]
      · rw [wtS_o e, z1 d e]; exact m.1 d p
    · rw [wtS_o (by decide), z1 246 (by decide)]; exact m.2 f p
  unfold wX12_mark
  refine m_openAt m w.v92 b ?_
  rcases fstB_d (opB s.1 c) (nv s.1 246 92) 0 with ⟨e, z⟩ | ⟨i, -, hi, p, e, z⟩
  · have e' : oaI s.1 c = -nI 1 := e
    rw [e']
    simp (disch := first | assumption | omega) only [prv_n, nxt_n, q_sw, mc4, mc6, mc8, mc20, mc24, mc100, nv_rd, nb_rd, wr_rd, nI_lit, nI_add, pk_mul, pk_sub, q_div, cl_nI, vpi, q_eq, q_le, q_lt, n1_eq, n1_eq', n1_le, n1_lt, n1_ge, n1_gt, i_0m1, nlt_t, nlt_f, nle_t, nle_f, neq_f, f_below, f_within, f_isCorner, f_isIn, f_isCornerM, f_isStreet, f_isHouse, f_isCrew, f_isRow, f_has10, f_has0, jx_I, jx_N, jx_m1, jr_I, jr_N1, jr_N2, wr_2, isB_0, isB_1, true_and, and_true, and_self, false_and, and_false, true_or, or_true, false_or, or_false, not_true_eq_false, not_false_eq_true, forall_const, implies_true, false_implies, ne_eq, eq_self, if_true, if_false, Nat.zero_add, Nat.add_zero, Nat.mul_zero, Nat.zero_mul, Nat.mul_one, Nat.one_mul, Nat.add_sub_cancel, Nat.reduceEqDiff, Nat.reduceAdd, Nat.reduceMul, Nat.reduceSub, Nat.reduceLeDiff, Nat.reduceLT, Nat.reduceDiv, Nat.reduceMod]
    refine k x (base x (fun _ _ => rfl) ?_) (fun _ _ => rfl) rfl
    rw [m.c318]
    funext j
    unfold wtF
    split
    · rename_i u
      refine oth j u.1 u.2.1 u.2.2 (fun ec => ?_)
      have := z j (Nat.zero_le _) (by omega)
      rw [opB_t.mpr ⟨ec, u.2.1⟩] at this
      exact absurd this (by decide)
    · rfl
  · have e' : oaI s.1 c = nI i := e
    have hi2 : i < nv s.1 246 92 := by omega
    obtain ⟨p1, p2⟩ := opB_t.mp p
    have uniq : ∀ j, j < nv s.1 246 92 → s.1 312 j = nI 0 → s.1 310 j = c → j = i := by
      intro j hj h1 h2
      apply Classical.byContradiction
      intro ne
      rcases Nat.lt_or_ge j i with lt | ge
      · exact w.ca.2.2 j i lt hi2 h1 p2 (h2.trans p1.symm)
      · exact w.ca.2.2 i j (by omega) hj p2 h1 (p1.trans h2.symm)
    rw [e']
    simp (disch := first | assumption | omega) only [prv_n, nxt_n, q_sw, mc4, mc6, mc8, mc20, mc24, mc100, nv_rd, nb_rd, wr_rd, nI_lit, nI_add, pk_mul, pk_sub, q_div, cl_nI, vpi, q_eq, q_le, q_lt, n1_eq, n1_eq', n1_le, n1_lt, n1_ge, n1_gt, i_0m1, nlt_t, nlt_f, nle_t, nle_f, neq_f, f_below, f_within, f_isCorner, f_isIn, f_isCornerM, f_isStreet, f_isHouse, f_isCrew, f_isRow, f_has10, f_has0, jx_I, jx_N, jx_m1, jr_I, jr_N1, jr_N2, wr_2, isB_0, isB_1, true_and, and_true, and_self, false_and, and_false, true_or, or_true, false_or, or_false, not_true_eq_false, not_false_eq_true, forall_const, implies_true, false_implies, ne_eq, eq_self, if_true, if_false, Nat.zero_add, Nat.add_zero, Nat.mul_zero, Nat.zero_mul, Nat.mul_one, Nat.one_mul, Nat.add_sub_cancel, Nat.reduceEqDiff, Nat.reduceAdd, Nat.reduceMul, Nat.reduceSub, Nat.reduceLeDiff, Nat.reduceLT, Nat.reduceDiv, Nat.reduceMod]
    refine m_burnsAt m.f w.tw ?_
    by_cases q : wor s.1 c = -nI 1
    · rw [decide_eq_false (fun u => u q)]
      simp (disch := first | assumption | omega) only [prv_n, nxt_n, q_sw, mc4, mc6, mc8, mc20, mc24, mc100, nv_rd, nb_rd, wr_rd, nI_lit, nI_add, pk_mul, pk_sub, q_div, cl_nI, vpi, q_eq, q_le, q_lt, n1_eq, n1_eq', n1_le, n1_lt, n1_ge, n1_gt, i_0m1, nlt_t, nlt_f, nle_t, nle_f, neq_f, f_below, f_within, f_isCorner, f_isIn, f_isCornerM, f_isStreet, f_isHouse, f_isCrew, f_isRow, f_has10, f_has0, jx_I, jx_N, jx_m1, jr_I, jr_N1, jr_N2, wr_2, isB_0, isB_1, true_and, and_true, and_self, false_and, and_false, true_or, or_true, false_or, or_false, not_true_eq_false, not_false_eq_true, forall_const, implies_true, false_implies, ne_eq, eq_self, if_true, if_false, Nat.zero_add, Nat.add_zero, Nat.mul_zero, Nat.zero_mul, Nat.mul_one, Nat.one_mul, Nat.add_sub_cancel, Nat.reduceEqDiff, Nat.reduceAdd, Nat.reduceMul, Nat.reduceSub, Nat.reduceLeDiff, Nat.reduceLT, Nat.reduceDiv, Nat.reduceMod, bb_f]
      refine k x (base x (fun _ _ => rfl) ?_) (fun _ _ => rfl) rfl
      rw [m.c318]
      funext j
      unfold wtF
      split
      · rename_i u
        refine oth j u.1 u.2.1 u.2.2 (fun ec => ?_)
        rw [ec] at u
        exact u.2.2 q
      · rfl
    · rw [decide_eq_true q]
      simp (disch := first | assumption | omega) only [prv_n, nxt_n, q_sw, mc4, mc6, mc8, mc20, mc24, mc100, nv_rd, nb_rd, wr_rd, nI_lit, nI_add, pk_mul, pk_sub, q_div, cl_nI, vpi, q_eq, q_le, q_lt, n1_eq, n1_eq', n1_le, n1_lt, n1_ge, n1_gt, i_0m1, nlt_t, nlt_f, nle_t, nle_f, neq_f, f_below, f_within, f_isCorner, f_isIn, f_isCornerM, f_isStreet, f_isHouse, f_isCrew, f_isRow, f_has10, f_has0, jx_I, jx_N, jx_m1, jr_I, jr_N1, jr_N2, wr_2, isB_0, isB_1, true_and, and_true, and_self, false_and, and_false, true_or, or_true, false_or, or_false, not_true_eq_false, not_false_eq_true, forall_const, implies_true, false_implies, ne_eq, eq_self, if_true, if_false, Nat.zero_add, Nat.add_zero, Nat.mul_zero, Nat.zero_mul, Nat.mul_one, Nat.one_mul, Nat.add_sub_cancel, Nat.reduceEqDiff, Nat.reduceAdd, Nat.reduceMul, Nat.reduceSub, Nat.reduceLeDiff, Nat.reduceLT, Nat.reduceDiv, Nat.reduceMod, bb_t]
      refine k _ (base _ (fun d hd => wr_n hd) ?_) (fun d hd => wr_n hd) rfl
      funext j
      unfold wtF
      by_cases ej : j = i
      · subst ej
        rw [wr_e, if_pos ⟨hi2, p2, by rw [p1]; exact q⟩]
      · rw [wr_k ej, m.c318]
        split
        · rename_i u
          exact oth j u.1 u.2.1 u.2.2 (fun ec => ej (uniq j u.1 u.2.1 ec))
        · rfl
/-- the houses of other corners burn as before -/
theorem wor_same {Y Z : Nat → Nat → Int32} {i : Nat} (e1 : Z 254 = Y 254) (e2 : nv Z 246 31 = nv Y 246 31) (g : ∀ h, h < nv Y 246 31 → h ≠ i → bg Z h = bg Y h) {c : Int32} (hc : ¬ Y 254 i = c) : wor Z c = wor Y c := by
  have w : ∀ n, n ≤ nv Y 246 31 → wo Z c n = wo Y c n := by
    intro n
    induction n with
    | zero => intro _; rfl
    | succ n ih =>
      intro hn
      show (if Z 254 n = c ∧ (wo Z c n).2 < bg Z n then (nI n, bg Z n) else wo Z c n) = (if Y 254 n = c ∧ (wo Y c n).2 < bg Y n then (nI n, bg Y n) else wo Y c n)
      rw [ih (by omega), e1]
      by_cases q : n = i
      · subst q
        rw [if_neg (fun u => hc u.1), if_neg (fun u => hc u.1)]
      · rw [g n (by omega) q]
  unfold wor
  rw [e2, w _ (Nat.le_refl _)]
theorem bg_same {Y Z : Nat → Nat → Int32} (w : TW Y) {h i : Nat} (hh : h < nv Y 246 31) (hi : h ≠ i) (e1 : Z 256 = Y 256) (e2 : Z 257 = Y 257) (e3 : ∀ k, k < 24 * i ∨ 24 * i + 24 ≤ k → Z 266 k = Y 266 k) (e4 : ∀ k, k < 24 * i ∨ 24 * i + 24 ≤ k → Z 267 k = Y 267 k) : bg Z h = bg Y h := by
  have rm := rm_le w hh
  have n1 : nv Z 256 h = nv Y 256 h := by unfold nv; rw [e1]
  have n2 : nv Z 257 h = nv Y 257 h := by unfold nv; rw [e2]
  unfold bg
  rw [n1, n2]
  refine cn_congr (fun r hr => ?_)
  unfold bu nv
  rw [e3 _ (by omega), e4 _ (by omega)]
theorem RR_mg {X Y Z : Nat → Nat → Int32} {D : Nat → UInt64} (b31 : nv Z 246 31 ≤ 12) (b58 : nv Z 246 58 ≤ 16) (b92 : nv Z 246 92 ≤ 60) (h : RR Z Z D) (c : ∀ c, c < 246 → X c = Z c) (m : ∀ c, 246 ≤ c → Y c = Z c) : RR X Y D := by
  have s : ∀ f, Y 246 f = Z 246 f := fun f => by rw [m 246 (by decide)]
  refine ⟨?_, Rst_fr h.st (fun i p q => c i (by omega)) (fun i p q => m i (by omega)) (s _), Rho_fr h.ho (fun i p q => c i (by omega)) (fun i p q => m i (by omega)) (fun i p q => m i (by omega)) (s _) (fun i p => by omega), Rfi_fr h.fi (fun i p q => c i (by omega)) (fun i p q => c i (by omega)) (fun i p q => c i (by omega)) (by rw [c 11 (by decide)]) (fun i p q => m i (by omega)) (fun i p q => m i (by omega)) (fun i p q => m i (by omega)), Rmh_fr h.mh (fun i p q => c i (by omega)) (fun i p q => m i (by omega)) (s _) (s _), Rcr_fr h.cr (fun i f p q => by rw [c (82 + i) (by omega)]) (fun i p q => m i (by omega)) (fun i p q => m i (by omega)) (fun i p q => m i (by omega)) (s _) (fun i p => by omega), Rca_fr h.ca (fun i p q => c i (by omega)) (fun i p q => m i (by omega)) (s _) (fun i p => by omega), Rev_fr h.ev (fun i p q => c i (by omega)) (fun i p q => m i (by omega)) (fun i p q => m i (by omega)) (s _) (s _), Rta_fr h.ta (fun i p q => c i (by omega)) (fun i p q => m i (by omega)) (s _), Rro_fr h.ro (fun i p q => c i (by omega)) (fun i p q => m i (by omega)) (s _) rfl, fun k p => by rw [m 268 (by decide)]; exact h.wa k p⟩
  unfold Rsc
  rw [c 1 (by decide), c 9 (by decide), c 66 (by decide), c 158 (by decide), c 165 (by decide), c 0 (by decide), m 246 (by decide)]
  exact h.sc
theorem WWp_mg {Y Z : Nat → Nat → Int32} (w : WWp Z) (m : ∀ c, 246 ≤ c → Y c = Z c) : WWp Y := by
  have sc : ∀ f, Y 246 f = Z 246 f := fun f => by rw [m 246 (by decide)]
  obtain ⟨w1, w2, w3, w4, w5, w6, w7, w8, w9⟩ := w
  exact ⟨Wsc_fr w1 (sc _) (sc _) (sc _) (sc _) (sc _) (sc _) (sc _) (sc _) (sc _) (sc _) (sc _) (sc _), Wst_fr w2 (fun c p q => m c (by omega)) (fun c p q => m c (by omega)) (sc _), Wwk_fr w3 (fun c p q => m c (by omega)), Who_fr w4 (fun c p q => m c (by omega)) (fun c p q => m c (by omega)) (fun c p q => m c (by omega)) (sc _), Wfi_fr w5 (fun c p q => m c (by omega)) (fun c p q => m c (by omega)) (fun c p q => m c (by omega)) (fun c p q => m c (by omega)) (sc _), Wmh_fr w6 (fun c p q => m c (by omega)) (sc _) (sc _), Wcr_fr w7 (fun c p q => m c (by omega)) (fun c p q => m c (by omega)) (fun c p q => m c (by omega)) (fun c p q => m c (by omega)) (sc _) (sc _) (sc _) (sc _), Wca_fr w8 (fun c p q => m c (by omega)) (sc _) (sc _), Wev_fr w9 (fun c p q => m c (by omega)) (fun c p q => m c (by omega)) (sc _) (sc _) (sc _) (sc _)⟩
theorem p_light {x : ab_X} {a b : Int32} (h : InvA x) {K : ab_X → Prop} (hk : ∀ z, InvA z → keepT x.1 z.1 → K z) :
    wX11_light a b x (fun r y => wX12_light a b y (fun r' z => r = r' ∧ K z)) := by
  have m : keepM x.1 (wr x 246 0 0).1 := keepM_th
  have bn := h.2.b31
  unfold wX11_light
  rcases rm_d a b h.1 h.2 with ⟨q1, q2⟩ | ⟨i, r, hi, hr, rfl, rfl⟩
  · refine q1 _ ?_
    simp (disch := first | assumption | omega) only [prv_n, nxt_n, q_sw, mc4, mc6, mc8, mc20, mc24, mc100, nv_rd, nb_rd, wr_rd, nI_lit, nI_add, pk_mul, pk_sub, q_div, cl_nI, vpi, q_eq, q_le, q_lt, n1_eq, n1_eq', n1_le, n1_lt, n1_ge, n1_gt, i_0m1, nlt_t, nlt_f, nle_t, nle_f, neq_f, f_below, f_within, f_isCorner, f_isIn, f_isCornerM, f_isStreet, f_isHouse, f_isCrew, f_isRow, f_has10, f_has0, jx_I, jx_N, jx_m1, jr_I, jr_N1, jr_N2, wr_2, isB_0, isB_1, true_and, and_true, and_self, false_and, and_false, true_or, or_true, false_or, or_false, not_true_eq_false, not_false_eq_true, forall_const, implies_true, false_implies, ne_eq, eq_self, if_true, if_false, Nat.zero_add, Nat.add_zero, Nat.mul_zero, Nat.zero_mul, Nat.mul_one, Nat.one_mul, Nat.add_sub_cancel, Nat.reduceEqDiff, Nat.reduceAdd, Nat.reduceMul, Nat.reduceSub, Nat.reduceLeDiff, Nat.reduceLT, Nat.reduceDiv, Nat.reduceMod]
    unfold wX12_light
    refine q2 _ m _ ?_
    simp (disch := first | assumption | omega) only [prv_n, nxt_n, q_sw, mc4, mc6, mc8, mc20, mc24, mc100, nv_rd, nb_rd, wr_rd, nI_lit, nI_add, pk_mul, pk_sub, q_div, cl_nI, vpi, q_eq, q_le, q_lt, n1_eq, n1_eq', n1_le, n1_lt, n1_ge, n1_gt, i_0m1, nlt_t, nlt_f, nle_t, nle_f, neq_f, f_below, f_within, f_isCorner, f_isIn, f_isCornerM, f_isStreet, f_isHouse, f_isCrew, f_isRow, f_has10, f_has0, jx_I, jx_N, jx_m1, jr_I, jr_N1, jr_N2, wr_2, isB_0, isB_1, true_and, and_true, and_self, false_and, and_false, true_or, or_true, false_or, or_false, not_true_eq_false, not_false_eq_true, forall_const, implies_true, false_implies, ne_eq, eq_self, if_true, if_false, Nat.zero_add, Nat.add_zero, Nat.mul_zero, Nat.zero_mul, Nat.mul_one, Nat.one_mul, Nat.add_sub_cancel, Nat.reduceEqDiff, Nat.reduceAdd, Nat.reduceMul, Nat.reduceSub, Nat.reduceLeDiff, Nat.reduceLT, Nat.reduceDiv, Nat.reduceMod]
    exact hk _ (InvA_th h) keepT_th
  have tw := h.2.tw
  have rm := rm_le tw hi
  obtain ⟨f, q, hf, hq, er, ed⟩ := r_split hr
  obtain ⟨w1, -, w3, -, w5, w6, -⟩ := h.2.ho.1 i hi
  obtain ⟨t1, -, -, t4, -⟩ := h.1.ho.2.2.1 i hi
  have t0 := (h.1.ho.1 i (by omega)).1
  have u1 := w1.2
  have u3 := w3.2
  have u5 := w5.2
  have wh := (h.2.fi.1 (24 * i + r) (by omega)).1
  have uh := wh.2
  have eh := (h.1.fi.1 (24 * i + r) (by omega)).1
  refine c_hasRoom h.1 h.2 hi hr ?_
  unfold wX4_floorOf wX4_place
  simp (disch := first | assumption | omega) only [prv_n, nxt_n, q_sw, mc4, mc6, mc8, mc20, mc24, mc100, nv_rd, nb_rd, wr_rd, nI_lit, nI_add, pk_mul, pk_sub, q_div, cl_nI, vpi, q_eq, q_le, q_lt, n1_eq, n1_eq', n1_le, n1_lt, n1_ge, n1_gt, i_0m1, nlt_t, nlt_f, nle_t, nle_f, neq_f, f_below, f_within, f_isCorner, f_isIn, f_isCornerM, f_isStreet, f_isHouse, f_isCrew, f_isRow, f_has10, f_has0, jx_I, jx_N, jx_m1, jr_I, jr_N1, jr_N2, wr_2, isB_0, isB_1, true_and, and_true, and_self, false_and, and_false, true_or, or_true, false_or, or_false, not_true_eq_false, not_false_eq_true, forall_const, implies_true, false_implies, ne_eq, eq_self, if_true, if_false, Nat.zero_add, Nat.add_zero, Nat.mul_zero, Nat.zero_mul, Nat.mul_one, Nat.one_mul, Nat.add_sub_cancel, Nat.reduceEqDiff, Nat.reduceAdd, Nat.reduceMul, Nat.reduceSub, Nat.reduceLeDiff, Nat.reduceLT, Nat.reduceDiv, Nat.reduceMod, t4, w5.1, ed, t0]
  refine c_fallen h.1.tr tw (by omega) (by omega) ?_
  by_cases q5 : x.1 274 (6 * i + f) = nI 0
  case neg =>
    simp (disch := first | assumption | omega) only [prv_n, nxt_n, q_sw, mc4, mc6, mc8, mc20, mc24, mc100, nv_rd, nb_rd, wr_rd, nI_lit, nI_add, pk_mul, pk_sub, q_div, cl_nI, vpi, q_eq, q_le, q_lt, n1_eq, n1_eq', n1_le, n1_lt, n1_ge, n1_gt, i_0m1, nlt_t, nlt_f, nle_t, nle_f, neq_f, f_below, f_within, f_isCorner, f_isIn, f_isCornerM, f_isStreet, f_isHouse, f_isCrew, f_isRow, f_has10, f_has0, jx_I, jx_N, jx_m1, jr_I, jr_N1, jr_N2, wr_2, isB_0, isB_1, true_and, and_true, and_self, false_and, and_false, true_or, or_true, false_or, or_false, not_true_eq_false, not_false_eq_true, forall_const, implies_true, false_implies, ne_eq, eq_self, if_true, if_false, Nat.zero_add, Nat.add_zero, Nat.mul_zero, Nat.zero_mul, Nat.mul_one, Nat.one_mul, Nat.add_sub_cancel, Nat.reduceEqDiff, Nat.reduceAdd, Nat.reduceMul, Nat.reduceSub, Nat.reduceLeDiff, Nat.reduceLT, Nat.reduceDiv, Nat.reduceMod, q5]
    unfold wX12_light
    refine m_isRoom m h.2 hi hr ?_
    simp (disch := first | assumption | omega) only [prv_n, nxt_n, q_sw, mc4, mc6, mc8, mc20, mc24, mc100, nv_rd, nb_rd, wr_rd, nI_lit, nI_add, pk_mul, pk_sub, q_div, cl_nI, vpi, q_eq, q_le, q_lt, n1_eq, n1_eq', n1_le, n1_lt, n1_ge, n1_gt, i_0m1, nlt_t, nlt_f, nle_t, nle_f, neq_f, f_below, f_within, f_isCorner, f_isIn, f_isCornerM, f_isStreet, f_isHouse, f_isCrew, f_isRow, f_has10, f_has0, jx_I, jx_N, jx_m1, jr_I, jr_N1, jr_N2, wr_2, isB_0, isB_1, true_and, and_true, and_self, false_and, and_false, true_or, or_true, false_or, or_false, not_true_eq_false, not_false_eq_true, forall_const, implies_true, false_implies, ne_eq, eq_self, if_true, if_false, Nat.zero_add, Nat.add_zero, Nat.mul_zero, Nat.zero_mul, Nat.mul_one, Nat.one_mul, Nat.add_sub_cancel, Nat.reduceEqDiff, Nat.reduceAdd, Nat.reduceMul, Nat.reduceSub, Nat.reduceLeDiff, Nat.reduceLT, Nat.reduceDiv, Nat.reduceMod]
    refine m_floorOf m.f tw hi (by omega) ?_
    simp (disch := first | assumption | omega) only [prv_n, nxt_n, q_sw, mc4, mc6, mc8, mc20, mc24, mc100, nv_rd, nb_rd, wr_rd, nI_lit, nI_add, pk_mul, pk_sub, q_div, cl_nI, vpi, q_eq, q_le, q_lt, n1_eq, n1_eq', n1_le, n1_lt, n1_ge, n1_gt, i_0m1, nlt_t, nlt_f, nle_t, nle_f, neq_f, f_below, f_within, f_isCorner, f_isIn, f_isCornerM, f_isStreet, f_isHouse, f_isCrew, f_isRow, f_has10, f_has0, jx_I, jx_N, jx_m1, jr_I, jr_N1, jr_N2, wr_2, isB_0, isB_1, true_and, and_true, and_self, false_and, and_false, true_or, or_true, false_or, or_false, not_true_eq_false, not_false_eq_true, forall_const, implies_true, false_implies, ne_eq, eq_self, if_true, if_false, Nat.zero_add, Nat.add_zero, Nat.mul_zero, Nat.zero_mul, Nat.mul_one, Nat.one_mul, Nat.add_sub_cancel, Nat.reduceEqDiff, Nat.reduceAdd, Nat.reduceMul, Nat.reduceSub, Nat.reduceLeDiff, Nat.reduceLT, Nat.reduceDiv, Nat.reduceMod, ed, q5]
    exact hk _ (InvA_th h) keepT_th
  unfold wX3_kindle
  simp (disch := first | assumption | omega) only [prv_n, nxt_n, q_sw, mc4, mc6, mc8, mc20, mc24, mc100, nv_rd, nb_rd, wr_rd, nI_lit, nI_add, pk_mul, pk_sub, q_div, cl_nI, vpi, q_eq, q_le, q_lt, n1_eq, n1_eq', n1_le, n1_lt, n1_ge, n1_gt, i_0m1, nlt_t, nlt_f, nle_t, nle_f, neq_f, f_below, f_within, f_isCorner, f_isIn, f_isCornerM, f_isStreet, f_isHouse, f_isCrew, f_isRow, f_has10, f_has0, jx_I, jx_N, jx_m1, jr_I, jr_N1, jr_N2, wr_2, isB_0, isB_1, true_and, and_true, and_self, false_and, and_false, true_or, or_true, false_or, or_false, not_true_eq_false, not_false_eq_true, forall_const, implies_true, false_implies, ne_eq, eq_self, if_true, if_false, Nat.zero_add, Nat.add_zero, Nat.mul_zero, Nat.zero_mul, Nat.mul_one, Nat.one_mul, Nat.add_sub_cancel, Nat.reduceEqDiff, Nat.reduceAdd, Nat.reduceMul, Nat.reduceSub, Nat.reduceLeDiff, Nat.reduceLT, Nat.reduceDiv, Nat.reduceMod, q5, eh, wh.1, imax_I]
  generalize hv : max (nv x.1 266 (24 * i + r)) 400 = v
  have hv2 : v ≤ 1000 := by omega
  have hv3 : max 400 (nv x.1 266 (24 * i + r)) = v := by omega
  -- the state of both
  have P : RR (wr (wr (wr x 12 (24 * i + r) (nI v)) 11 7 (nI 0)) 266 (24 * i + r) (nI v)).1 (wr (wr (wr x 12 (24 * i + r) (nI v)) 11 7 (nI 0)) 266 (24 * i + r) (nI v)).1 ((wr (wr (wr x 12 (24 * i + r) (nI v)) 11 7 (nI 0)) 266 (24 * i + r) (nI v)).2.1 329) ∧ WWp (wr (wr (wr x 12 (24 * i + r) (nI v)) 11 7 (nI 0)) 266 (24 * i + r) (nI v)).1 := by
    refine InvP_chg h (L := [(12, 12), (266, 266)]) (S := []) (C := [(11, 7)]) ⟨fun c p q r0 => ?_, fun f p => ?_, fun c f p q0 => ?_⟩ (Or.inl rfl) (Or.inl rfl) (Or.inl rfl) (Or.inr ?fi) (Or.inl rfl) (Or.inl rfl) (Or.inl rfl) (Or.inl rfl) (Or.inl rfl) (Or.inl rfl) (Or.inl ⟨rfl, rfl⟩) (Or.inl rfl) (Or.inl rfl) (Or.inl rfl) (Or.inl rfl) (Or.inr ?wfi) (Or.inl rfl) (Or.inl rfl) (Or.inl rfl) (Or.inl rfl)
    · have r1 : c < 12 ∨ 12 < c := r0 (12, 12) (by simp)
      have r2 : c < 266 ∨ 266 < c := r0 (266, 266) (by simp)
      unfold scC at q
      simp (disch := omega) only [wr_n]
    · simp (disch := omega) only [wr_n]
    · have c0 : ¬ (c = 11 ∧ f = 7) := fun e => q0 (by rw [e.1, e.2]; simp)
      unfold scC at p
      simp (disch := omega) only [wr_ne]
    case fi =>
      obtain ⟨f1, f2, f3, f4⟩ := h.1.fi
      refine ⟨fun k p => ?_, fun k p => ?_, ?_, fun u => absurd ?_ u⟩
      · have := f1 k p
        by_cases e : k = 24 * i + r
        · subst e; simp (disch := omega) only [wr_ne, wr_e]; exact ⟨trivial, this.2.1, this.2.2⟩
        · simp (disch := omega) only [wr_ne]; exact this
      · simp (disch := omega) only [wr_ne]; exact f2 k p
      · simp (disch := omega) only [wr_ne, wr_e]; exact Or.inl rfl
      · simp (disch := omega) only [wr_ne, wr_e]
    case wfi =>
      obtain ⟨s1, s2, s3, s4, s5, s6, s7⟩ := h.2.fi
      refine ⟨fun k p => ?_, fun k p => ?_, fun h' r' p p' u => ?_, fun h' f' r' p p' u u' => ?_, fun k p u => ?_, ?_, fun h' f' p p' u => ?_⟩
      · have := s1 k p
        by_cases e : k = 24 * i + r
        · subst e
          refine ⟨nb_of wr_e hv2 (by decide), ?_⟩
          simp (disch := omega) only [nb_ne]; exact this.2
        · simp (disch := omega) only [nb_ne]; exact this
      · simp (disch := omega) only [wr_ne]; exact s2 k p
      · simp (disch := omega) only [nv_ne] at u
        have ne : 24 * h' + r' ≠ 24 * i + r := by
          intro e
          have : h' = i := by omega
          subst this
          omega
        simp (disch := omega) only [wr_ne]; exact s3 h' r' p p' u
      · simp (disch := omega) only [nv_ne, wr_ne] at p p' u u'
        have ne : 24 * h' + (f' * nv x.1 257 h' + r') ≠ 24 * i + r := by
          intro e
          have rl := rmlt p' u
          have rm' := rm_le tw p
          have eh' : h' = i := by omega
          subst eh'
          have er2 : f' * nv x.1 257 h' + r' = f * nv x.1 257 h' + q := by omega
          have d1 := dvm (f := f') u
          rw [er2, (dvm (f := f) hq).1] at d1
          rw [← d1.1] at u'
          exact u' q5
        simp (disch := omega) only [wr_ne, nv_ne]
        exact s4 h' f' r' p p' u u'
      · simp (disch := omega) only [wr_ne] at u ⊢; exact s5 k p u
      · unfold WLd ld brN at s6 ⊢
        simp (disch := omega) only [wr_ne, nv_ne]
        exact s6
      · simp (disch := omega) only [wr_ne, nv_ne] at p ⊢; exact s7 h' f' p p' u
  have y0c : ∀ c, c < 246 → (wr (wr x 12 (24 * i + r) (nI v)) 11 7 (nI 0)).1 c = (wr (wr (wr x 12 (24 * i + r) (nI v)) 11 7 (nI 0)) 266 (24 * i + r) (nI v)).1 c := fun c hc => by rw [wr_n (c := 266) (by omega)]
  have s1m : ∀ c, 246 ≤ c → (wr x 266 (24 * i + r) (nI v)).1 c = (wr (wr (wr x 12 (24 * i + r) (nI v)) 11 7 (nI 0)) 266 (24 * i + r) (nI v)).1 c := fun c hc => by
    funext j
    by_cases e : c = 266 ∧ j = 24 * i + r
    · rw [e.1, e.2, wr_e, wr_e]
    · rw [wr_ne (by omega), wr_ne (by omega), wr_ne (by omega), wr_ne (by omega)]
  have rr := RR_mg P.2.b31 P.2.b58 P.2.b92 P.1 y0c s1m
  have wp := WWp_mg P.2 s1m
  have s2 : (wr x 266 (24 * i + r) (nI v)).2 = x.2 := rfl
  have so : ∀ c, c ≠ 266 → (wr x 266 (24 * i + r) (nI v)).1 c = x.1 c := fun c hc => wr_n hc
  have sn : ∀ c k, c ≠ 266 → nv (wr x 266 (24 * i + r) (nI v)).1 c k = nv x.1 c k := fun c k hc => by unfold nv; rw [so c hc]
  have so6 : ∀ k, k ≠ 24 * i + r → (wr x 266 (24 * i + r) (nI v)).1 266 k = x.1 266 k := fun k hk => wr_k hk
  have se6 : (wr x 266 (24 * i + r) (nI v)).1 266 (24 * i + r) = nI v := wr_e
  refine c_wit rr wp (fun y y1 y2 y3 y4 y5 => ?_)
  have iy := wit_inv rr wp y1 y2 y3 y4
  have yx : ∀ c, 246 ≤ c → y.1 c = x.1 c := fun c hc => by rw [y1 c (by omega)]; simp (disch := omega) only [wr_n]
  have my : keepM x.1 (wr y 246 0 (nI 0)).1 := ⟨fun c q => by rw [wr_n (by unfold kM at q; omega)]; exact yx c (kM_ge q), fun g q => by rw [wr_k (by unfold kS at q; omega), yx 246 (by decide)]⟩
  generalize hs1 : wr x 266 (24 * i + r) (nI v) = s1 at *
  unfold wX12_light
  refine m_isRoom my h.2 hi hr ?_
  simp (disch := first | assumption | omega) only [prv_n, nxt_n, q_sw, mc4, mc6, mc8, mc20, mc24, mc100, nv_rd, nb_rd, wr_rd, nI_lit, nI_add, pk_mul, pk_sub, q_div, cl_nI, vpi, q_eq, q_le, q_lt, n1_eq, n1_eq', n1_le, n1_lt, n1_ge, n1_gt, i_0m1, nlt_t, nlt_f, nle_t, nle_f, neq_f, f_below, f_within, f_isCorner, f_isIn, f_isCornerM, f_isStreet, f_isHouse, f_isCrew, f_isRow, f_has10, f_has0, jx_I, jx_N, jx_m1, jr_I, jr_N1, jr_N2, wr_2, isB_0, isB_1, true_and, and_true, and_self, false_and, and_false, true_or, or_true, false_or, or_false, not_true_eq_false, not_false_eq_true, forall_const, implies_true, false_implies, ne_eq, eq_self, if_true, if_false, Nat.zero_add, Nat.add_zero, Nat.mul_zero, Nat.zero_mul, Nat.mul_one, Nat.one_mul, Nat.add_sub_cancel, Nat.reduceEqDiff, Nat.reduceAdd, Nat.reduceMul, Nat.reduceSub, Nat.reduceLeDiff, Nat.reduceLT, Nat.reduceDiv, Nat.reduceMod]
  refine m_floorOf my.f tw hi (by omega) ?_
  have g6 : y.1 266 (24 * i + r) = nI (nv x.1 266 (24 * i + r)) := by rw [yx 266 (by decide), wh.1]
  have g4 : y.1 274 (6 * i + f) = nI 0 := by rw [yx 274 (by decide), q5]
  have g5 : y.1 254 i = x.1 254 i := by rw [yx 254 (by decide)]
  simp (disch := first | assumption | omega) only [prv_n, nxt_n, q_sw, mc4, mc6, mc8, mc20, mc24, mc100, nv_rd, nb_rd, wr_rd, nI_lit, nI_add, pk_mul, pk_sub, q_div, cl_nI, vpi, q_eq, q_le, q_lt, n1_eq, n1_eq', n1_le, n1_lt, n1_ge, n1_gt, i_0m1, nlt_t, nlt_f, nle_t, nle_f, neq_f, f_below, f_within, f_isCorner, f_isIn, f_isCornerM, f_isStreet, f_isHouse, f_isCrew, f_isRow, f_has10, f_has0, jx_I, jx_N, jx_m1, jr_I, jr_N1, jr_N2, wr_2, isB_0, isB_1, true_and, and_true, and_self, false_and, and_false, true_or, or_true, false_or, or_false, not_true_eq_false, not_false_eq_true, forall_const, implies_true, false_implies, ne_eq, eq_self, if_true, if_false, Nat.zero_add, Nat.add_zero, Nat.mul_zero, Nat.zero_mul, Nat.mul_one, Nat.one_mul, Nat.add_sub_cancel, Nat.reduceEqDiff, Nat.reduceAdd, Nat.reduceMul, Nat.reduceSub, Nat.reduceLeDiff, Nat.reduceLT, Nat.reduceDiv, Nat.reduceMod, ed, g4, g6, imax_I, hv3, g5]
  have mz : keepM s1.1 (wr (wr y 246 0 (nI 0)) 266 (24 * i + r) (nI v)).1 := by
    rw [← hs1]
    exact keepM_wr my
  refine m_mark mz wp (fun k hk h1 h2 h3 => ?_) (fun z mz2 z1 z2 => hk z ?_ ?_)
  · rw [sn 246 92 (by decide)] at hk
    rw [so 312 (by decide)] at h1
    rw [so 310 (by decide)] at h2 h3
    rw [so 318 (by decide)]
    refine h.2.cb k hk h1 ?_
    rw [wor_same (Y := x.1) (Z := s1.1) (i := i) (so 254 (by decide)) (sn 246 31 (by decide)) (fun h' hh' hne => bg_same tw hh' hne (so 256 (by decide)) (so 257 (by decide)) (fun k hk => so6 k (by omega)) (fun k hk => by rw [so 267 (by decide)])) (fun e => h3 e.symm)] at h2
    exact h2
  · refine iy.fin (fun c hc => by rw [z1 c (by omega), wr_n (by omega), wr_n (by omega)]) mz2 (fun k p => ?_) ?_
    · rw [z1 268 (by decide), wr_n (by decide), wr_n (by decide), yx 268 (by decide)]; exact h.1.wa k p
    · rw [z2]
      show y.2.1 329 = s1.2.1 329
      rw [y5, s2]; rfl
  · intro c k q
    rw [z1 c (by unfold tk at q; omega), wr_n (by unfold tk at q; omega), wr_ne (by unfold tk at q; omega), y1 c (by unfold tk at q; omega)]
    simp (disch := (unfold tk at q; omega)) only [wr_n]
