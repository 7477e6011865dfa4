/-! WITNESS and mark: which open calls are true ones. -/
def wtF (Y : Nat → Nat → Int32) (k : Nat) : Int32 := if k < nv Y 246 92 ∧ Y 312 k = nI 0 ∧ ¬ wor Y (Y 310 k) = -nI 1 then nI 1 else Y 318 k
def wtS (s : ab_X) : ab_X := wrT s 318 (wtF s.1)
theorem wtS_o {s : ab_X} {c : Nat} (h : c ≠ 318) : (wtS s).1 c = s.1 c := wrT_n h
theorem wtS_e {s : ab_X} : (wtS s).1 318 = wtF s.1 := wrT_e
theorem wtS_nv {s : ab_X} {c k : Nat} (h : c ≠ 318) : nv (wtS s).1 c k = nv s.1 c k := by unfold nv; rw [wtS_o h]
theorem wtS_wor {s : ab_X} (c : Int32) : wor (wtS s).1 c = wor s.1 c := wor_cg (wtS_o (by decide)) (wtS_o (by decide)) (wtS_o (by decide)) (wtS_o (by decide)) (wtS_o (by decide)) (by rw [wtS_o (by decide)]) c
theorem WWp.tw {Y : Nat → Nat → Int32} (w : WWp Y) : TW Y := ⟨⟨w.1.2.1.1, w.1.2.1.2⟩, w.2.2.2.1, w.2.2.2.2.1.1, w.2.2.2.2.1.2.1, w.2.2.2.2.1.2.2.1, w.2.2.2.2.1.2.2.2.1⟩
theorem WWp.v92 {Y : Nat → Nat → Int32} (w : WWp Y) : Y 246 92 = nI (nv Y 246 92) := w.1.2.2.2.2.2.1.1
theorem WWp.b92 {Y : Nat → Nat → Int32} (w : WWp Y) : nv Y 246 92 ≤ 60 := w.1.2.2.2.2.2.1.2
theorem WWp.b58 {Y : Nat → Nat → Int32} (w : WWp Y) : nv Y 246 58 ≤ 16 := w.1.2.2.2.2.1.2
theorem WWp.b31 {Y : Nat → Nat → Int32} (w : WWp Y) : nv Y 246 31 ≤ 12 := w.1.2.1.2
theorem WWp.ca {Y : Nat → Nat → Int32} (w : WWp Y) : Wca Y := w.2.2.2.2.2.2.2.1
/-- the program -/
theorem c_wit {x s : ab_X} {D : Nat → UInt64} (r : RR x.1 s.1 D) (w : WWp s.1) {K : ab_X → Prop} (k : ∀ y : ab_X, (∀ c, ¬ (98 ≤ c ∧ c ≤ 157) → y.1 c = x.1 c) → (∀ k f, k < 60 → f ≠ 8 → y.1 (98 + k) f = x.1 (98 + k) f) → (∀ k, k < nv s.1 246 92 → y.1 (98 + k) 8 = wtF s.1 k) → (∀ k, nv s.1 246 92 ≤ k → k < 60 → y.1 (98 + k) 8 = x.1 (98 + k) 8) → y.2 = x.2 → K y) : wX0_witness x K := by
  have b := w.b92
  have tw := w.tw
  unfold wX0_witness
  by_cases cold : x.1 11 7 = nI 0
  · refine Lp2.ind (fun ii a y => ∃ j, j ≤ nv s.1 246 92 ∧ ii = nv s.1 246 92 - j ∧ a = nI j ∧ (∀ c, ¬ (98 ≤ c ∧ c ≤ 157) → y.1 c = x.1 c) ∧ (∀ k f, k < 60 → f ≠ 8 → y.1 (98 + k) f = x.1 (98 + k) f) ∧ (∀ k, k < j → y.1 (98 + k) 8 = wtF s.1 k) ∧ (∀ k, j ≤ k → k < 60 → y.1 (98 + k) 8 = x.1 (98 + k) 8) ∧ y.2 = x.2) (nv s.1 246 92) ⟨0, by omega, by omega, rfl, fun _ _ => rfl, fun _ _ _ _ => rfl, fun k hk => by omega, fun _ _ _ => rfl, rfl⟩ ?_
    rintro ii a y ⟨j, hj, hii, rfl, y1, y2, y3, y4, y5⟩ L hL
    unfold lX0_witness_2
    have e5 : y.1 66 5 = nI (nv s.1 246 92) := by rw [y1 66 (by omega), r.s92, w.v92]
    have e7 : y.1 11 7 = nI 0 := by rw [y1 11 (by omega), cold]
    by_cases e : j = nv s.1 246 92
    · rw [e] at y3 y4 ⊢
      simp (disch := first | assumption | omega) only [prv_n, nxt_n, q_sw, mc4, mc6, mc8, mc20, mc24, mc100, nv_rd, nb_rd, wr_rd, nI_lit, nI_add, pk_mul, pk_sub, q_div, cl_nI, vpi, q_eq, q_le, q_lt, n1_eq, n1_eq', n1_le, n1_lt, n1_ge, n1_gt, i_0m1, nlt_t, nlt_f, nle_t, nle_f, neq_f, f_below, f_within, f_isCorner, f_isIn, f_isCornerM, f_isStreet, f_isHouse, f_isCrew, f_isRow, f_has10, f_has0, jx_I, jx_N, jx_m1, jr_I, jr_N1, jr_N2, wr_2, isB_0, isB_1, true_and, and_true, and_self, false_and, and_false, true_or, or_true, false_or, or_false, not_true_eq_false, not_false_eq_true, forall_const, implies_true, false_implies, ne_eq, eq_self, if_true, if_false, Nat.zero_add, Nat.add_zero, Nat.mul_zero, Nat.zero_mul, Nat.mul_one, Nat.one_mul, Nat.add_sub_cancel, Nat.reduceEqDiff, Nat.reduceAdd, Nat.reduceMul, Nat.reduceSub, Nat.reduceLeDiff, Nat.reduceLT, Nat.reduceDiv, Nat.reduceMod, e5]
      exact k y y1 y2 y3 y4 y5
    have hj2 : j < nv s.1 246 92 := by omega
    obtain ⟨r0, -, r2, -, -, -, -, -, r8⟩ := r.ca.1 j hj2
    have f0 : y.1 (98 + j) 0 = s.1 310 j := by rw [y2 j 0 (by omega) (by decide), r0]
    have f2 : y.1 (98 + j) 2 = s.1 312 j := by rw [y2 j 2 (by omega) (by decide), r2]
    have f8 : y.1 (98 + j) 8 = s.1 318 j := by rw [y4 j (Nat.le_refl _) (by omega), r8]
    have b8 := (w.ca.1 j hj2).2.2.2.2.2
    have next : ∀ y' : ab_X, (∀ c, ¬ (98 ≤ c ∧ c ≤ 157) → y'.1 c = y.1 c) → (∀ k f, k < 60 → k ≠ j ∨ f ≠ 8 → y'.1 (98 + k) f = y.1 (98 + k) f) → y'.1 (98 + j) 8 = wtF s.1 j → y'.2 = y.2 → L (nI (j + 1)) y' := by
      intro y' p1 p2 p3 p4
      refine hL _ _ _ (by omega) ⟨j + 1, by omega, rfl, rfl, fun c hc => (p1 c hc).trans (y1 c hc), fun k f h1 h2 => (p2 k f h1 (Or.inr h2)).trans (y2 k f h1 h2), fun k hk => ?_, fun k h1 h2 => ?_, p4.trans y5⟩
      · by_cases e2 : k = j
        · subst e2; exact p3
        · rw [p2 k 8 (by omega) (Or.inl e2)]; exact y3 k (by omega)
      · rw [p2 k 8 h2 (Or.inl (by omega))]; exact y4 k (by omega) h2
    unfold wtF at next
    by_cases q1 : s.1 312 j = nI 0
    case neg =>
      rw [if_neg (fun u => q1 u.2.1)] at next
      simp (disch := first | assumption | omega) only [prv_n, nxt_n, q_sw, mc4, mc6, mc8, mc20, mc24, mc100, nv_rd, nb_rd, wr_rd, nI_lit, nI_add, pk_mul, pk_sub, q_div, cl_nI, vpi, q_eq, q_le, q_lt, n1_eq, n1_eq', n1_le, n1_lt, n1_ge, n1_gt, i_0m1, nlt_t, nlt_f, nle_t, nle_f, neq_f, f_below, f_within, f_isCorner, f_isIn, f_isCornerM, f_isStreet, f_isHouse, f_isCrew, f_isRow, f_has10, f_has0, jx_I, jx_N, jx_m1, jr_I, jr_N1, jr_N2, wr_2, isB_0, isB_1, true_and, and_true, and_self, false_and, and_false, true_or, or_true, false_or, or_false, not_true_eq_false, not_false_eq_true, forall_const, implies_true, false_implies, ne_eq, eq_self, if_true, if_false, Nat.zero_add, Nat.add_zero, Nat.mul_zero, Nat.zero_mul, Nat.mul_one, Nat.one_mul, Nat.add_sub_cancel, Nat.reduceEqDiff, Nat.reduceAdd, Nat.reduceMul, Nat.reduceSub, Nat.reduceLeDiff, Nat.reduceLT, Nat.reduceDiv, Nat.reduceMod, e5, e7, f2, q1]
      exact next y (fun _ _ => rfl) (fun _ _ _ _ => rfl) f8 rfl
    by_cases q2 : s.1 318 j = nI 0
    case neg =>
      have one : s.1 318 j = nI 1 := b8.resolve_left q2
      simp (disch := first | assumption | omega) only [prv_n, nxt_n, q_sw, mc4, mc6, mc8, mc20, mc24, mc100, nv_rd, nb_rd, wr_rd, nI_lit, nI_add, pk_mul, pk_sub, q_div, cl_nI, vpi, q_eq, q_le, q_lt, n1_eq, n1_eq', n1_le, n1_lt, n1_ge, n1_gt, i_0m1, nlt_t, nlt_f, nle_t, nle_f, neq_f, f_below, f_within, f_isCorner, f_isIn, f_isCornerM, f_isStreet, f_isHouse, f_isCrew, f_isRow, f_has10, f_has0, jx_I, jx_N, jx_m1, jr_I, jr_N1, jr_N2, wr_2, isB_0, isB_1, true_and, and_true, and_self, false_and, and_false, true_or, or_true, false_or, or_false, not_true_eq_false, not_false_eq_true, forall_const, implies_true, false_implies, ne_eq, eq_self, if_true, if_false, Nat.zero_add, Nat.add_zero, Nat.mul_zero, Nat.zero_mul, Nat.mul_one, Nat.one_mul, Nat.add_sub_cancel, Nat.reduceEqDiff, Nat.reduceAdd, Nat.reduceMul, Nat.reduceSub, Nat.reduceLeDiff, Nat.reduceLT, Nat.reduceDiv, Nat.reduceMod, e5, e7, f2, q1, f8, q2]
      refine next y (fun _ _ => rfl) (fun _ _ _ _ => rfl) ?_ rfl
      split
      · rw [f8, one]
      · exact f8
    have ty : TR 11 y.1 s.1 := by
      have t := r.tr
      refine ⟨by rw [y1 9 (by omega)]; exact t.1, Rho_cells tw t.2.1 (fun c h1 h2 => y1 c (by omega)), fun k p => ?_, fun k p => ?_, ?_, ?_⟩
      · rw [y1 12 (by omega), y1 13 (by omega), y1 17 (by omega)]; exact t.2.2.1 k p
      · rw [y1 15 (by omega), y1 16 (by omega)]; exact t.2.2.2.1 k p
      · rw [y1 11 (by omega)]; exact t.2.2.2.2.1
      · rw [y1 11 (by omega)]; exact t.2.2.2.2.2
    simp (disch := first | assumption | omega) only [prv_n, nxt_n, q_sw, mc4, mc6, mc8, mc20, mc24, mc100, nv_rd, nb_rd, wr_rd, nI_lit, nI_add, pk_mul, pk_sub, q_div, cl_nI, vpi, q_eq, q_le, q_lt, n1_eq, n1_eq', n1_le, n1_lt, n1_ge, n1_gt, i_0m1, nlt_t, nlt_f, nle_t, nle_f, neq_f, f_below, f_within, f_isCorner, f_isIn, f_isCornerM, f_isStreet, f_isHouse, f_isCrew, f_isRow, f_has10, f_has0, jx_I, jx_N, jx_m1, jr_I, jr_N1, jr_N2, wr_2, isB_0, isB_1, true_and, and_true, and_self, false_and, and_false, true_or, or_true, false_or, or_false, not_true_eq_false, not_false_eq_true, forall_const, implies_true, false_implies, ne_eq, eq_self, if_true, if_false, Nat.zero_add, Nat.add_zero, Nat.mul_zero, Nat.zero_mul, Nat.mul_one, Nat.one_mul, Nat.add_sub_cancel, Nat.reduceEqDiff, Nat.reduceAdd, Nat.reduceMul, Nat.reduceSub, Nat.reduceLeDiff, Nat.reduceLT, Nat.reduceDiv, Nat.reduceMod, e5, e7, f2, q1, f8, q2, f0]
    refine c_worst ty tw ?_
    by_cases q3 : wor s.1 (s.1 310 j) = -nI 1
    · rw [if_neg (fun u => u.2.2 q3)] at next
      simp (disch := first | assumption | omega) only [prv_n, nxt_n, q_sw, mc4, mc6, mc8, mc20, mc24, mc100, nv_rd, nb_rd, wr_rd, nI_lit, nI_add, pk_mul, pk_sub, q_div, cl_nI, vpi, q_eq, q_le, q_lt, n1_eq, n1_eq', n1_le, n1_lt, n1_ge, n1_gt, i_0m1, nlt_t, nlt_f, nle_t, nle_f, neq_f, f_below, f_within, f_isCorner, f_isIn, f_isCornerM, f_isStreet, f_isHouse, f_isCrew, f_isRow, f_has10, f_has0, jx_I, jx_N, jx_m1, jr_I, jr_N1, jr_N2, wr_2, isB_0, isB_1, true_and, and_true, and_self, false_and, and_false, true_or, or_true, false_or, or_false, not_true_eq_false, not_false_eq_true, forall_const, implies_true, false_implies, ne_eq, eq_self, if_true, if_false, Nat.zero_add, Nat.add_zero, Nat.mul_zero, Nat.zero_mul, Nat.mul_one, Nat.one_mul, Nat.add_sub_cancel, Nat.reduceEqDiff, Nat.reduceAdd, Nat.reduceMul, Nat.reduceSub, Nat.reduceLeDiff, Nat.reduceLT, Nat.reduceDiv, Nat.reduceMod, q3]
      refine next _ (fun c hc => by rw [wr_n (by omega)]) (fun k f h1 h2 => by rw [wr_ne (by omega)]) (by rw [wr_e, q2]) rfl
    · rw [if_pos ⟨hj2, q1, q3⟩] at next
      simp (disch := first | assumption | omega) only [prv_n, nxt_n, q_sw, mc4, mc6, mc8, mc20, mc24, mc100, nv_rd, nb_rd, wr_rd, nI_lit, nI_add, pk_mul, pk_sub, q_div, cl_nI, vpi, q_eq, q_le, q_lt, n1_eq, n1_eq', n1_le, n1_lt, n1_ge, n1_gt, i_0m1, nlt_t, nlt_f, nle_t, nle_f, neq_f, f_below, f_within, f_isCorner, f_isIn, f_isCornerM, f_isStreet, f_isHouse, f_isCrew, f_isRow, f_has10, f_has0, jx_I, jx_N, jx_m1, jr_I, jr_N1, jr_N2, wr_2, isB_0, isB_1, true_and, and_true, and_self, false_and, and_false, true_or, or_true, false_or, or_false, not_true_eq_false, not_false_eq_true, forall_const, implies_true, false_implies, ne_eq, eq_self, if_true, if_false, Nat.zero_add, Nat.add_zero, Nat.mul_zero, Nat.zero_mul, Nat.mul_one, Nat.one_mul, Nat.add_sub_cancel, Nat.reduceEqDiff, Nat.reduceAdd, Nat.reduceMul, Nat.reduceSub, Nat.reduceLeDiff, Nat.reduceLT, Nat.reduceDiv, Nat.reduceMod, q3]
      refine next _ (fun c hc => by rw [wr_n (by omega)]) (fun k f h1 h2 => by rw [wr_ne (by omega)]) (by rw [wr_e]) rfl
  · have zz := r.tr.2.2.2.2.2 cold
    have wn : ∀ c, wor s.1 c = -nI 1 := by
      intro c
      rcases wor_d s.1 c with ⟨e, -⟩ | ⟨h, hh, e, p, -⟩
      · exact e
      · have rm := rm_le tw hh
        have := tw.b
        have z0 : bg s.1 h = 0 := cn_0 (fun i hi => bu_f1 (by rw [nv_of (zz _ (by omega)) (by decide)]; decide))
        omega
    have fin : K x := k x (fun _ _ => rfl) (fun _ _ _ _ => rfl) (fun k hk => by unfold wtF; rw [if_neg (fun u => u.2.2 (wn _))]; exact (r.ca.1 k hk).2.2.2.2.2.2.2.2) (fun _ _ _ => rfl) rfl
    refine Lp2.seq 0 (fun _ => nI 0) (fun _ => x) rfl rfl (fun i hi => absurd hi (Nat.not_lt_zero i)) (fun L => ?_)
    unfold lX0_witness_2
    simp (disch := first | assumption | omega) only [prv_n, nxt_n, q_sw, mc4, mc6, mc8, mc20, mc24, mc100, nv_rd, nb_rd, wr_rd, nI_lit, nI_add, pk_mul, pk_sub, q_div, cl_nI, vpi, q_eq, q_le, q_lt, n1_eq, n1_eq', n1_le, n1_lt, n1_ge, n1_gt, i_0m1, nlt_t, nlt_f, nle_t, nle_f, neq_f, f_below, f_within, f_isCorner, f_isIn, f_isCornerM, f_isStreet, f_isHouse, f_isCrew, f_isRow, f_has10, f_has0, jx_I, jx_N, jx_m1, jr_I, jr_N1, jr_N2, wr_2, isB_0, isB_1, true_and, and_true, and_self, false_and, and_false, true_or, or_true, false_or, or_false, not_true_eq_false, not_false_eq_true, forall_const, implies_true, false_implies, ne_eq, eq_self, if_true, if_false, Nat.zero_add, Nat.add_zero, Nat.mul_zero, Nat.zero_mul, Nat.mul_one, Nat.one_mul, Nat.add_sub_cancel, Nat.reduceEqDiff, Nat.reduceAdd, Nat.reduceMul, Nat.reduceSub, Nat.reduceLeDiff, Nat.reduceLT, Nat.reduceDiv, Nat.reduceMod, cold, br_same, br_same']
    exact fin
/-- then the whole invariant stands again -/
theorem wit_inv {x y s : ab_X} (r : RR x.1 s.1 (s.2.1 329)) (w : WWp s.1) (y1 : ∀ c, ¬ (98 ≤ c ∧ c ≤ 157) → y.1 c = x.1 c) (y2 : ∀ k f, k < 60 → f ≠ 8 → y.1 (98 + k) f = x.1 (98 + k) f) (y3 : ∀ k, k < nv s.1 246 92 → y.1 (98 + k) 8 = wtF s.1 k) (y4 : ∀ k, nv s.1 246 92 ≤ k → k < 60 → y.1 (98 + k) 8 = x.1 (98 + k) 8) : Inv2 y (wtS s) := by
  have b := w.b92
  have sc : ∀ f, (wtS s).1 246 f = s.1 246 f := fun f => by rw [wtS_o (by decide)]
  have d : (wtS s).2.1 329 = s.2.1 329 := rfl
  refine Inv2_of ?_ (WWp.w ?_ ?_)
  · rw [d]
    refine ⟨?_, ?_, ?_, ?_, ?_, ?_, ?_, ?_, ?_, ?_, fun k p => by rw [wtS_o (by decide)]; exact r.wa k p⟩
    · unfold Rsc
      rw [y1 1 (by omega), y1 9 (by omega), y1 66 (by omega), y1 158 (by omega), y1 165 (by omega), y1 0 (by omega), wtS_o (by decide)]
      exact r.sc
    · exact Rst_fr r.st (fun c p q => y1 c (by omega)) (fun c p q => wtS_o (by omega)) (sc _)
    · exact Rho_fr r.ho (fun c p q => y1 c (by omega)) (fun c p q => wtS_o (by omega)) (fun c p q => wtS_o (by omega)) (sc _) (fun i p => by have := w.b31; omega)
    · exact Rfi_fr r.fi (fun c p q => y1 c (by omega)) (fun c p q => y1 c (by omega)) (fun c p q => y1 c (by omega)) (by rw [y1 11 (by omega)]) (fun c p q => wtS_o (by omega)) (fun c p q => wtS_o (by omega)) (fun c p q => wtS_o (by omega))
    · exact Rmh_fr r.mh (fun c p q => y1 c (by omega)) (fun c p q => wtS_o (by omega)) (sc _) (sc _)
    · exact Rcr_fr r.cr (fun c f p q => by rw [y1 (82 + c) (by omega)]) (fun c p q => wtS_o (by omega)) (fun c p q => wtS_o (by omega)) (fun c p q => wtS_o (by omega)) (sc _) (fun i p => by have := w.b58; omega)
    · obtain ⟨c1, c2⟩ := r.ca
      refine ⟨fun k p => ?_, fun k p q => ?_⟩
      · rw [wtS_nv (by decide)] at p
        obtain ⟨a0, a1, a2, a3, a4, a5, a6, a7, a8⟩ := c1 k p
        have o := fun f hf => y2 k f (by omega) hf
        rw [o 0 (by decide), o 1 (by decide), o 2 (by decide), o 3 (by decide), o 4 (by decide), o 5 (by decide), o 6 (by decide), o 7 (by decide), wtS_o (c := 310) (by decide), wtS_o (c := 311) (by decide), wtS_o (c := 312) (by decide), wtS_o (c := 313) (by decide), wtS_o (c := 314) (by decide), wtS_o (c := 315) (by decide), wtS_o (c := 316) (by decide), wtS_o (c := 317) (by decide), wtS_e]
        exact ⟨a0, a1, a2, a3, a4, a5, a6, a7, y3 k p⟩
      · rw [wtS_nv (by decide)] at p
        have o := fun f hf => y2 k f q hf
        rw [o 1 (by decide), o 2 (by decide), o 4 (by decide), o 5 (by decide), o 6 (by decide), o 7 (by decide), y4 k p q]
        exact c2 k p q
    · exact Rev_fr r.ev (fun c p q => y1 c (by omega)) (fun c p q => wtS_o (by omega)) (fun c p q => wtS_o (by omega)) (sc _) (sc _)
    · exact Rta_fr r.ta (fun c p q => y1 c (by omega)) (fun c p q => wtS_o (by omega)) (sc _)
    · exact Rro_fr r.ro (fun c p q => y1 c (by omega)) (fun c p q => wtS_o (by omega)) (sc _) rfl
  · obtain ⟨w1, w2, w3, w4, w5, w6, w7, w8, w9⟩ := w
    refine ⟨Wsc_fr w1 (sc _) (sc _) (sc _) (sc _) (sc _) (sc _) (sc _) (sc _) (sc _) (sc _) (sc _) (sc _), Wst_fr w2 (fun c p q => wtS_o (by omega)) (fun c p q => wtS_o (by omega)) (sc _), Wwk_fr w3 (fun c p q => wtS_o (by omega)), Who_fr w4 (fun c p q => wtS_o (by omega)) (fun c p q => wtS_o (by omega)) (fun c p q => wtS_o (by omega)) (sc _), Wfi_fr w5 (fun c p q => wtS_o (by omega)) (fun c p q => wtS_o (by omega)) (fun c p q => wtS_o (by omega)) (fun c p q => wtS_o (by omega)) (sc _), Wmh_fr w6 (fun c p q => wtS_o (by omega)) (sc _) (sc _), Wcr_fr w7 (fun c p q => wtS_o (by omega)) (fun c p q => wtS_o (by omega)) (fun c p q => wtS_o (by omega)) (fun c p q => wtS_o (by omega)) (sc _) (sc _) (sc _) (sc _), ?_, Wev_fr w9 (fun c p q => wtS_o (by omega)) (fun c p q => wtS_o (by omega)) (sc _) (sc _) (sc _) (sc _)⟩
    obtain ⟨c1, c2, c3⟩ := w8
    have nbo : ∀ c k e, c ≠ 318 → nbd s.1 c k e → nbd (wtS s).1 c k e := fun c k e hc u => by unfold nbd nv at u ⊢; rw [wtS_o hc]; exact u
    refine ⟨fun k p => ?_, fun k p q => ?_, fun j k p q u v => ?_⟩
    · rw [wtS_nv (by decide)] at p
      obtain ⟨a1, a2, a3, a4, a5, a6⟩ := c1 k p
      rw [wtS_nv (c := 313) (by decide), wtS_nv (c := 246) (k := 1) (by decide), wtS_e]
      refine ⟨nbo _ _ _ (by decide) a1, nbo _ _ _ (by decide) a2, nbo _ _ _ (by decide) a3, nbo _ _ _ (by decide) a4, a5, ?_⟩
      unfold wtF
      split
      · exact Or.inr rfl
      · exact a6
    · rw [wtS_nv (by decide)] at p
      rw [wtS_o (c := 312) (by decide), wtS_o (c := 315) (by decide), wtS_o (c := 316) (by decide), wtS_o (c := 317) (by decide), wtS_e]
      obtain ⟨a1, a2, a3, a4, a5⟩ := c2 k p q
      refine ⟨a1, a2, a3, a4, ?_⟩
      unfold wtF
      rw [if_neg (fun u => by omega)]
      exact a5
    · rw [wtS_nv (by decide)] at q
      rw [wtS_o (by decide)] at u v
      rw [wtS_o (by decide)]
      exact c3 j k p q u v
  · intro k p u v
    rw [wtS_nv (by decide)] at p
    rw [wtS_o (by decide)] at u
    rw [wtS_wor, wtS_o (by decide)] at v
    rw [wtS_e]
    unfold wtF
    rw [if_pos ⟨p, u, v⟩]
