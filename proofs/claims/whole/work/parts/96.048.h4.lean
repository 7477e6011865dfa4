/-! THE FIRE, the program: what burns as the minute begins. -/
theorem Rho_cells {X X' Y : Nat → Nat → Int32} (w : TW Y) (h : Rho X Y) (e : ∀ c, 30 ≤ c → c ≤ 65 → X' c = X c) : Rho X' Y := Rho_fr h e (fun _ _ _ => rfl) (fun _ _ _ => rfl) rfl (fun i p => by have := w.b; omega)
theorem TR_lit {x y : ab_X} {Y : Nat → Nat → Int32} {v : Nat} (hv : v = 11 ∨ v = 19) (w : TW Y) (t : TR v x.1 Y) (e : ∀ c, c ≠ v + 6 → c ≠ v + 7 → y.1 c = x.1 c) (b : ∀ k, k < 288 → isB (y.1 (v + 6) k)) : TR v y.1 Y := by
  refine ⟨by rw [e 9 (by omega) (by omega)]; exact t.1, Rho_cells w t.2.1 (fun c h1 h2 => e c (by omega) (by omega)), fun k p => ?_, fun k p => ?_, ?_, ?_⟩
  · rw [e (v + 1) (by omega) (by omega), e (v + 2) (by omega) (by omega)]
    exact ⟨(t.2.2.1 k p).1, (t.2.2.1 k p).2.1, b k p⟩
  · rw [e (v + 4) (by omega) (by omega), e (v + 5) (by omega) (by omega)]; exact t.2.2.2.1 k p
  · rw [e v (by omega) (by omega)]; exact t.2.2.2.2.1
  · rw [e v (by omega) (by omega)]; exact t.2.2.2.2.2
theorem bb_B (b : Bool) : isB (bb b) := by cases b; exact Or.inl rfl; exact Or.inr rfl
def NoteP (v : Nat) (Y : Nat → Nat → Int32) (h p f : Nat) (x y : ab_X) : Prop := (∀ c, c ≠ v + 6 → c ≠ v + 7 → y.1 c = x.1 c) ∧ y.2 = x.2 ∧ (∀ k, k < 288 → isB (y.1 (v + 6) k)) ∧ (∀ r, r < p → y.1 (v + 6) (24 * h + r) = bb (bu Y (24 * h + r))) ∧ (∀ k, k < 24 * h ∨ 24 * h + p ≤ k → y.1 (v + 6) k = x.1 (v + 6) k) ∧ (∀ g, g < f → y.1 (v + 7) (6 * h + g) = nI (bf Y h g)) ∧ (∀ j, j < 6 * h ∨ 6 * h + f ≤ j → y.1 (v + 7) j = x.1 (v + 7) j)
theorem c_note {x : ab_X} {Y : Nat → Nat → Int32} {v h : Nat} (hv : v = 11 ∨ v = 19) (t : TR v x.1 Y) (w : TW Y) (hh : h < nv Y 246 31) {K : ab_X → Prop} (k : ∀ y, NoteP v Y h (nv Y 256 h * nv Y 257 h) (nv Y 256 h) x y → K y) : wX3_noteBurning v (30 + 3 * h) x K := by
  have b := w.b
  have rm := rm_le w hh
  obtain ⟨-, -, w3, -, w5, -⟩ := w.2.1.1 h hh
  have u3 := w3.2
  have u5 := w5.2
  have a3 := w3.1
  have a5 := w5.1
  unfold wX3_noteBurning
  refine Lp2.ind (fun i a y => ∃ f, f ≤ nv Y 256 h ∧ i = nv Y 256 h - f ∧ a = nI f ∧ NoteP v Y h (f * nv Y 257 h) f x y) (nv Y 256 h) ⟨0, by omega, by omega, rfl, fun _ _ _ => rfl, rfl, fun k p => (t.2.2.1 k p).2.2, fun r hr => by omega, fun _ _ => rfl, fun g hg => by omega, fun _ _ => rfl⟩ ?_
  rintro i a y ⟨f, hf, rfl, rfl, hy⟩ L hL
  have ty := TR_lit hv w t hy.1 hy.2.2.1
  obtain ⟨-, -, t3, t4, -⟩ := ty.2.1.2.2.1 h hh
  unfold lX3_noteBurning_2
  by_cases e : f = nv Y 256 h
  · rw [e] at hy ⊢
    simp (disch := first | assumption | omega) only [prv_n, nxt_n, q_sw, mc4, mc6, mc8, mc20, mc24, mc100, nv_rd, nb_rd, wr_rd, nI_lit, nI_add, pk_mul, pk_sub, q_div, cl_nI, vpi, q_eq, q_le, q_lt, n1_eq, n1_eq', n1_le, n1_lt, n1_ge, n1_gt, i_0m1, nlt_t, nlt_f, nle_t, nle_f, neq_f, f_below, f_within, f_isCorner, f_isIn, f_isCornerM, f_isStreet, f_isHouse, f_isCrew, f_isRow, f_has10, f_has0, jx_I, jx_N, jx_m1, jr_I, jr_N1, jr_N2, wr_2, isB_0, isB_1, true_and, and_true, and_self, false_and, and_false, true_or, or_true, false_or, or_false, not_true_eq_false, not_false_eq_true, forall_const, implies_true, false_implies, ne_eq, eq_self, if_true, if_false, Nat.zero_add, Nat.add_zero, Nat.mul_zero, Nat.zero_mul, Nat.mul_one, Nat.one_mul, Nat.add_sub_cancel, Nat.reduceEqDiff, Nat.reduceAdd, Nat.reduceMul, Nat.reduceSub, Nat.reduceLeDiff, Nat.reduceLT, Nat.reduceDiv, Nat.reduceMod, t3, a3]
    exact k y hy
  simp (disch := first | assumption | omega) only [prv_n, nxt_n, q_sw, mc4, mc6, mc8, mc20, mc24, mc100, nv_rd, nb_rd, wr_rd, nI_lit, nI_add, pk_mul, pk_sub, q_div, cl_nI, vpi, q_eq, q_le, q_lt, n1_eq, n1_eq', n1_le, n1_lt, n1_ge, n1_gt, i_0m1, nlt_t, nlt_f, nle_t, nle_f, neq_f, f_below, f_within, f_isCorner, f_isIn, f_isCornerM, f_isStreet, f_isHouse, f_isCrew, f_isRow, f_has10, f_has0, jx_I, jx_N, jx_m1, jr_I, jr_N1, jr_N2, wr_2, isB_0, isB_1, true_and, and_true, and_self, false_and, and_false, true_or, or_true, false_or, or_false, not_true_eq_false, not_false_eq_true, forall_const, implies_true, false_implies, ne_eq, eq_self, if_true, if_false, Nat.zero_add, Nat.add_zero, Nat.mul_zero, Nat.zero_mul, Nat.mul_one, Nat.one_mul, Nat.add_sub_cancel, Nat.reduceEqDiff, Nat.reduceAdd, Nat.reduceMul, Nat.reduceSub, Nat.reduceLeDiff, Nat.reduceLT, Nat.reduceDiv, Nat.reduceMod, t3, a3]
  have hf2 : f < nv Y 256 h := by omega
  refine Lp3.ind (fun i a b z => ∃ q, q ≤ nv Y 257 h ∧ i = nv Y 257 h - q ∧ a = nI (cn (fun q => bu Y (24 * h + (f * nv Y 257 h + q))) q) ∧ b = nI q ∧ NoteP v Y h (f * nv Y 257 h + q) f x z) (nv Y 257 h) ⟨0, by omega, by omega, rfl, rfl, hy⟩ ?_
  rintro i a b z ⟨q, hq, rfl, rfl, rfl, hz⟩ L2 hL2
  have tz := TR_lit hv w t hz.1 hz.2.2.1
  obtain ⟨-, -, z3, z4, -⟩ := tz.2.1.2.2.1 h hh
  have z0 := (tz.2.1.1 h (by omega)).1
  obtain ⟨n1, n2, n3, n4, n5, n6, n7⟩ := hz
  unfold lX3_noteBurning_15 wX4_place wX3_noteBurning_68
  have cl := cn_le (fun q => bu Y (24 * h + (f * nv Y 257 h + q))) q
  by_cases e2 : q = nv Y 257 h
  · rw [e2] at n4 n5 ⊢
    simp (disch := first | assumption | omega) only [prv_n, nxt_n, q_sw, mc4, mc6, mc8, mc20, mc24, mc100, nv_rd, nb_rd, wr_rd, nI_lit, nI_add, pk_mul, pk_sub, q_div, cl_nI, vpi, q_eq, q_le, q_lt, n1_eq, n1_eq', n1_le, n1_lt, n1_ge, n1_gt, i_0m1, nlt_t, nlt_f, nle_t, nle_f, neq_f, f_below, f_within, f_isCorner, f_isIn, f_isCornerM, f_isStreet, f_isHouse, f_isCrew, f_isRow, f_has10, f_has0, jx_I, jx_N, jx_m1, jr_I, jr_N1, jr_N2, wr_2, isB_0, isB_1, true_and, and_true, and_self, false_and, and_false, true_or, or_true, false_or, or_false, not_true_eq_false, not_false_eq_true, forall_const, implies_true, false_implies, ne_eq, eq_self, if_true, if_false, Nat.zero_add, Nat.add_zero, Nat.mul_zero, Nat.zero_mul, Nat.mul_one, Nat.one_mul, Nat.add_sub_cancel, Nat.reduceEqDiff, Nat.reduceAdd, Nat.reduceMul, Nat.reduceSub, Nat.reduceLeDiff, Nat.reduceLT, Nat.reduceDiv, Nat.reduceMod, z4, a5]
    refine c_storey tz.2.1 (by omega) ?_
    have sm1 : (f + 1) * nv Y 257 h = f * nv Y 257 h + nv Y 257 h := Nat.succ_mul _ _
    simp (disch := first | assumption | omega) only [prv_n, nxt_n, q_sw, mc4, mc6, mc8, mc20, mc24, mc100, nv_rd, nb_rd, wr_rd, nI_lit, nI_add, pk_mul, pk_sub, q_div, cl_nI, vpi, q_eq, q_le, q_lt, n1_eq, n1_eq', n1_le, n1_lt, n1_ge, n1_gt, i_0m1, nlt_t, nlt_f, nle_t, nle_f, neq_f, f_below, f_within, f_isCorner, f_isIn, f_isCornerM, f_isStreet, f_isHouse, f_isCrew, f_isRow, f_has10, f_has0, jx_I, jx_N, jx_m1, jr_I, jr_N1, jr_N2, wr_2, isB_0, isB_1, true_and, and_true, and_self, false_and, and_false, true_or, or_true, false_or, or_false, not_true_eq_false, not_false_eq_true, forall_const, implies_true, false_implies, ne_eq, eq_self, if_true, if_false, Nat.zero_add, Nat.add_zero, Nat.mul_zero, Nat.zero_mul, Nat.mul_one, Nat.one_mul, Nat.add_sub_cancel, Nat.reduceEqDiff, Nat.reduceAdd, Nat.reduceMul, Nat.reduceSub, Nat.reduceLeDiff, Nat.reduceLT, Nat.reduceDiv, Nat.reduceMod]
    refine hL _ _ _ (by omega) ⟨f + 1, by omega, rfl, rfl, fun c h1 h2 => by rw [wr_n h2]; exact n1 c h1 h2, n2, fun k p => by rw [wr_n (by omega)]; exact n3 k p, fun r hr => ?_, fun k p => ?_, fun g hg => ?_, fun j p => ?_⟩
    · rw [wr_n (by omega)]; exact n4 r (by omega)
    · rw [wr_n (by omega)]; exact n5 k (by omega)
    · by_cases e3 : g = f
      · subst e3; rw [wr_e]; rfl
      · rw [wr_k (by omega)]; exact n6 g (by omega)
    · rw [wr_k (by omega)]; exact n7 j (by omega)
  · have rl := rmlt hf2 (show q < nv Y 257 h by omega)
    simp (disch := first | assumption | omega) only [prv_n, nxt_n, q_sw, mc4, mc6, mc8, mc20, mc24, mc100, nv_rd, nb_rd, wr_rd, nI_lit, nI_add, pk_mul, pk_sub, q_div, cl_nI, vpi, q_eq, q_le, q_lt, n1_eq, n1_eq', n1_le, n1_lt, n1_ge, n1_gt, i_0m1, nlt_t, nlt_f, nle_t, nle_f, neq_f, f_below, f_within, f_isCorner, f_isIn, f_isCornerM, f_isStreet, f_isHouse, f_isCrew, f_isRow, f_has10, f_has0, jx_I, jx_N, jx_m1, jr_I, jr_N1, jr_N2, wr_2, isB_0, isB_1, true_and, and_true, and_self, false_and, and_false, true_or, or_true, false_or, or_false, not_true_eq_false, not_false_eq_true, forall_const, implies_true, false_implies, ne_eq, eq_self, if_true, if_false, Nat.zero_add, Nat.add_zero, Nat.mul_zero, Nat.zero_mul, Nat.mul_one, Nat.one_mul, Nat.add_sub_cancel, Nat.reduceEqDiff, Nat.reduceAdd, Nat.reduceMul, Nat.reduceSub, Nat.reduceLeDiff, Nat.reduceLT, Nat.reduceDiv, Nat.reduceMod, z4, a5, z0]
    refine c_burns tz w (by omega) ?_
    have go : L2 (nI (cn (fun q => bu Y (24 * h + (f * nv Y 257 h + q))) (q + 1))) (nI (q + 1)) (wr z (v + 6) (24 * h + (f * nv Y 257 h + q)) (bb (bu Y (24 * h + (f * nv Y 257 h + q))))) := by
      refine hL2 _ _ _ _ (by omega) ⟨q + 1, by omega, rfl, rfl, rfl, fun c h1 h2 => by rw [wr_n h1]; exact n1 c h1 h2, n2, fun k p => ?_, fun r hr => ?_, fun k p => ?_, fun g hg => by rw [wr_n (by omega)]; exact n6 g hg, fun j p => by rw [wr_n (by omega)]; exact n7 j p⟩
      · by_cases e3 : k = 24 * h + (f * nv Y 257 h + q)
        · subst e3; rw [wr_e]; exact bb_B _
        · rw [wr_k e3]; exact n3 k p
      · by_cases e3 : r = f * nv Y 257 h + q
        · subst e3; rw [wr_e]
        · rw [wr_k (by omega)]; exact n4 r (by omega)
      · rw [wr_k (by omega)]; exact n5 k (by omega)
    have ce : cn (fun q => bu Y (24 * h + (f * nv Y 257 h + q))) (q + 1) = cn (fun q => bu Y (24 * h + (f * nv Y 257 h + q))) q + (if bu Y (24 * h + (f * nv Y 257 h + q)) then 1 else 0) := rfl
    rw [ce] at go
    cases q2 : bu Y (24 * h + (f * nv Y 257 h + q))
    · rw [q2, if_neg (by decide), Nat.add_zero] at go
      rw [bb_f] at go ⊢
      simp (disch := first | assumption | omega) only [prv_n, nxt_n, q_sw, mc4, mc6, mc8, mc20, mc24, mc100, nv_rd, nb_rd, wr_rd, nI_lit, nI_add, pk_mul, pk_sub, q_div, cl_nI, vpi, q_eq, q_le, q_lt, n1_eq, n1_eq', n1_le, n1_lt, n1_ge, n1_gt, i_0m1, nlt_t, nlt_f, nle_t, nle_f, neq_f, f_below, f_within, f_isCorner, f_isIn, f_isCornerM, f_isStreet, f_isHouse, f_isCrew, f_isRow, f_has10, f_has0, jx_I, jx_N, jx_m1, jr_I, jr_N1, jr_N2, wr_2, isB_0, isB_1, true_and, and_true, and_self, false_and, and_false, true_or, or_true, false_or, or_false, not_true_eq_false, not_false_eq_true, forall_const, implies_true, false_implies, ne_eq, eq_self, if_true, if_false, Nat.zero_add, Nat.add_zero, Nat.mul_zero, Nat.zero_mul, Nat.mul_one, Nat.one_mul, Nat.add_sub_cancel, Nat.reduceEqDiff, Nat.reduceAdd, Nat.reduceMul, Nat.reduceSub, Nat.reduceLeDiff, Nat.reduceLT, Nat.reduceDiv, Nat.reduceMod]
      exact go
    · rw [q2, if_pos rfl] at go
      rw [bb_t] at go ⊢
      simp (disch := first | assumption | omega) only [prv_n, nxt_n, q_sw, mc4, mc6, mc8, mc20, mc24, mc100, nv_rd, nb_rd, wr_rd, nI_lit, nI_add, pk_mul, pk_sub, q_div, cl_nI, vpi, q_eq, q_le, q_lt, n1_eq, n1_eq', n1_le, n1_lt, n1_ge, n1_gt, i_0m1, nlt_t, nlt_f, nle_t, nle_f, neq_f, f_below, f_within, f_isCorner, f_isIn, f_isCornerM, f_isStreet, f_isHouse, f_isCrew, f_isRow, f_has10, f_has0, jx_I, jx_N, jx_m1, jr_I, jr_N1, jr_N2, wr_2, isB_0, isB_1, true_and, and_true, and_self, false_and, and_false, true_or, or_true, false_or, or_false, not_true_eq_false, not_false_eq_true, forall_const, implies_true, false_implies, ne_eq, eq_self, if_true, if_false, Nat.zero_add, Nat.add_zero, Nat.mul_zero, Nat.zero_mul, Nat.mul_one, Nat.one_mul, Nat.add_sub_cancel, Nat.reduceEqDiff, Nat.reduceAdd, Nat.reduceMul, Nat.reduceSub, Nat.reduceLeDiff, Nat.reduceLT, Nat.reduceDiv, Nat.reduceMod]
      exact go
/-- all houses -/
def NoteA (v : Nat) (Y : Nat → Nat → Int32) (n : Nat) (x y : ab_X) : Prop := (∀ c, c ≠ v + 6 → c ≠ v + 7 → y.1 c = x.1 c) ∧ y.2 = x.2 ∧ (∀ k, k < 288 → isB (y.1 (v + 6) k)) ∧ (∀ h r, h < n → r < nv Y 256 h * nv Y 257 h → y.1 (v + 6) (24 * h + r) = bb (bu Y (24 * h + r))) ∧ (∀ h f, h < n → f < nv Y 256 h → y.1 (v + 7) (6 * h + f) = nI (bf Y h f))
theorem c_noteAll {x : ab_X} {Y : Nat → Nat → Int32} {v : Nat} {V : Int32} (hv : v = 11 ∨ v = 19) (t : TR v x.1 Y) (w : TW Y) (hV : V = nI (nv Y 246 31)) {K : ab_X → Prop} (k : ∀ y, NoteA v Y (nv Y 246 31) x y → Lp2 (lX3_step_35 v V K) 0 (wr y v 7 1)) : Lp2 (lX3_step_10 v V K) 0 x := by
  have b := w.b
  subst hV
  refine Lp2.ind (fun i a y => ∃ h, h ≤ nv Y 246 31 ∧ i = nv Y 246 31 - h ∧ a = nI h ∧ NoteA v Y h x y) (nv Y 246 31) ⟨0, by omega, by omega, rfl, fun _ _ _ => rfl, rfl, fun k p => (t.2.2.1 k p).2.2, fun h r hh => by omega, fun h f hh => by omega⟩ ?_
  rintro i a y ⟨h, hh, rfl, rfl, hy⟩ L hL
  unfold lX3_step_10
  by_cases e : h = nv Y 246 31
  · rw [e] at hy ⊢
    simp (disch := first | assumption | omega) only [prv_n, nxt_n, q_sw, mc4, mc6, mc8, mc20, mc24, mc100, nv_rd, nb_rd, wr_rd, nI_lit, nI_add, pk_mul, pk_sub, q_div, cl_nI, vpi, q_eq, q_le, q_lt, n1_eq, n1_eq', n1_le, n1_lt, n1_ge, n1_gt, i_0m1, nlt_t, nlt_f, nle_t, nle_f, neq_f, f_below, f_within, f_isCorner, f_isIn, f_isCornerM, f_isStreet, f_isHouse, f_isCrew, f_isRow, f_has10, f_has0, jx_I, jx_N, jx_m1, jr_I, jr_N1, jr_N2, wr_2, isB_0, isB_1, true_and, and_true, and_self, false_and, and_false, true_or, or_true, false_or, or_false, not_true_eq_false, not_false_eq_true, forall_const, implies_true, false_implies, ne_eq, eq_self, if_true, if_false, Nat.zero_add, Nat.add_zero, Nat.mul_zero, Nat.zero_mul, Nat.mul_one, Nat.one_mul, Nat.add_sub_cancel, Nat.reduceEqDiff, Nat.reduceAdd, Nat.reduceMul, Nat.reduceSub, Nat.reduceLeDiff, Nat.reduceLT, Nat.reduceDiv, Nat.reduceMod]
    exact k y hy
  simp (disch := first | assumption | omega) only [prv_n, nxt_n, q_sw, mc4, mc6, mc8, mc20, mc24, mc100, nv_rd, nb_rd, wr_rd, nI_lit, nI_add, pk_mul, pk_sub, q_div, cl_nI, vpi, q_eq, q_le, q_lt, n1_eq, n1_eq', n1_le, n1_lt, n1_ge, n1_gt, i_0m1, nlt_t, nlt_f, nle_t, nle_f, neq_f, f_below, f_within, f_isCorner, f_isIn, f_isCornerM, f_isStreet, f_isHouse, f_isCrew, f_isRow, f_has10, f_has0, jx_I, jx_N, jx_m1, jr_I, jr_N1, jr_N2, wr_2, isB_0, isB_1, true_and, and_true, and_self, false_and, and_false, true_or, or_true, false_or, or_false, not_true_eq_false, not_false_eq_true, forall_const, implies_true, false_implies, ne_eq, eq_self, if_true, if_false, Nat.zero_add, Nat.add_zero, Nat.mul_zero, Nat.zero_mul, Nat.mul_one, Nat.one_mul, Nat.add_sub_cancel, Nat.reduceEqDiff, Nat.reduceAdd, Nat.reduceMul, Nat.reduceSub, Nat.reduceLeDiff, Nat.reduceLT, Nat.reduceDiv, Nat.reduceMod]
  have ty := TR_lit hv w t hy.1 hy.2.2.1
  have rm := rm_le w (show h < nv Y 246 31 by omega)
  have f6 := (w.2.1.1 h (by omega)).2.2.1.2
  refine c_note hv ty w (by omega) (fun z hz => ?_)
  obtain ⟨n1, n2, n3, n4, n5, n6, n7⟩ := hz
  obtain ⟨y1, y2, y3, y4, y5⟩ := hy
  refine hL _ _ _ (by omega) ⟨h + 1, by omega, rfl, rfl, fun c h1 h2 => (n1 c h1 h2).trans (y1 c h1 h2), n2.trans y2, n3, fun h' r hh' hr => ?_, fun h' f hh' hf => ?_⟩
  · by_cases e2 : h' = h
    · subst e2; exact n4 r hr
    · have rm' := rm_le w (show h' < nv Y 246 31 by omega)
      rw [n5 _ (by omega)]; exact y4 h' r (by omega) hr
  · by_cases e2 : h' = h
    · subst e2; exact n6 f hf
    · have f6' := (w.2.1.1 h' (by omega)).2.2.1.2
      rw [n7 _ (by omega)]; exact y5 h' f (by omega) hf
