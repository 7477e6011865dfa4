/-! THE FIRE, the program: warming. -/
theorem ring1 (H A B G W : Int32) : ((H + (A + B)) + G) - W = H + ((G + (A + B)) - W) := by
  rw [Int32.sub_eq_add_neg, Int32.sub_eq_add_neg, Int32.add_assoc, Int32.add_assoc, ← Int32.add_assoc (A + B) G, Int32.add_comm (A + B) G]
theorem c_warm {x y : ab_X} {Y : Nat → Nat → Int32} {Wa : Nat → Int32} {v h : Nat} (hv : v = 11 ∨ v = 19) (g : BegC v Y Wa x) (w : TW Y) (hh : h < nv Y 246 31) (m : MidC v Y Wa (24 * h) (24 * (h + 1)) x y) {K : ab_X → Prop} (k : ∀ z, MidC v Y Wa (24 * (h + 1)) (24 * (h + 1)) x z → K z) : wX3_warm v (30 + 3 * h) y K := by
  have b := w.b
  have rm := rm_le w hh
  obtain ⟨g1, g2, g3, g4, g5⟩ := g
  obtain ⟨-, -, w3, -, w5, -⟩ := w.2.1.1 h hh
  obtain ⟨-, -, t3, t4, -, -, t10, t11⟩ := g2.2.2.1 h hh
  have t0 := (g2.1 h (by omega)).1
  have u3 := w3.2
  have u5 := w5.2
  have a3 := w3.1
  have a5 := w5.1
  unfold wX3_warm
  refine Lp2.ind (fun i a z => ∃ f, f ≤ nv Y 256 h ∧ i = nv Y 256 h - f ∧ a = nI f ∧ MidC v Y Wa (24 * h + f * nv Y 257 h) (24 * (h + 1)) x z) (nv Y 256 h) ⟨0, by omega, by omega, rfl, by rw [Nat.zero_mul, Nat.add_zero]; exact m⟩ ?_
  rintro i a z ⟨f, hf, rfl, rfl, hz⟩ L hL
  have zc : ∀ c, 30 ≤ c → c ≤ 65 → z.1 c = x.1 c := fun c h1 h2 => hz.1 c (by omega) (by omega) (by omega) (by omega)
  have zr : Rho z.1 Y := Rho_cells w g2 zc
  have zl : LitR v z.1 Y := ⟨fun h' r p q => by rw [hz.1 _ (by omega) (by omega) (by omega) (by omega)]; exact g3.1 h' r p q, fun h' f p q => by rw [hz.1 _ (by omega) (by omega) (by omega) (by omega)]; exact g3.2 h' f p q⟩
  have z3 : z.1 (30 + 3 * h) 3 = nI (nv Y 256 h) := by rw [zc _ (by omega) (by omega), t3, a3]
  have z10 : z.1 (30 + 3 * h) 10 = prv Y h := by rw [zc _ (by omega) (by omega), t10]
  have z11 : z.1 (30 + 3 * h) 11 = nxt Y (nv Y 246 31) h := by rw [zc _ (by omega) (by omega), t11]
  unfold lX3_warm_2
  by_cases e : f = nv Y 256 h
  · rw [e] at hz ⊢
    simp (disch := first | assumption | omega) only [prv_n, nxt_n, q_sw, mc4, mc6, mc8, mc20, mc24, mc100, nv_rd, nb_rd, wr_rd, nI_lit, nI_add, pk_mul, pk_sub, q_div, cl_nI, vpi, q_eq, q_le, q_lt, n1_eq, n1_eq', n1_le, n1_lt, n1_ge, n1_gt, i_0m1, nlt_t, nlt_f, nle_t, nle_f, neq_f, f_below, f_within, f_isCorner, f_isIn, f_isCornerM, f_isStreet, f_isHouse, f_isCrew, f_isRow, f_has10, f_has0, jx_I, jx_N, jx_m1, jr_I, jr_N1, jr_N2, wr_2, isB_0, isB_1, true_and, and_true, and_self, false_and, and_false, true_or, or_true, false_or, or_false, not_true_eq_false, not_false_eq_true, forall_const, implies_true, false_implies, ne_eq, eq_self, if_true, if_false, Nat.zero_add, Nat.add_zero, Nat.mul_zero, Nat.zero_mul, Nat.mul_one, Nat.one_mul, Nat.add_sub_cancel, Nat.reduceEqDiff, Nat.reduceAdd, Nat.reduceMul, Nat.reduceSub, Nat.reduceLeDiff, Nat.reduceLT, Nat.reduceDiv, Nat.reduceMod, z3]
    obtain ⟨m1, m2, m3, m4, m5, m6, m7, m8⟩ := hz
    refine k z ⟨m1, m2, m3, Tab_r m4 rm, m5, m6, m7, fun u k hk vk => m8 u k ?_ vk⟩
    by_cases e2 : k / 24 = h
    · have := vk.2
      rw [e2] at this
      omega
    · omega
  simp (disch := first | assumption | omega) only [prv_n, nxt_n, q_sw, mc4, mc6, mc8, mc20, mc24, mc100, nv_rd, nb_rd, wr_rd, nI_lit, nI_add, pk_mul, pk_sub, q_div, cl_nI, vpi, q_eq, q_le, q_lt, n1_eq, n1_eq', n1_le, n1_lt, n1_ge, n1_gt, i_0m1, nlt_t, nlt_f, nle_t, nle_f, neq_f, f_below, f_within, f_isCorner, f_isIn, f_isCornerM, f_isStreet, f_isHouse, f_isCrew, f_isRow, f_has10, f_has0, jx_I, jx_N, jx_m1, jr_I, jr_N1, jr_N2, wr_2, isB_0, isB_1, true_and, and_true, and_self, false_and, and_false, true_or, or_true, false_or, or_false, not_true_eq_false, not_false_eq_true, forall_const, implies_true, false_implies, ne_eq, eq_self, if_true, if_false, Nat.zero_add, Nat.add_zero, Nat.mul_zero, Nat.zero_mul, Nat.mul_one, Nat.one_mul, Nat.add_sub_cancel, Nat.reduceEqDiff, Nat.reduceAdd, Nat.reduceMul, Nat.reduceSub, Nat.reduceLeDiff, Nat.reduceLT, Nat.reduceDiv, Nat.reduceMod, z3, z10, z11]
  have hf2 : f < nv Y 256 h := by omega
  refine c_glow zr zl w hh (by omega) ((prv_d Y h).imp id (fun ⟨j, h1, e⟩ => ⟨j, by omega, e⟩)) ?_
  refine c_glow zr zl w hh (by omega) (nxt_d Y _ h) ?_
  refine Lp2.ind (fun i a z => ∃ q, q ≤ nv Y 257 h ∧ i = nv Y 257 h - q ∧ a = nI q ∧ MidC v Y Wa (24 * h + (f * nv Y 257 h + q)) (24 * (h + 1)) x z) (nv Y 257 h) ⟨0, by omega, by omega, rfl, hz⟩ ?_
  clear hz z3 z10 z11 zr zl zc
  rintro i a z ⟨q, hq, rfl, rfl, hz⟩ L2 hL2
  have zc : ∀ c, 30 ≤ c → c ≤ 65 → z.1 c = x.1 c := fun c h1 h2 => hz.1 c (by omega) (by omega) (by omega) (by omega)
  have zr : Rho z.1 Y := Rho_cells w g2 zc
  have zl : LitR v z.1 Y := ⟨fun h' r p q => by rw [hz.1 _ (by omega) (by omega) (by omega) (by omega)]; exact g3.1 h' r p q, fun h' f p q => by rw [hz.1 _ (by omega) (by omega) (by omega) (by omega)]; exact g3.2 h' f p q⟩
  obtain ⟨m1, m2, m3, m4, m5, m6, m7, m8⟩ := hz
  have z4 : z.1 (30 + 3 * h) 4 = nI (nv Y 257 h) := by rw [zc _ (by omega) (by omega), t4, a5]
  have z0 : z.1 (30 + 3 * h) 0 = nI h := by rw [zc _ (by omega) (by omega), t0]
  unfold lX3_warm_38 wX4_place
  by_cases e2 : q = nv Y 257 h
  · rw [e2] at m4 m8 ⊢
    have sm1 : (f + 1) * nv Y 257 h = f * nv Y 257 h + nv Y 257 h := Nat.succ_mul _ _
    simp (disch := first | assumption | omega) only [prv_n, nxt_n, q_sw, mc4, mc6, mc8, mc20, mc24, mc100, nv_rd, nb_rd, wr_rd, nI_lit, nI_add, pk_mul, pk_sub, q_div, cl_nI, vpi, q_eq, q_le, q_lt, n1_eq, n1_eq', n1_le, n1_lt, n1_ge, n1_gt, i_0m1, nlt_t, nlt_f, nle_t, nle_f, neq_f, f_below, f_within, f_isCorner, f_isIn, f_isCornerM, f_isStreet, f_isHouse, f_isCrew, f_isRow, f_has10, f_has0, jx_I, jx_N, jx_m1, jr_I, jr_N1, jr_N2, wr_2, isB_0, isB_1, true_and, and_true, and_self, false_and, and_false, true_or, or_true, false_or, or_false, not_true_eq_false, not_false_eq_true, forall_const, implies_true, false_implies, ne_eq, eq_self, if_true, if_false, Nat.zero_add, Nat.add_zero, Nat.mul_zero, Nat.zero_mul, Nat.mul_one, Nat.one_mul, Nat.add_sub_cancel, Nat.reduceEqDiff, Nat.reduceAdd, Nat.reduceMul, Nat.reduceSub, Nat.reduceLeDiff, Nat.reduceLT, Nat.reduceDiv, Nat.reduceMod, z4]
    exact hL _ _ _ (by omega) ⟨f + 1, by omega, rfl, rfl, by rw [sm1]; exact ⟨m1, m2, m3, m4, m5, m6, m7, m8⟩⟩
  have hq2 : q < nv Y 257 h := by omega
  have rl := rmlt hf2 hq2
  obtain ⟨vl, -, -⟩ := vld_of w hh rl
  have nk := nhK_of (Wa := Wa) w hh hf2 hq2
  have gain := fun (K : Int32 → Prop) (k : K (gnI Y h f q)) => c_gain zr zl w hh hf2 hq2 k
  unfold nhI at nk
  generalize hk : 24 * h + (f * nv Y 257 h + q) = p at *
  have hp : p < 288 := by omega
  have l1 : z.1 (v + 1) p = Y 266 p := by rw [Tab_at m4 (Nat.le_refl _)]; exact (g4 p hp).1
  have l3 : z.1 (v + 3) p = Wa p := by rw [m1 _ (by omega) (by omega) (by omega) (by omega)]; exact (g4 p hp).2.2.2
  have l5 : z.1 (v + 5) (6 * h + f) = Y 274 (6 * h + f) := by rw [m1 _ (by omega) (by omega) (by omega) (by omega)]; exact (g5 _ (by omega)).2
  have b5 : isB (Y 274 (6 * h + f)) := w.2.2.2.1 _ (by omega)
  have eq : 24 * h + (f * nv Y 257 h + (q + 1)) = p + 1 := by omega
  have fin : ∀ n : Int32, n = nhK Y Wa p → wX3_warm_128 v (30 + 3 * h) (nI f) (glI Y h (prv Y h) f + glI Y h (nxt Y (nv Y 246 31) h) f) (nI q) (nI p) v (nI p) n z K L L2 := by
    intro n hn
    have go : ∀ s : ab_X, (∀ c, c ≠ v + 1 → c ≠ v → s.1 c = z.1 c) → (∀ f, f ≠ 7 → s.1 v f = z.1 v f) → s.2 = z.2 → s.1 (v + 1) p = n → (∀ j, j ≠ p → s.1 (v + 1) j = z.1 (v + 1) j) → isB (s.1 v 7) → (¬ s.1 v 7 = nI 0 → ¬ z.1 v 7 = nI 0 ∧ n = nI 0) → L2 (nI (q + 1)) s := by
      intro s s1 s2 s3 s4 s5 s6 s7
      refine hL2 _ _ _ (by omega) ⟨q + 1, by omega, rfl, rfl, ?_⟩
      rw [eq]
      refine ⟨fun c h1 h2 h3 h4 => by rw [s1 c h1 h4]; exact m1 c h1 h2 h3 h4, fun f hf => by rw [s2 f hf]; exact m2 f hf, s3.trans m3, Tab_n m4 vl (s4.trans hn) s5, by rw [s1 _ (by omega) (by omega)]; exact m5, by rw [s1 _ (by omega) (by omega)]; exact m6, s6, fun u j hj vj => ?_⟩
      obtain ⟨u1, u2⟩ := s7 u
      by_cases e3 : j = p
      · subst e3; rw [← hn]; exact u2
      · exact m8 u1 j (by omega) vj
    unfold wX3_warm_128 wX3_warm_151
    by_cases q1 : z.1 v 7 = nI 0
    · simp (disch := first | assumption | omega) only [prv_n, nxt_n, q_sw, mc4, mc6, mc8, mc20, mc24, mc100, nv_rd, nb_rd, wr_rd, nI_lit, nI_add, pk_mul, pk_sub, q_div, cl_nI, vpi, q_eq, q_le, q_lt, n1_eq, n1_eq', n1_le, n1_lt, n1_ge, n1_gt, i_0m1, nlt_t, nlt_f, nle_t, nle_f, neq_f, f_below, f_within, f_isCorner, f_isIn, f_isCornerM, f_isStreet, f_isHouse, f_isCrew, f_isRow, f_has10, f_has0, jx_I, jx_N, jx_m1, jr_I, jr_N1, jr_N2, wr_2, isB_0, isB_1, true_and, and_true, and_self, false_and, and_false, true_or, or_true, false_or, or_false, not_true_eq_false, not_false_eq_true, forall_const, implies_true, false_implies, ne_eq, eq_self, if_true, if_false, Nat.zero_add, Nat.add_zero, Nat.mul_zero, Nat.zero_mul, Nat.mul_one, Nat.one_mul, Nat.add_sub_cancel, Nat.reduceEqDiff, Nat.reduceAdd, Nat.reduceMul, Nat.reduceSub, Nat.reduceLeDiff, Nat.reduceLT, Nat.reduceDiv, Nat.reduceMod, q1]
      exact go _ (fun c h1 h2 => by rw [wr_n h2, wr_n h1]) (fun f hf => by rw [wr_k hf, wr_n (by omega)]) rfl (by rw [wr_n (by omega), wr_e]) (fun j hj => by rw [wr_n (by omega), wr_k hj]) (by rw [wr_e]; exact Or.inl rfl) (fun u => absurd wr_e u)
    · by_cases q3 : n = nI 0
      · simp (disch := first | assumption | omega) only [prv_n, nxt_n, q_sw, mc4, mc6, mc8, mc20, mc24, mc100, nv_rd, nb_rd, wr_rd, nI_lit, nI_add, pk_mul, pk_sub, q_div, cl_nI, vpi, q_eq, q_le, q_lt, n1_eq, n1_eq', n1_le, n1_lt, n1_ge, n1_gt, i_0m1, nlt_t, nlt_f, nle_t, nle_f, neq_f, f_below, f_within, f_isCorner, f_isIn, f_isCornerM, f_isStreet, f_isHouse, f_isCrew, f_isRow, f_has10, f_has0, jx_I, jx_N, jx_m1, jr_I, jr_N1, jr_N2, wr_2, isB_0, isB_1, true_and, and_true, and_self, false_and, and_false, true_or, or_true, false_or, or_false, not_true_eq_false, not_false_eq_true, forall_const, implies_true, false_implies, ne_eq, eq_self, if_true, if_false, Nat.zero_add, Nat.add_zero, Nat.mul_zero, Nat.zero_mul, Nat.mul_one, Nat.one_mul, Nat.add_sub_cancel, Nat.reduceEqDiff, Nat.reduceAdd, Nat.reduceMul, Nat.reduceSub, Nat.reduceLeDiff, Nat.reduceLT, Nat.reduceDiv, Nat.reduceMod, q1, q3]
        exact go _ (fun c h1 h2 => by rw [wr_n h2, wr_n h1]) (fun f hf => by rw [wr_k hf, wr_n (by omega)]) rfl (by rw [wr_n (by omega), wr_e, q3]) (fun j hj => by rw [wr_n (by omega), wr_k hj]) (by rw [wr_e]; exact Or.inr rfl) (fun _ => ⟨q1, q3⟩)
      · simp (disch := first | assumption | omega) only [prv_n, nxt_n, q_sw, mc4, mc6, mc8, mc20, mc24, mc100, nv_rd, nb_rd, wr_rd, nI_lit, nI_add, pk_mul, pk_sub, q_div, cl_nI, vpi, q_eq, q_le, q_lt, n1_eq, n1_eq', n1_le, n1_lt, n1_ge, n1_gt, i_0m1, nlt_t, nlt_f, nle_t, nle_f, neq_f, f_below, f_within, f_isCorner, f_isIn, f_isCornerM, f_isStreet, f_isHouse, f_isCrew, f_isRow, f_has10, f_has0, jx_I, jx_N, jx_m1, jr_I, jr_N1, jr_N2, wr_2, isB_0, isB_1, true_and, and_true, and_self, false_and, and_false, true_or, or_true, false_or, or_false, not_true_eq_false, not_false_eq_true, forall_const, implies_true, false_implies, ne_eq, eq_self, if_true, if_false, Nat.zero_add, Nat.add_zero, Nat.mul_zero, Nat.zero_mul, Nat.mul_one, Nat.one_mul, Nat.add_sub_cancel, Nat.reduceEqDiff, Nat.reduceAdd, Nat.reduceMul, Nat.reduceSub, Nat.reduceLeDiff, Nat.reduceLT, Nat.reduceDiv, Nat.reduceMod, q1, q3]
        exact go _ (fun c h1 h2 => by rw [wr_n h2, wr_n h1]) (fun f hf => by rw [wr_k hf, wr_n (by omega)]) rfl (by rw [wr_n (by omega), wr_e]) (fun j hj => by rw [wr_n (by omega), wr_k hj]) (by rw [wr_e]; exact Or.inl rfl) (fun u => absurd wr_e u)
  unfold wX3_hasFallen wX4_storey
  by_cases q5 : Y 274 (6 * h + f) = nI 0
  · rw [if_pos q5, ← ring1] at nk
    simp (disch := first | assumption | omega) only [prv_n, nxt_n, q_sw, mc4, mc6, mc8, mc20, mc24, mc100, nv_rd, nb_rd, wr_rd, nI_lit, nI_add, pk_mul, pk_sub, q_div, cl_nI, vpi, q_eq, q_le, q_lt, n1_eq, n1_eq', n1_le, n1_lt, n1_ge, n1_gt, i_0m1, nlt_t, nlt_f, nle_t, nle_f, neq_f, f_below, f_within, f_isCorner, f_isIn, f_isCornerM, f_isStreet, f_isHouse, f_isCrew, f_isRow, f_has10, f_has0, jx_I, jx_N, jx_m1, jr_I, jr_N1, jr_N2, wr_2, isB_0, isB_1, true_and, and_true, and_self, false_and, and_false, true_or, or_true, false_or, or_false, not_true_eq_false, not_false_eq_true, forall_const, implies_true, false_implies, ne_eq, eq_self, if_true, if_false, Nat.zero_add, Nat.add_zero, Nat.mul_zero, Nat.zero_mul, Nat.mul_one, Nat.one_mul, Nat.add_sub_cancel, Nat.reduceEqDiff, Nat.reduceAdd, Nat.reduceMul, Nat.reduceSub, Nat.reduceLeDiff, Nat.reduceLT, Nat.reduceDiv, Nat.reduceMod, z4, z0, hk]
    refine gain _ ?_
    simp (disch := first | assumption | omega) only [prv_n, nxt_n, q_sw, mc4, mc6, mc8, mc20, mc24, mc100, nv_rd, nb_rd, wr_rd, nI_lit, nI_add, pk_mul, pk_sub, q_div, cl_nI, vpi, q_eq, q_le, q_lt, n1_eq, n1_eq', n1_le, n1_lt, n1_ge, n1_gt, i_0m1, nlt_t, nlt_f, nle_t, nle_f, neq_f, f_below, f_within, f_isCorner, f_isIn, f_isCornerM, f_isStreet, f_isHouse, f_isCrew, f_isRow, f_has10, f_has0, jx_I, jx_N, jx_m1, jr_I, jr_N1, jr_N2, wr_2, isB_0, isB_1, true_and, and_true, and_self, false_and, and_false, true_or, or_true, false_or, or_false, not_true_eq_false, not_false_eq_true, forall_const, implies_true, false_implies, ne_eq, eq_self, if_true, if_false, Nat.zero_add, Nat.add_zero, Nat.mul_zero, Nat.zero_mul, Nat.mul_one, Nat.one_mul, Nat.add_sub_cancel, Nat.reduceEqDiff, Nat.reduceAdd, Nat.reduceMul, Nat.reduceSub, Nat.reduceLeDiff, Nat.reduceLT, Nat.reduceDiv, Nat.reduceMod, z0, l5, q5, l1, l3]
    exact fin _ nk.symm
  · rw [if_neg q5] at nk
    simp (disch := first | assumption | omega) only [prv_n, nxt_n, q_sw, mc4, mc6, mc8, mc20, mc24, mc100, nv_rd, nb_rd, wr_rd, nI_lit, nI_add, pk_mul, pk_sub, q_div, cl_nI, vpi, q_eq, q_le, q_lt, n1_eq, n1_eq', n1_le, n1_lt, n1_ge, n1_gt, i_0m1, nlt_t, nlt_f, nle_t, nle_f, neq_f, f_below, f_within, f_isCorner, f_isIn, f_isCornerM, f_isStreet, f_isHouse, f_isCrew, f_isRow, f_has10, f_has0, jx_I, jx_N, jx_m1, jr_I, jr_N1, jr_N2, wr_2, isB_0, isB_1, true_and, and_true, and_self, false_and, and_false, true_or, or_true, false_or, or_false, not_true_eq_false, not_false_eq_true, forall_const, implies_true, false_implies, ne_eq, eq_self, if_true, if_false, Nat.zero_add, Nat.add_zero, Nat.mul_zero, Nat.zero_mul, Nat.mul_one, Nat.one_mul, Nat.add_sub_cancel, Nat.reduceEqDiff, Nat.reduceAdd, Nat.reduceMul, Nat.reduceSub, Nat.reduceLeDiff, Nat.reduceLT, Nat.reduceDiv, Nat.reduceMod, z4, z0, hk]
    refine gain _ ?_
    simp (disch := first | assumption | omega) only [prv_n, nxt_n, q_sw, mc4, mc6, mc8, mc20, mc24, mc100, nv_rd, nb_rd, wr_rd, nI_lit, nI_add, pk_mul, pk_sub, q_div, cl_nI, vpi, q_eq, q_le, q_lt, n1_eq, n1_eq', n1_le, n1_lt, n1_ge, n1_gt, i_0m1, nlt_t, nlt_f, nle_t, nle_f, neq_f, f_below, f_within, f_isCorner, f_isIn, f_isCornerM, f_isStreet, f_isHouse, f_isCrew, f_isRow, f_has10, f_has0, jx_I, jx_N, jx_m1, jr_I, jr_N1, jr_N2, wr_2, isB_0, isB_1, true_and, and_true, and_self, false_and, and_false, true_or, or_true, false_or, or_false, not_true_eq_false, not_false_eq_true, forall_const, implies_true, false_implies, ne_eq, eq_self, if_true, if_false, Nat.zero_add, Nat.add_zero, Nat.mul_zero, Nat.zero_mul, Nat.mul_one, Nat.one_mul, Nat.add_sub_cancel, Nat.reduceEqDiff, Nat.reduceAdd, Nat.reduceMul, Nat.reduceSub, Nat.reduceLeDiff, Nat.reduceLT, Nat.reduceDiv, Nat.reduceMod, z0, l5, q5, b5]
    exact fin _ nk.symm
