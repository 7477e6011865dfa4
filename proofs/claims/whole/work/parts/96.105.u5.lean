/-! A MINUTE, 32: all tire. -/
theorem clamp3 (v : Int32) : ∃ n : Nat, n ≤ 300 ∧ imax (nI 0) (imin (nI 300) v) = nI n := by
  unfold imax imin
  by_cases h1 : v < nI 300
  · rw [if_pos h1]
    by_cases h2 : nI 0 < v
    · rw [if_pos h2]
      have h2' : ¬ v < 0 := fun u => by
        have a := Int32.lt_iff_toInt_lt.mp h2
        have b := Int32.lt_iff_toInt_lt.mp u
        have z : (nI 0).toInt = 0 := by decide
        have z2 : (0 : Int32).toInt = 0 := by decide
        omega
      obtain ⟨n, hn, rfl⟩ := nI_of h2'
      rw [q_lt hn (by decide)] at h1
      exact ⟨n, by omega, rfl⟩
    · rw [if_neg h2]; exact ⟨0, by decide, rfl⟩
  · rw [if_neg h1]
    rw [if_pos (by decide)]
    exact ⟨300, by decide, rfl⟩
def tiV (Y : Nat → Nat → Int32) (j : Nat) : Int32 := if Y 286 j = nI 4 then nI 0 else imax (nI 0) (imin (nI 300) (Y 292 j + (if Y 286 j = nI 0 then -nI 1 else if Y 286 j = nI 2 then nI 2 else nI 1)))
theorem tiV_b (Y : Nat → Nat → Int32) (j : Nat) : ∃ n : Nat, n ≤ 300 ∧ tiV Y j = nI n := by
  unfold tiV
  split
  · exact ⟨0, by decide, rfl⟩
  · exact clamp3 _
def tiS (s : ab_X) (j : Nat) : ab_X := wr s 292 j (tiV s.1 j)
def tiN (s : ab_X) : Nat → ab_X
  | 0 => s
  | j + 1 => tiS (tiN s j) j
theorem tiN_o (s : ab_X) : ∀ j, (∀ d, d ≠ 292 → (tiN s j).1 d = s.1 d) ∧ (tiN s j).2 = s.2
  | 0 => ⟨fun _ _ => rfl, rfl⟩
  | j + 1 => by
    obtain ⟨a, b⟩ := tiN_o s j
    exact ⟨fun d p => by show (wr (tiN s j) 292 j _).1 d = _; rw [wr_n p]; exact a d p, b⟩
theorem i_tireP {x : ab_X} {j v : Nat} (h : InvP x) (hj : j < nv x.1 246 58) (hv : v ≤ 300) {z : ab_X} (e : z = wr (wr x (82 + j) 15 (nI v)) 292 j (nI v)) : InvP z := by
  subst e
  have bn := h.2.b58
  obtain ⟨r0, r1, r2, r3, r4, r5, r6, r7, r8, r9, r10, r11, r12, r13, r14, r15, r16⟩ := h.1.cr.1 j hj; obtain ⟨v0, v1, v2, v3, v3', v4, v5, v6, v7, v8, v9, v10, v11, v11'⟩ := h.2.cr.1 j hj; obtain ⟨g0, g1, g2⟩ := h.2.cr.2.1 j hj; obtain ⟨t0, t1, t2, t3⟩ := h.2.cr.2.2.1 j hj; have u0 := v0.2; have u1 := v1.2; have u8 := v8.2; have u9 := v9.2
  refine InvP_chgP h (L := [(82, 97), (292, 292)]) (S := [0]) (C := []) ?chg (Or.inl rfl) (Or.inl rfl) (Or.inl rfl) (Or.inl rfl) (Or.inl rfl) (Or.inr ?cr) (Or.inl rfl) (Or.inl rfl) (Or.inl rfl) (Or.inl rfl) (Or.inl ⟨rfl, rfl⟩) (Or.inl rfl) (Or.inl rfl) (Or.inl rfl) (Or.inl rfl) (Or.inl rfl) (Or.inl rfl) (Or.inr ?wcr) (Or.inl rfl) (Or.inl rfl)
  case chg =>
    refine ⟨fun c p q r => ?_, fun f p => ?_, fun c f p q => ?_⟩
    · have r0 : c < 82 ∨ 97 < c := r (82, 97) (by simp); have r1 : c < 292 ∨ 292 < c := r (292, 292) (by simp); unfold scC at q; simp (disch := omega) only [wr_n]
    · have s0 : f ≠ 0 := fun e => p (by rw [e]; simp); simp (disch := omega) only [wr_ne]
    · unfold scC at p; simp (disch := omega) only [wr_ne]
  case cr => exact Rcr_pt h.1.cr (by simp (disch := omega) only [wr_ne]) h.2.b58 (fun c f p e => (by simp (disch := omega) only [wr_ne])) (fun d k p q e => (by simp (disch := omega) only [wr_ne])) hj (by simp (disch := first | assumption | omega) only [prv_n, nxt_n, q_sw, mc4, mc6, mc8, mc20, mc24, mc100, nv_rd, nb_rd, wr_rd, nI_lit, nI_add, pk_mul, pk_sub, q_div, cl_nI, vpi, q_eq, q_le, q_lt, n1_eq, n1_eq', n1_le, n1_lt, n1_ge, n1_gt, i_0m1, nlt_t, nlt_f, nle_t, nle_f, neq_f, f_below, f_within, f_isCorner, f_isIn, f_isCornerM, f_isStreet, f_isHouse, f_isCrew, f_isRow, f_has10, f_has0, jx_I, jx_N, jx_m1, jr_I, jr_N1, jr_N2, wr_2, isB_0, isB_1, true_and, and_true, and_self, false_and, and_false, true_or, or_true, false_or, or_false, not_true_eq_false, not_false_eq_true, forall_const, implies_true, false_implies, ne_eq, eq_self, if_true, if_false, Nat.zero_add, Nat.add_zero, Nat.mul_zero, Nat.zero_mul, Nat.mul_one, Nat.one_mul, Nat.add_sub_cancel, Nat.reduceEqDiff, Nat.reduceAdd, Nat.reduceMul, Nat.reduceSub, Nat.reduceLeDiff, Nat.reduceLT, Nat.reduceDiv, Nat.reduceMod, r0, r1, r2, r3, r4, r5, r6, r7, r8, r9, r10, r11, r12, r13, r14, r15, r16, ])
  case wcr =>
    refine Wcr_pt h.2.cr (by simp (disch := omega) only [wr_ne]) (by simp (disch := omega) only [wr_ne]) (by simp (disch := omega) only [wr_ne]) (by simp (disch := omega) only [wr_ne]) (by simp (disch := omega) only [wr_n]) (fun d k p q e => (by simp (disch := omega) only [wr_ne])) hj ?_ ?_ ?_
    · simp (disch := first | assumption | omega) only [prv_n, nxt_n, q_sw, mc4, mc6, mc8, mc20, mc24, mc100, nv_rd, nb_rd, wr_rd, nI_lit, nI_add, pk_mul, pk_sub, q_div, cl_nI, vpi, q_eq, q_le, q_lt, n1_eq, n1_eq', n1_le, n1_lt, n1_ge, n1_gt, i_0m1, nlt_t, nlt_f, nle_t, nle_f, neq_f, f_below, f_within, f_isCorner, f_isIn, f_isCornerM, f_isStreet, f_isHouse, f_isCrew, f_isRow, f_has10, f_has0, jx_I, jx_N, jx_m1, jr_I, jr_N1, jr_N2, wr_2, isB_0, isB_1, true_and, and_true, and_self, false_and, and_false, true_or, or_true, false_or, or_false, not_true_eq_false, not_false_eq_true, forall_const, implies_true, false_implies, ne_eq, eq_self, if_true, if_false, Nat.zero_add, Nat.add_zero, Nat.mul_zero, Nat.zero_mul, Nat.mul_one, Nat.one_mul, Nat.add_sub_cancel, Nat.reduceEqDiff, Nat.reduceAdd, Nat.reduceMul, Nat.reduceSub, Nat.reduceLeDiff, Nat.reduceLT, Nat.reduceDiv, Nat.reduceMod, v0, v1, v2, v3, v3', v4, v5, v6, v7, v8, v9, v10, v11, v11']
    · simp (disch := first | assumption | omega) only [prv_n, nxt_n, q_sw, mc4, mc6, mc8, mc20, mc24, mc100, nv_rd, nb_rd, wr_rd, nI_lit, nI_add, pk_mul, pk_sub, q_div, cl_nI, vpi, q_eq, q_le, q_lt, n1_eq, n1_eq', n1_le, n1_lt, n1_ge, n1_gt, i_0m1, nlt_t, nlt_f, nle_t, nle_f, neq_f, f_below, f_within, f_isCorner, f_isIn, f_isCornerM, f_isStreet, f_isHouse, f_isCrew, f_isRow, f_has10, f_has0, jx_I, jx_N, jx_m1, jr_I, jr_N1, jr_N2, wr_2, isB_0, isB_1, true_and, and_true, and_self, false_and, and_false, true_or, or_true, false_or, or_false, not_true_eq_false, not_false_eq_true, forall_const, implies_true, false_implies, ne_eq, eq_self, if_true, if_false, Nat.zero_add, Nat.add_zero, Nat.mul_zero, Nat.zero_mul, Nat.mul_one, Nat.one_mul, Nat.add_sub_cancel, Nat.reduceEqDiff, Nat.reduceAdd, Nat.reduceMul, Nat.reduceSub, Nat.reduceLeDiff, Nat.reduceLT, Nat.reduceDiv, Nat.reduceMod, g0, g1, g2]
      exact ⟨g0, g1, g2⟩
    · simp (disch := first | assumption | omega) only [prv_n, nxt_n, q_sw, mc4, mc6, mc8, mc20, mc24, mc100, nv_rd, nb_rd, wr_rd, nI_lit, nI_add, pk_mul, pk_sub, q_div, cl_nI, vpi, q_eq, q_le, q_lt, n1_eq, n1_eq', n1_le, n1_lt, n1_ge, n1_gt, i_0m1, nlt_t, nlt_f, nle_t, nle_f, neq_f, f_below, f_within, f_isCorner, f_isIn, f_isCornerM, f_isStreet, f_isHouse, f_isCrew, f_isRow, f_has10, f_has0, jx_I, jx_N, jx_m1, jr_I, jr_N1, jr_N2, wr_2, isB_0, isB_1, true_and, and_true, and_self, false_and, and_false, true_or, or_true, false_or, or_false, not_true_eq_false, not_false_eq_true, forall_const, implies_true, false_implies, ne_eq, eq_self, if_true, if_false, Nat.zero_add, Nat.add_zero, Nat.mul_zero, Nat.zero_mul, Nat.mul_one, Nat.one_mul, Nat.add_sub_cancel, Nat.reduceEqDiff, Nat.reduceAdd, Nat.reduceMul, Nat.reduceSub, Nat.reduceLeDiff, Nat.reduceLT, Nat.reduceDiv, Nat.reduceMod]
      exact ⟨t0, t1, t2, t3⟩
theorem ti_I {x s : ab_X} {j : Nat} (h : Inv2P x s) (hj : j < nv s.1 246 58) : Inv2P (wr x (82 + j) 15 (tiV s.1 j)) (tiS s j) := by
  have b58 := h.w.b58
  obtain ⟨n, hn, en⟩ := tiV_b s.1 j
  unfold tiS Inv2P
  rw [en, mg_wm (by omega), mg_wc (by omega)]
  refine i_tireP (j := j) h ?_ hn rfl
  unfold nv; rw [mg_m (by decide)]; exact hj
theorem tiN_I {x s : ab_X} (h : Inv2P x s) : ∀ j, j ≤ nv s.1 246 58 → ∃ y, Inv2P y (tiN s j)
  | 0, _ => ⟨x, h⟩
  | j + 1, hj => by
    obtain ⟨y, hy⟩ := tiN_I h j (by omega)
    have n58 : nv (tiN s j).1 246 58 = nv s.1 246 58 := by unfold nv; rw [(tiN_o s j).1 246 (by decide)]
    exact ⟨_, ti_I hy (by omega)⟩
theorem c_tire {x s : ab_X} {j : Nat} (h : Inv2P x s) (hj : j < nv s.1 246 58) {K : ab_X → Prop} (k : K (wr x (82 + j) 15 (tiV s.1 j))) : wX2_tire (82 + j) x K := by
  obtain ⟨r0, r1, r2, r3, r4, r5, r6, r7, r8, r9, r10, r11, r12, r13, r14, r15, -⟩ := h.r.cr.1 j hj
  unfold wX2_tire wX2_tire_38
  rw [r8, r15]
  unfold tiV at k
  refine ⟨fun u => ⟨fun u1 => ⟨fun u2 => ?_, fun u2 => ?_⟩, fun u1 => ?_⟩, fun u => ?_⟩
  · rw [if_neg (show ¬ s.1 286 j = nI 4 from u), if_neg (show ¬ s.1 286 j = nI 0 from u1), if_neg (show ¬ s.1 286 j = nI 2 from u2)] at k; exact k
  · rw [if_neg (show ¬ s.1 286 j = nI 4 from u), if_neg (show ¬ s.1 286 j = nI 0 from u1), if_pos (show s.1 286 j = nI 2 from u2)] at k; exact k
  · rw [if_neg (show ¬ s.1 286 j = nI 4 from u), if_pos (show s.1 286 j = nI 0 from u1)] at k; exact k
  · rw [if_pos (show s.1 286 j = nI 4 from u)] at k; exact k
theorem c_tires {x s : ab_X} (h : Inv2P x s) {K : ab_X → Prop} (k : ∀ y, Inv2P y (tiN s (nv s.1 246 58)) → keepT x.1 y.1 → smM x y → wX0_witness y (fun x10 => K x10)) : Lp2 (lX0_passMinute_111 K) 0 x := by
  have b58 := h.w.b58
  refine Lp2.ind (fun ii a y => ∃ j, j ≤ nv s.1 246 58 ∧ ii = nv s.1 246 58 - j ∧ a = nI j ∧ Inv2P y (tiN s j) ∧ keepT x.1 y.1 ∧ smM x y) (nv s.1 246 58) ⟨0, Nat.zero_le _, rfl, rfl, h, keepT.rfl', smM.rfl'⟩ ?_
  rintro ii a y ⟨j, hj, hii, rfl, hy, kt, sm⟩ L hL
  have n58 : nv (tiN s j).1 246 58 = nv s.1 246 58 := by unfold nv; rw [(tiN_o s j).1 246 (by decide)]
  have w := hy.w
  unfold lX0_passMinute_111
  have ej : nI j + 1 = nI (j + 1) := nI_add j 1
  rw [hy.r.s58, w.v58, n58, q_le (by omega) (by omega), ej]
  refine ⟨fun q => ?_, fun q => ⟨(vpi (by omega) (by decide)).mpr trivial, ?_⟩⟩
  · have : j = nv s.1 246 58 := by omega
    subst this
    exact k y hy kt sm
  rw [cl_nI (by omega)]
  exact c_tire hy (by omega) (hL _ _ _ (by omega) ⟨j + 1, by omega, rfl, rfl, ti_I hy (by omega), kt.tr (fun c i q => by unfold tk at q; rw [wr_ne (by omega)]), sm.tr (smM.wr (by omega))⟩)
theorem m_tires {x s xa : ab_X} (i : Inv2P xa s) (m : keepM s.1 x.1) {K : ab_X → Prop} (k : ∀ y, keepM (tiN s (nv s.1 246 58)).1 y.1 → (∀ d, d ≠ 292 → y.1 d = x.1 d) → y.2 = x.2 → Lp2 (lX12_minute_404 K) 0 y) : Lp2 (lX12_minute_321 K) 0 x := by
  have b58 := i.w.b58
  refine Lp2.ind (fun ii a y => ∃ j, j ≤ nv s.1 246 58 ∧ ii = nv s.1 246 58 - j ∧ a = nI j ∧ keepM (tiN s j).1 y.1 ∧ (∀ d, d ≠ 292 → y.1 d = x.1 d) ∧ y.2 = x.2) (nv s.1 246 58) ⟨0, Nat.zero_le _, rfl, rfl, m, fun _ _ => rfl, rfl⟩ ?_
  rintro ii a y ⟨j, hj, hii, rfl, my, y1, y2⟩ L hL
  have n58 : nv (tiN s j).1 246 58 = nv s.1 246 58 := by unfold nv; rw [(tiN_o s j).1 246 (by decide)]
  obtain ⟨xb, hy⟩ := tiN_I i j hj
  have w := hy.w
  unfold lX12_minute_321 wX12_minute_357
  have ej : nI j + 1 = nI (j + 1) := nI_add j 1
  rw [my.s58, w.v58, n58, q_le (by omega) (by omega), ej]
  have vj : j < nv s.1 246 58 → vp_in (nI j) 16 := fun u => (vpi (by omega) (by decide)).mpr trivial
  refine ⟨fun q => ?_, fun q => ?_⟩
  · have : j = nv s.1 246 58 := by omega
    subst this
    exact k y my y1 y2
  have vj := vj (by omega)
  rw [cl_nI (by omega), my.c286, my.c292]
  have go : ∀ V, V = tiV (tiN s j).1 j → L (nI (j + 1)) (wr y 292 j V) := fun V e => by
    subst e
    exact hL _ _ _ (by omega) ⟨j + 1, by omega, rfl, rfl, keepM_wr my, fun d p => by rw [wr_n p]; exact y1 d p, y2⟩
  refine ⟨vj, fun u1 => ⟨vj, fun u2 => ⟨vj, fun u => ⟨vj, vj, go _ ?_⟩, fun u => ⟨vj, go _ ?_⟩⟩, fun u2 => ⟨vj, fun u => ⟨vj, vj, go _ ?_⟩, fun u => ⟨vj, go _ ?_⟩⟩⟩, fun u1 => ⟨vj, fun u => ⟨vj, vj, go _ ?_⟩, fun u => ⟨vj, go _ ?_⟩⟩⟩
  · unfold tiV; rw [if_neg (show ¬ (tiN s j).1 286 j = nI 4 from u), if_neg (show ¬ (tiN s j).1 286 j = nI 0 from u1), if_neg (show ¬ (tiN s j).1 286 j = nI 2 from u2)]; rfl
  · unfold tiV; rw [if_pos (show (tiN s j).1 286 j = nI 4 from u)]; rfl
  · unfold tiV; rw [if_neg (show ¬ (tiN s j).1 286 j = nI 4 from u), if_neg (show ¬ (tiN s j).1 286 j = nI 0 from u1), if_pos (show (tiN s j).1 286 j = nI 2 from u2)]; rfl
  · unfold tiV; rw [if_pos (show (tiN s j).1 286 j = nI 4 from u)]; rfl
  · unfold tiV; rw [if_neg (show ¬ (tiN s j).1 286 j = nI 4 from u), if_pos (show (tiN s j).1 286 j = nI 0 from u1)]; rfl
  · unfold tiV; rw [if_pos (show (tiN s j).1 286 j = nI 4 from u)]; rfl
