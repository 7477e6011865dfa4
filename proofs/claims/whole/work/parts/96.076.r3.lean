/-! A MINUTE, 3: all arrive; crews go over. -/
theorem tn_I {x s : ab_X} {j : Nat} (h : Inv2 x s) (hj : j < nv s.1 246 58) : ∃ y, Inv2 y (tnS s j) := by
  have w := h.w
  have b1 := w.b1
  obtain ⟨v0, v1, -⟩ := w.cr.1 j hj
  have u1 := v1.2
  have n58 : nv (mg x s).1 246 58 = nv s.1 246 58 := by unfold nv; rw [mg_m (by decide)]
  have b58 := w.b58
  unfold tnS
  rcases cmr_d (Y := s.1) (nv s.1 287 j) (nv s.1 280 j) (nv s.1 246 1) (slN s.1 j) with e | ⟨t, ht, e⟩
  · have e : tnA s j = -nI 1 := e
    rw [if_pos (Or.inl e)]
    refine ⟨wr (wr (wr (wr (wr x (82 + j) 12 (-nI 1)) (82 + j) 13 (-nI 1)) (82 + j) 8 (nI 0)) (82 + j) 9 (nI (nv s.1 280 j))) (82 + j) 10 (-nI 1), ?_⟩
    unfold Inv2 rsS
    rw [v1.1]
    simp (disch := omega) only [mg_wc, mg_wm]
    exact i_rest (j := j) h (by omega) (show nv s.1 280 j < 20 by omega) rfl
  · have e : tnA s j = nI (nv s.1 246 1 + t) := e
    by_cases q : tnA s j = -nI 1 ∨ tnA s j = nI (nv s.1 246 1)
    · rw [if_pos q]
      refine ⟨wr (wr (wr (wr (wr x (82 + j) 12 (-nI 1)) (82 + j) 13 (-nI 1)) (82 + j) 8 (nI 0)) (82 + j) 9 (nI (nv s.1 280 j))) (82 + j) 10 (-nI 1), ?_⟩
      unfold Inv2 rsS
      rw [v1.1]
      simp (disch := omega) only [mg_wc, mg_wm]
      exact i_rest (j := j) h (by omega) (show nv s.1 280 j < 20 by omega) rfl
    · rw [if_neg q, e]
      refine ⟨wr (wr (wr (wr (wr x (82 + j) 12 (-nI 1)) (82 + j) 13 (-nI 1)) (82 + j) 8 (nI 3)) (82 + j) 9 (nI (nv s.1 280 j))) (82 + j) 10 (nI (nv s.1 246 1 + t)), ?_⟩
      unfold Inv2 rsS
      rw [v1.1]
      simp (disch := omega) only [mg_wc, mg_wm]
      exact i_way (j := j) h (by omega) (show nv s.1 280 j < 20 by omega) rfl
theorem arv_I {x s : ab_X} {j : Nat} (h : Inv2 x s) (hj : j < nv s.1 246 58) (hst : nv s.1 286 j = 1 ∨ nv s.1 286 j = 3) : ∃ y, Inv2 y (arvS s j) := by
  have w := h.w
  have b58 := w.b58
  have n58 : nv (mg x s).1 246 58 = nv s.1 246 58 := by unfold nv; rw [mg_m (by decide)]
  obtain ⟨v0, v1, v2, v3, v3', v4, v5, v6, v7, v8, v9, v10, -⟩ := w.cr.1 j hj
  have u9 := v9.2
  unfold arvS
  by_cases q : nv s.1 286 j = 3
  · rw [if_pos q]
    refine ⟨wr (wr (wr (wr (wr x (82 + j) 12 (-nI 1)) (82 + j) 13 (-nI 1)) (82 + j) 8 (nI 0)) (82 + j) 9 (nI (nv s.1 287 j))) (82 + j) 10 (-nI 1), ?_⟩
    unfold rsS Inv2
    rw [v9.1]
    simp (disch := omega) only [mg_wc, mg_wm]
    exact i_rest (j := j) h (by omega) (show nv s.1 287 j < 20 by omega) rfl
  · rw [if_neg q]
    have h1 : nv s.1 286 j = 1 := by omega
    obtain ⟨g1, g2⟩ := (w.cr.2.2.1 j hj).1 h1
    by_cases q2 : s.1 312 (nv s.1 289 j) = nI 0
    · rw [if_pos q2]
      by_cases q3 : wor s.1 (s.1 287 j) = -nI 1
      · rw [if_pos q3]
        have cl : ∀ v, v = 1 ∨ v = 2 → ∃ y, Inv2 y (tnS (clS s (nv s.1 289 j) (nI v)) j) := fun v hv => tn_I (cl_I h g2 hv) (by unfold nv clS; rw [wr_n (by decide), wr_n (by decide)]; exact hj)
        split
        · exact cl 2 (Or.inr rfl)
        · exact cl 1 (Or.inl rfl)
      · rw [if_neg q3]
        rcases wor_d s.1 (s.1 287 j) with ⟨e, -⟩ | ⟨hh, hh1, e, e1, e2⟩
        · exact absurd e q3
        refine ⟨wr (wr (wr (wr x (82 + j) 8 (nI 2)) (82 + j) 10 (-nI 1)) (82 + j) 12 (nI hh)) (82 + j) 14 (nI (nv s.1 246 1)), ?_⟩
        unfold wkS Inv2
        rw [e]
        simp (disch := omega) only [mg_wc, mg_wm]
        have en : nv (mg x s).1 246 1 = nv s.1 246 1 := by unfold nv; rw [mg_m (by decide)]
        refine i_work (j := j) (hh := hh) h ?_ ?_ ?_ ?_ (by rw [en])
        · unfold nv; rw [mg_m (by decide)]; exact hj
        · unfold nv; rw [mg_m (by decide)]; exact h1
        · unfold nv; rw [mg_m (by decide)]; exact hh1
        · rw [mg_m (by decide), mg_m (by decide)]; exact e2
    · rw [if_neg q2]
      exact tn_I h hj
theorem arvN_I {x s : ab_X} (h : Inv2 x s) : ∀ j, j ≤ nv s.1 246 58 → ∃ y, Inv2 y (arvN s j)
  | 0, _ => ⟨x, h⟩
  | j + 1, hj => by
    obtain ⟨y, hy⟩ := arvN_I h j (by omega)
    have n := (arvN_n s j).1
    have n58 : nv (arvN s j).1 246 58 = nv s.1 246 58 := by unfold nv; rw [n]
    by_cases q : (nv (arvN s j).1 286 j = 1 ∨ nv (arvN s j).1 286 j = 3) ∧ ¬ (arvN s j).1 246 1 < (arvN s j).1 288 j
    · have e : arvN s (j + 1) = arvS (arvN s j) j := if_pos q
      rw [e]
      exact arv_I hy (by omega) q.1
    · have e : arvN s (j + 1) = arvN s j := if_neg q
      rw [e]; exact ⟨y, hy⟩
def restC (K : ab_X → Prop) (y : ab_X) : Prop := wX0_goOver y (fun x1 => wX0_workAll x1 (fun x2 => wX0_shareWater x2 (fun x3 => wX10_passMinute x3 (fun x4 => wX0_hurtFallen x4 (fun x5 => wX0_closeOut x5 (fun x6 => wX0_sendHome x6 (fun x7 => Lp2 (lX0_passMinute_111 K ) 0 x7)))))))
theorem c_arvL {x s : ab_X} (h : Inv2 x s) {K : ab_X → Prop} (k : ∀ y, Inv2 y (arvN s (nv s.1 246 58)) → keepT x.1 y.1 → smM x y → restC K y) : Lp2 (lX0_passMinute_12 K) 0 x := by
  have b58 := h.w.b58
  refine Lp2.ind (fun ii a y => ∃ j, j ≤ nv s.1 246 58 ∧ ii = nv s.1 246 58 - j ∧ a = nI j ∧ Inv2 y (arvN s j) ∧ keepT x.1 y.1 ∧ smM x y) (nv s.1 246 58) ⟨0, Nat.zero_le _, rfl, rfl, h, keepT.rfl', smM.rfl'⟩ ?_
  rintro ii a y ⟨j, hj, hii, rfl, hy, kt, sm⟩ L hL
  have n := (arvN_n s j).1
  have n58 : nv (arvN s j).1 246 58 = nv s.1 246 58 := by unfold nv; rw [n]
  have w := hy.w
  unfold lX0_passMinute_12 wX0_passMinute_46
  have ej : nI j + 1 = nI (j + 1) := nI_add j 1
  rw [hy.r.s58, w.v58, n58, q_le (by omega) (by omega), ej]
  refine ⟨fun q => ?_, fun q => ?_⟩
  · have : j = nv s.1 246 58 := by omega
    subst this
    exact k y hy kt sm
  have hj' : j < nv (arvN s j).1 246 58 := by omega
  have vj : vp_in (nI j) 16 := (vpi (by omega) (by decide)).mpr trivial
  obtain ⟨v0, v1, v2, v3, v3', v4, v5, v6, v7, v8, v9, v10, -⟩ := w.cr.1 j hj'
  have l8 := v8.2
  obtain ⟨r0, r1, r2, r3, r4, r5, r6, r7, r8, r9, r10, -⟩ := hy.r.cr.1 j hj'
  rw [cl_nI (by omega), r8, v8.1, r10, hy.r.s1]
  simp only [nI_lit]
  rw [q_eq (by omega) (by omega), q_eq (by omega) (by omega)]
  have st : arvN s (j + 1) = if (nv (arvN s j).1 286 j = 1 ∨ nv (arvN s j).1 286 j = 3) ∧ ¬ (arvN s j).1 246 1 < (arvN s j).1 288 j then arvS (arvN s j) j else arvN s j := rfl
  have skip : ¬ ((nv (arvN s j).1 286 j = 1 ∨ nv (arvN s j).1 286 j = 3) ∧ ¬ (arvN s j).1 246 1 < (arvN s j).1 288 j) → L (nI (j + 1)) y := fun u => hL _ _ _ (by omega) ⟨j + 1, by omega, rfl, rfl, by rw [st, if_neg u]; exact hy, kt, sm⟩
  have go : (nv (arvN s j).1 286 j = 1 ∨ nv (arvN s j).1 286 j = 3) → (vp_in (nI j) 16 ∧ (((arvN s j).1 246 1 < (arvN s j).1 288 j → L (nI (j + 1)) y) ∧ (¬ (arvN s j).1 246 1 < (arvN s j).1 288 j → (vp_in (nI j) 16 ∧ wX0_arrive (82 + j) y (fun x15 => L (nI (j + 1)) x15))))) := by
    intro g
    refine ⟨vj, fun q1 => skip (fun u => u.2 q1), fun q1 => ⟨vj, c_arrive hy hj' g (fun z iz ktz smz => hL _ _ _ (by omega) ⟨j + 1, by omega, rfl, rfl, by rw [st, if_pos ⟨g, q1⟩]; exact iz, kt.tr ktz, sm.tr smz⟩)⟩⟩
  exact ⟨vj, fun q1 => go (Or.inl q1), fun q1 => ⟨vj, fun q2 => skip (fun u => u.1.elim q1 q2), fun q2 => go (Or.inr q2)⟩⟩
theorem m_arvL {x s xa : ab_X} (i : Inv2 xa s) (m : keepM s.1 x.1) {K : ab_X → Prop} (k : ∀ y, keepM (arvN s (nv s.1 246 58)).1 y.1 → keepT x.1 y.1 → rA x y → smC x y → Lp2 (lX12_minute_66 K) 0 y) : Lp2 (lX12_minute_12 K) 0 x := by
  have b58 := i.w.b58
  refine Lp2.ind (fun ii a y => ∃ j, j ≤ nv s.1 246 58 ∧ ii = nv s.1 246 58 - j ∧ a = nI j ∧ keepM (arvN s j).1 y.1 ∧ keepT x.1 y.1 ∧ rA x y ∧ smC x y) (nv s.1 246 58) ⟨0, Nat.zero_le _, rfl, rfl, m, keepT.rfl', rA.rfl', smC.rfl'⟩ ?_
  rintro ii a y ⟨j, hj, hii, rfl, my, kt, fy, sm⟩ L hL
  obtain ⟨xb, hb⟩ := arvN_I i j hj
  have n := (arvN_n s j).1
  have n58 : nv (arvN s j).1 246 58 = nv s.1 246 58 := by unfold nv; rw [n]
  have w := hb.w
  unfold lX12_minute_12 wX12_minute_40
  have ej : nI j + 1 = nI (j + 1) := nI_add j 1
  rw [my.s58, w.v58, n58, q_le (by omega) (by omega), ej]
  refine ⟨fun q => ?_, fun q => ?_⟩
  · have : j = nv s.1 246 58 := by omega
    subst this
    exact k y my kt fy sm
  have hj' : j < nv (arvN s j).1 246 58 := by omega
  have vj : vp_in (nI j) 16 := (vpi (by omega) (by decide)).mpr trivial
  obtain ⟨v0, v1, v2, v3, v3', v4, v5, v6, v7, v8, v9, v10, -⟩ := w.cr.1 j hj'
  have l8 := v8.2
  rw [cl_nI (by omega), my.c286, v8.1, my.c288, my.s1]
  simp only [nI_lit]
  rw [q_eq (by omega) (by omega), q_eq (by omega) (by omega)]
  have st : arvN s (j + 1) = if (nv (arvN s j).1 286 j = 1 ∨ nv (arvN s j).1 286 j = 3) ∧ ¬ (arvN s j).1 246 1 < (arvN s j).1 288 j then arvS (arvN s j) j else arvN s j := rfl
  have skip : ¬ ((nv (arvN s j).1 286 j = 1 ∨ nv (arvN s j).1 286 j = 3) ∧ ¬ (arvN s j).1 246 1 < (arvN s j).1 288 j) → L (nI (j + 1)) y := fun u => hL _ _ _ (by omega) ⟨j + 1, by omega, rfl, rfl, by rw [st, if_neg u]; exact my, kt, fy, sm⟩
  have go : (nv (arvN s j).1 286 j = 1 ∨ nv (arvN s j).1 286 j = 3) → (vp_in (nI j) 16 ∧ (((arvN s j).1 246 1 < (arvN s j).1 288 j → L (nI (j + 1)) y) ∧ (¬ (arvN s j).1 246 1 < (arvN s j).1 288 j → wX12_arrives (nI j) y (fun x36 => L (nI (j + 1)) x36)))) := by
    intro g
    refine ⟨vj, fun q1 => skip (fun u => u.2 q1), fun q1 => m_arrive my w (fun v hv hk => ?_) hj' g (fun z mz ktz fz smz => hL _ _ _ (by omega) ⟨j + 1, by omega, rfl, rfl, by rw [st, if_pos ⟨g, q1⟩]; exact mz, kt.tr ktz, fy.tr fz, sm.tr smz⟩)⟩
    rcases hv with rfl | rfl
    · exact (cl_I hb hk (Or.inl rfl)).w
    · exact (cl_I hb hk (Or.inr rfl)).w
  exact ⟨vj, fun q1 => go (Or.inl q1), fun q1 => ⟨vj, fun q2 => skip (fun u => u.1.elim q1 q2), fun q2 => go (Or.inr q2)⟩⟩
def goB (s : ab_X) (j : Nat) : Prop := nv s.1 286 j = 2 ∧ bg s.1 (nv s.1 290 j) = 0 ∧ ¬ wor s.1 (s.1 287 j) = -nI 1
noncomputable def goS (s : ab_X) (j : Nat) : ab_X := @ite _ (goB s j) (Classical.propDecidable _) (wr s 290 j (wor s.1 (s.1 287 j))) s
noncomputable def goN (s : ab_X) : Nat → ab_X
  | 0 => s
  | j + 1 => goS (goN s j) j
theorem goS_n (s : ab_X) (j : Nat) : (∀ d, d ≠ 290 → (goS s j).1 d = s.1 d) ∧ (goS s j).2 = s.2 := by
  unfold goS
  split
  · exact ⟨fun d p => wr_n p, rfl⟩
  · exact ⟨fun _ _ => rfl, rfl⟩
theorem goN_n (s : ab_X) : ∀ j, (∀ d, d ≠ 290 → (goN s j).1 d = s.1 d) ∧ (goN s j).2 = s.2
  | 0 => ⟨fun _ _ => rfl, rfl⟩
  | j + 1 => ⟨fun d p => ((goS_n (goN s j) j).1 d p).trans ((goN_n s j).1 d p), ((goS_n (goN s j) j).2).trans (goN_n s j).2⟩
theorem i_over {x : ab_X} {j hh : Nat} (h : InvA x) (hj : j < nv x.1 246 58) (h1 : nv x.1 286 j = 2) (hh1 : hh < nv x.1 246 31) (hc : x.1 254 hh = x.1 287 j) {z : ab_X} (e : z = wr (wr x (82 + j) 12 (nI hh)) 290 j (nI hh)) : InvA z := by
  subst e
  have bn := h.2.b58
  have b31 := h.2.b31
  obtain ⟨r0, r1, r2, r3, r4, r5, r6, r7, r8, r9, r10, r11, r12, r13, r14, r15, r16⟩ := h.1.cr.1 j hj; obtain ⟨v0, v1, v2, v3, v3', v4, v5, v6, v7, v8, v9, v10, v11, v11'⟩ := h.2.cr.1 j hj; obtain ⟨g0, g1, g2⟩ := h.2.cr.2.1 j hj; obtain ⟨t0, t1, t2, t3⟩ := h.2.cr.2.2.1 j hj; have u0 := v0.2; have u1 := v1.2; have u8 := v8.2; have u9 := v9.2
  obtain ⟨m0, m1, m2⟩ := t1 h1
  have n4 := t3 (Or.inr h1)
  refine InvA_chg h (L := [(82, 97), (290, 290)]) (S := [0]) (C := []) ?chg (Or.inl rfl) (Or.inl rfl) (Or.inl rfl) (Or.inl rfl) (Or.inl rfl) (Or.inr ?cr) (Or.inl rfl) (Or.inl rfl) (Or.inl rfl) (Or.inl rfl) (Or.inl ⟨rfl, rfl⟩) (Or.inl rfl) (Or.inl rfl) (Or.inl rfl) (Or.inl rfl) (Or.inl rfl) (Or.inl rfl) (Or.inr ?wcr) (Or.inl rfl) (Or.inl rfl) (Or.inl rfl)
  case chg =>
    refine ⟨fun c p q r => ?_, fun f p => ?_, fun c f p q => ?_⟩
    · have r0 : c < 82 ∨ 97 < c := r (82, 97) (by simp); have r1 : c < 290 ∨ 290 < c := r (290, 290) (by simp); unfold scC at q; simp (disch := omega) only [wr_n]
    · have s0 : f ≠ 0 := fun e => p (by rw [e]; simp); simp (disch := omega) only [wr_ne]
    · unfold scC at p; simp (disch := omega) only [wr_ne]
  case cr => exact Rcr_pt h.1.cr (by simp (disch := omega) only [wr_ne]) h.2.b58 (fun c f p e => (by simp (disch := omega) only [wr_ne])) (fun d k p q e => (by simp (disch := omega) only [wr_ne])) hj (by simp (disch := first | assumption | omega) only [prv_n, nxt_n, q_sw, mc4, mc6, mc8, mc20, mc24, mc100, nv_rd, nb_rd, wr_rd, nI_lit, nI_add, pk_mul, pk_sub, q_div, cl_nI, vpi, q_eq, q_le, q_lt, n1_eq, n1_eq', n1_le, n1_lt, n1_ge, n1_gt, i_0m1, nlt_t, nlt_f, nle_t, nle_f, neq_f, f_below, f_within, f_isCorner, f_isIn, f_isCornerM, f_isStreet, f_isHouse, f_isCrew, f_isRow, f_has10, f_has0, jx_I, jx_N, jx_m1, jr_I, jr_N1, jr_N2, wr_2, isB_0, isB_1, true_and, and_true, and_self, false_and, and_false, true_or, or_true, false_or, or_false, not_true_eq_false, not_false_eq_true, forall_const, implies_true, false_implies, ne_eq, eq_self, if_true, if_false, Nat.zero_add, Nat.add_zero, Nat.mul_zero, Nat.zero_mul, Nat.mul_one, Nat.one_mul, Nat.add_sub_cancel, Nat.reduceEqDiff, Nat.reduceAdd, Nat.reduceMul, Nat.reduceSub, Nat.reduceLeDiff, Nat.reduceLT, Nat.reduceDiv, Nat.reduceMod, r0, r1, r2, r3, r4, r5, r6, r7, r8, r9, r10, r11, r12, r13, r14, r15, r16, ])
  case wcr =>
    refine Wcr_pt h.2.cr (by simp (disch := omega) only [wr_ne]) (by simp (disch := omega) only [wr_ne]) (by simp (disch := omega) only [wr_ne]) (by simp (disch := omega) only [wr_ne]) (by simp (disch := omega) only [wr_n]) (fun d k p q e => (by simp (disch := omega) only [wr_ne])) hj ?_ ?_ ?_
    · simp (disch := first | assumption | omega) only [prv_n, nxt_n, q_sw, mc4, mc6, mc8, mc20, mc24, mc100, nv_rd, nb_rd, wr_rd, nI_lit, nI_add, pk_mul, pk_sub, q_div, cl_nI, vpi, q_eq, q_le, q_lt, n1_eq, n1_eq', n1_le, n1_lt, n1_ge, n1_gt, i_0m1, nlt_t, nlt_f, nle_t, nle_f, neq_f, f_below, f_within, f_isCorner, f_isIn, f_isCornerM, f_isStreet, f_isHouse, f_isCrew, f_isRow, f_has10, f_has0, jx_I, jx_N, jx_m1, jr_I, jr_N1, jr_N2, wr_2, isB_0, isB_1, true_and, and_true, and_self, false_and, and_false, true_or, or_true, false_or, or_false, not_true_eq_false, not_false_eq_true, forall_const, implies_true, false_implies, ne_eq, eq_self, if_true, if_false, Nat.zero_add, Nat.add_zero, Nat.mul_zero, Nat.zero_mul, Nat.mul_one, Nat.one_mul, Nat.add_sub_cancel, Nat.reduceEqDiff, Nat.reduceAdd, Nat.reduceMul, Nat.reduceSub, Nat.reduceLeDiff, Nat.reduceLT, Nat.reduceDiv, Nat.reduceMod, v0, v1, v2, v3, v3', v4, v5, v6, v7, v8, v9, v10, v11, v11']
    · simp (disch := first | assumption | omega) only [prv_n, nxt_n, q_sw, mc4, mc6, mc8, mc20, mc24, mc100, nv_rd, nb_rd, wr_rd, nI_lit, nI_add, pk_mul, pk_sub, q_div, cl_nI, vpi, q_eq, q_le, q_lt, n1_eq, n1_eq', n1_le, n1_lt, n1_ge, n1_gt, i_0m1, nlt_t, nlt_f, nle_t, nle_f, neq_f, f_below, f_within, f_isCorner, f_isIn, f_isCornerM, f_isStreet, f_isHouse, f_isCrew, f_isRow, f_has10, f_has0, jx_I, jx_N, jx_m1, jr_I, jr_N1, jr_N2, wr_2, isB_0, isB_1, true_and, and_true, and_self, false_and, and_false, true_or, or_true, false_or, or_false, not_true_eq_false, not_false_eq_true, forall_const, implies_true, false_implies, ne_eq, eq_self, if_true, if_false, Nat.zero_add, Nat.add_zero, Nat.mul_zero, Nat.zero_mul, Nat.mul_one, Nat.one_mul, Nat.add_sub_cancel, Nat.reduceEqDiff, Nat.reduceAdd, Nat.reduceMul, Nat.reduceSub, Nat.reduceLeDiff, Nat.reduceLT, Nat.reduceDiv, Nat.reduceMod, g0, g1, g2]
      exact ⟨g0, g1, g2⟩
    · simp (disch := first | assumption | omega) only [prv_n, nxt_n, q_sw, mc4, mc6, mc8, mc20, mc24, mc100, nv_rd, nb_rd, wr_rd, nI_lit, nI_add, pk_mul, pk_sub, q_div, cl_nI, vpi, q_eq, q_le, q_lt, n1_eq, n1_eq', n1_le, n1_lt, n1_ge, n1_gt, i_0m1, nlt_t, nlt_f, nle_t, nle_f, neq_f, f_below, f_within, f_isCorner, f_isIn, f_isCornerM, f_isStreet, f_isHouse, f_isCrew, f_isRow, f_has10, f_has0, jx_I, jx_N, jx_m1, jr_I, jr_N1, jr_N2, wr_2, isB_0, isB_1, true_and, and_true, and_self, false_and, and_false, true_or, or_true, false_or, or_false, not_true_eq_false, not_false_eq_true, forall_const, implies_true, false_implies, ne_eq, eq_self, if_true, if_false, Nat.zero_add, Nat.add_zero, Nat.mul_zero, Nat.zero_mul, Nat.mul_one, Nat.one_mul, Nat.add_sub_cancel, Nat.reduceEqDiff, Nat.reduceAdd, Nat.reduceMul, Nat.reduceSub, Nat.reduceLeDiff, Nat.reduceLT, Nat.reduceDiv, Nat.reduceMod, h1, hc, n4]
theorem go_I {x s : ab_X} {j : Nat} (h : Inv2 x s) (hj : j < nv s.1 246 58) : (¬ goB s j → goS s j = s) ∧ (goB s j → ∃ hh, hh < nv s.1 246 31 ∧ wor s.1 (s.1 287 j) = nI hh ∧ goS s j = wr s 290 j (nI hh) ∧ Inv2 (wr x (82 + j) 12 (nI hh)) (wr s 290 j (nI hh))) := by
  have b58 := h.w.b58
  refine ⟨fun q => by unfold goS; rw [if_neg q], fun q => ?_⟩
  rcases wor_d s.1 (s.1 287 j) with ⟨e, -⟩ | ⟨hh, hh1, e, e1, e2⟩
  · exact absurd e q.2.2
  refine ⟨hh, hh1, e, by unfold goS; rw [if_pos q, e], ?_⟩
  unfold Inv2
  rw [mg_wm (by decide), mg_wc (by omega)]
  refine i_over (j := j) (hh := hh) h ?_ ?_ ?_ ?_ rfl
  · unfold nv; rw [mg_m (by decide)]; exact hj
  · unfold nv; rw [mg_m (by decide)]; exact q.1
  · unfold nv; rw [mg_m (by decide)]; exact hh1
  · rw [mg_m (by decide), mg_m (by decide)]; exact e2
theorem goN_I {x s : ab_X} (h : Inv2 x s) : ∀ j, j ≤ nv s.1 246 58 → ∃ y, Inv2 y (goN s j)
  | 0, _ => ⟨x, h⟩
  | j + 1, hj => by
    obtain ⟨y, hy⟩ := goN_I h j (by omega)
    have n58 : nv (goN s j).1 246 58 = nv s.1 246 58 := by unfold nv; rw [(goN_n s j).1 246 (by decide)]
    obtain ⟨a, b⟩ := go_I (j := j) hy (by omega)
    show ∃ y, Inv2 y (goS (goN s j) j)
    by_cases q : goB (goN s j) j
    · obtain ⟨hh, -, -, e, i⟩ := b q
      rw [e]; exact ⟨_, i⟩
    · rw [a q]; exact ⟨y, hy⟩
theorem c_goOver {x s : ab_X} (h : Inv2 x s) {K : ab_X → Prop} (k : ∀ y, Inv2 y (goN s (nv s.1 246 58)) → keepT x.1 y.1 → smM x y → K y) : wX0_goOver x K := by
  have b58 := h.w.b58
  unfold wX0_goOver
  refine Lp2.ind (fun ii a y => ∃ j, j ≤ nv s.1 246 58 ∧ ii = nv s.1 246 58 - j ∧ a = nI j ∧ Inv2 y (goN s j) ∧ keepT x.1 y.1 ∧ smM x y) (nv s.1 246 58) ⟨0, Nat.zero_le _, rfl, rfl, h, keepT.rfl', smM.rfl'⟩ ?_
  rintro ii a y ⟨j, hj, hii, rfl, hy, kt, sm⟩ L hL
  have n58 : nv (goN s j).1 246 58 = nv s.1 246 58 := by unfold nv; rw [(goN_n s j).1 246 (by decide)]
  have w := hy.w
  have b31 := w.b31
  unfold lX0_goOver_2
  have ej : nI j + 1 = nI (j + 1) := nI_add j 1
  rw [hy.r.s58, w.v58, n58, q_le (by omega) (by omega), ej]
  refine ⟨fun q => ?_, fun q => ?_⟩
  · have : j = nv s.1 246 58 := by omega
    subst this
    exact k y hy kt sm
  have hj' : j < nv (goN s j).1 246 58 := by omega
  obtain ⟨a1, a2⟩ := go_I (j := j) hy hj'
  have st : goN s (j + 1) = goS (goN s j) j := rfl
  have skip : ¬ goB (goN s j) j → ∀ z, keepC y.1 z.1 → keepT y.1 z.1 → smM y z → L (nI (j + 1)) z := fun u z kc ktz smz => hL _ _ _ (by omega) ⟨j + 1, by omega, rfl, rfl, by rw [st, a1 u]; exact hy.kc kc, kt.tr ktz, sm.tr smz⟩
  have skip0 : ¬ goB (goN s j) j → L (nI (j + 1)) y := fun u => skip u y keepC.rfl' keepT.rfl' smM.rfl'
  have vj : vp_in (nI j) 16 := (vpi (by omega) (by decide)).mpr trivial
  obtain ⟨v0, v1, v2, v3, v3', v4, v5, v6, v7, v8, v9, v10, -⟩ := w.cr.1 j hj'
  have l8 := v8.2
  obtain ⟨r0, r1, r2, r3, r4, r5, r6, r7, r8, r9, r10, r11, r12, -⟩ := hy.r.cr.1 j hj'
  rw [cl_nI (by omega), r8, v8.1, r12, r9]
  simp only [nI_lit]
  rw [q_eq (by omega) (by omega)]
  refine ⟨vj, fun q1 => skip0 (fun u => q1 u.1), fun q1 => ?_⟩
  obtain ⟨m0, m1, m2⟩ := (w.cr.2.2.1 j hj').2.1 q1
  rw [f_has10, hy.r.s31, w.v31, m0.1, jx_I m1 (by omega), cl_nI (by omega)]
  refine x1 ⟨(vpi (by omega) (by decide)).mpr trivial, ?_⟩
  refine c_burning hy.r.tr w.tw m1 ?_
  have bl := bg_le w.tw m1
  rw [q_eq (by omega) (by omega)]
  refine ⟨fun q2 => skip0 (fun u => q2 u.2.1), fun q2 => c_worst hy.r.tr w.tw ⟨fun q3 => ?_, fun q3 => ?_⟩⟩
  · obtain ⟨hh, hh1, e, eg, ig⟩ := a2 ⟨q1, q2, q3⟩
    rw [e]
    exact hL _ _ _ (by omega) ⟨j + 1, by omega, rfl, rfl, by rw [st, eg]; exact ig, kt.tr (fun c i q => by unfold tk at q; rw [wr_ne (by omega)]), sm.tr (smM.wr (by omega))⟩
  · refine skip (fun u => u.2.2 q3) _ ⟨fun c q => ?_, ?_, fun c f p q => ?_⟩ (fun c i q => by unfold tk at q; rw [wr_ne (by omega)]) (smM.wr (by omega))
    · rw [wr_n (by unfold kC at q; omega)]
    · rw [wr_n (by omega)]
    · by_cases e1 : 82 + c = 82 + j ∧ f = 12
      · rw [e1.1, e1.2, wr_e, r12]; exact m0.1.symm
      · rw [wr_ne (by omega)]
theorem m_goOver {x s xa : ab_X} (i : Inv2 xa s) (m : keepM s.1 x.1) {K : ab_X → Prop} (k : ∀ y, keepM (goN s (nv s.1 246 58)).1 y.1 → keepT x.1 y.1 → rA x y → smC x y → wX12_work y (fun x3 => wX12_burn 1 x3 (fun x4 => Lp2 (lX12_minute_145 K) 0 x4))) : Lp2 (lX12_minute_66 K) 0 x := by
  have b58 := i.w.b58
  refine Lp2.ind (fun ii a y => ∃ j, j ≤ nv s.1 246 58 ∧ ii = nv s.1 246 58 - j ∧ a = nI j ∧ keepM (goN s j).1 y.1 ∧ keepT x.1 y.1 ∧ rA x y ∧ smC x y) (nv s.1 246 58) ⟨0, Nat.zero_le _, rfl, rfl, m, keepT.rfl', rA.rfl', smC.rfl'⟩ ?_
  rintro ii a y ⟨j, hj, hii, rfl, my, kt, fy, sm⟩ L hL
  obtain ⟨xb, hb⟩ := goN_I i j hj
  have n58 : nv (goN s j).1 246 58 = nv s.1 246 58 := by unfold nv; rw [(goN_n s j).1 246 (by decide)]
  have w := hb.w
  have b31 := w.b31
  unfold lX12_minute_66
  have ej : nI j + 1 = nI (j + 1) := nI_add j 1
  rw [my.s58, w.v58, n58, q_le (by omega) (by omega), ej]
  refine ⟨fun q => ?_, fun q => ?_⟩
  · have : j = nv s.1 246 58 := by omega
    subst this
    exact k y my kt fy sm
  have hj' : j < nv (goN s j).1 246 58 := by omega
  obtain ⟨a1, a2⟩ := go_I (j := j) hb hj'
  have st : goN s (j + 1) = goS (goN s j) j := rfl
  have skip0 : ¬ goB (goN s j) j → L (nI (j + 1)) y := fun u => hL _ _ _ (by omega) ⟨j + 1, by omega, rfl, rfl, by rw [st, a1 u]; exact my, kt, fy, sm⟩
  have vj : vp_in (nI j) 16 := (vpi (by omega) (by decide)).mpr trivial
  obtain ⟨v0, v1, v2, v3, v3', v4, v5, v6, v7, v8, v9, v10, -⟩ := w.cr.1 j hj'
  have l8 := v8.2
  rw [cl_nI (by omega), my.c286, v8.1, my.c290]
  simp only [nI_lit]
  rw [q_eq (by omega) (by omega)]
  refine ⟨vj, fun q1 => skip0 (fun u => q1 u.1), fun q1 => ⟨vj, ?_⟩⟩
  obtain ⟨m0, m1, m2⟩ := (w.cr.2.2.1 j hj').2.1 q1
  rw [m0.1, cl_nI (by omega), my.c254, m2]
  refine m_burning my.f w.tw m1 ?_
  have bl := bg_le w.tw m1
  rw [q_le (by omega) (by omega)]
  refine ⟨fun q2 => ⟨vj, (vpi (by omega) (by decide)).mpr trivial, m_worst my.f w.tw ⟨fun q3 => skip0 (fun u => u.2.2 q3), fun q3 => ⟨vj, ?_⟩⟩⟩, fun q2 => skip0 (fun u => by have := u.2.1; omega)⟩
  obtain ⟨hh, hh1, e, eg, ig⟩ := a2 ⟨q1, by omega, q3⟩
  rw [e]
  exact hL _ _ _ (by omega) ⟨j + 1, by omega, rfl, rfl, by rw [st, eg]; exact keepM_wr my, kt.tr (fun c i q => by unfold tk at q; rw [wr_ne (by omega)]), fy.tr ⟨fun d a b c e => by rw [wr_n (by omega)], rfl⟩, sm.tr (smC.wr (by decide))⟩
