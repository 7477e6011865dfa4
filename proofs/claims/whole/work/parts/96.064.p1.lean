/-! CALLS: one call changes; a crew goes. -/
theorem i_callP {x z : ab_X} {k : Nat} (h : InvA x) (hk : k < nv x.1 246 92) (chg : Chg x.1 z.1 [(98, 157), (310, 318)] [] []) (hD : z.2.1 329 = x.2.1 329) (oc : ∀ i f, i < 60 → i ≠ k → z.1 (98 + i) f = x.1 (98 + i) f) (om : ∀ d i, 310 ≤ d → d ≤ 318 → i ≠ k → z.1 d i = x.1 d i) (rel : z.1 (98 + k) 0 = z.1 310 k ∧ z.1 (98 + k) 1 = z.1 311 k ∧ z.1 (98 + k) 2 = z.1 312 k ∧ z.1 (98 + k) 3 = z.1 313 k ∧ z.1 (98 + k) 4 = z.1 314 k ∧ z.1 (98 + k) 5 = z.1 315 k ∧ z.1 (98 + k) 6 = z.1 316 k ∧ z.1 (98 + k) 7 = z.1 317 k ∧ z.1 (98 + k) 8 = z.1 318 k) (bd : nbd z.1 311 k 3 ∧ nbd z.1 312 k 2 ∧ isB (z.1 318 k)) (e310 : z.1 310 k = x.1 310 k) (e313 : z.1 313 k = x.1 313 k) (st : z.1 312 k = nI 0 → x.1 312 k = nI 0 ∧ (z.1 318 k = x.1 318 k ∨ z.1 318 k = nI 1)) : InvA z := by
  have b92 := h.2.b92
  have sc : ∀ f, z.1 246 f = x.1 246 f := fun f => chg.2.1 f (by simp)
  have scn : ∀ f, nv z.1 246 f = nv x.1 246 f := fun f => by unfold nv; rw [sc f]
  have mo : ∀ d, d ≠ 246 → ¬ scC d → (d < 98 ∨ 157 < d) → (d < 310 ∨ 318 < d) → z.1 d = x.1 d := fun d p q a b => chg.1 d p q (by intro p hp; simp at hp; rcases hp with rfl | rfl <;> simp <;> omega)
  refine InvA_chg h chg (Or.inl rfl) (Or.inl rfl) (Or.inl rfl) (Or.inl rfl) (Or.inl rfl) (Or.inl rfl) (Or.inr ?ca) (Or.inl rfl) (Or.inl rfl) (Or.inl rfl) (Or.inl ⟨rfl, hD⟩) (Or.inl rfl) (Or.inl rfl) (Or.inl rfl) (Or.inl rfl) (Or.inl rfl) (Or.inl rfl) (Or.inl rfl) (Or.inr ?wca) (Or.inl rfl) (Or.inr ?wcb)
  case ca =>
    obtain ⟨r1, r2⟩ := h.1.ca
    refine ⟨fun i p => ?_, fun i p q => ?_⟩
    · rw [scn] at p
      by_cases e : i = k
      · subst e; exact rel
      · have := r1 i p
        rw [oc i _ (by omega) e, oc i _ (by omega) e, oc i _ (by omega) e, oc i _ (by omega) e, oc i _ (by omega) e, oc i _ (by omega) e, oc i _ (by omega) e, oc i _ (by omega) e, oc i _ (by omega) e, om 310 i (by decide) (by decide) e, om 311 i (by decide) (by decide) e, om 312 i (by decide) (by decide) e, om 313 i (by decide) (by decide) e, om 314 i (by decide) (by decide) e, om 315 i (by decide) (by decide) e, om 316 i (by decide) (by decide) e, om 317 i (by decide) (by decide) e, om 318 i (by decide) (by decide) e]
        exact this
    · rw [scn] at p
      have e : i ≠ k := by omega
      have := r2 i p q
      rw [oc i _ q e, oc i _ q e, oc i _ q e, oc i _ q e, oc i _ q e, oc i _ q e, oc i _ q e]
      exact this
  case wca =>
    obtain ⟨r1, r2, r3⟩ := h.2.ca
    have nvo : ∀ d i, 310 ≤ d → d ≤ 318 → i ≠ k → nv z.1 d i = nv x.1 d i := fun d i a b e => by unfold nv; rw [om d i a b e]
    have nbo : ∀ d i b, 310 ≤ d → d ≤ 318 → i ≠ k → nbd x.1 d i b → nbd z.1 d i b := fun d i b p q e u => by unfold nbd at u ⊢; rw [nvo d i p q e, om d i p q e]; exact u
    refine ⟨fun i p => ?_, fun i p q => ?_, fun a b p q s1 s2 => ?_⟩
    · rw [scn] at p
      rw [scn]
      by_cases e : i = k
      · subst e
        obtain ⟨a1, a2, a3, a4, a5, a6⟩ := r1 i p
        refine ⟨?_, bd.1, bd.2.1, ?_, ?_, bd.2.2⟩
        · unfold nbd nv at a1 ⊢; rw [e310]; exact a1
        · unfold nbd nv at a4 ⊢; rw [e313]; exact a4
        · unfold nv at a5 ⊢; rw [e313]; exact a5
      · obtain ⟨a1, a2, a3, a4, a5, a6⟩ := r1 i p
        exact ⟨nbo _ _ _ (by decide) (by decide) e a1, nbo _ _ _ (by decide) (by decide) e a2, nbo _ _ _ (by decide) (by decide) e a3, nbo _ _ _ (by decide) (by decide) e a4, by rw [nvo _ _ (by decide) (by decide) e]; exact a5, by rw [om _ _ (by decide) (by decide) e]; exact a6⟩
    · rw [scn] at p
      have e : i ≠ k := by omega
      rw [om 312 i (by decide) (by decide) e, om 315 i (by decide) (by decide) e, om 316 i (by decide) (by decide) e, om 317 i (by decide) (by decide) e, om 318 i (by decide) (by decide) e]
      exact r2 i p q
    · rw [scn] at q
      have g : ∀ i, z.1 312 i = nI 0 → x.1 312 i = nI 0 := by
        intro i u
        by_cases e : i = k
        · subst e; exact (st u).1
        · rw [om 312 i (by decide) (by decide) e] at u; exact u
      have g0 : ∀ i, z.1 310 i = x.1 310 i := by
        intro i
        by_cases e : i = k
        · subst e; exact e310
        · exact om 310 i (by decide) (by decide) e
      rw [g0, g0]
      exact r3 a b p q (g a s1) (g b s2)
  case wcb =>
    intro i p s1 s2
    rw [scn] at p
    have ew : ∀ c, wor z.1 c = wor x.1 c := wor_cg (mo 254 (by decide) (by unfold scC; omega) (by omega) (by omega)) (mo 256 (by decide) (by unfold scC; omega) (by omega) (by omega)) (mo 257 (by decide) (by unfold scC; omega) (by omega) (by omega)) (mo 266 (by decide) (by unfold scC; omega) (by omega) (by omega)) (mo 267 (by decide) (by unfold scC; omega) (by omega) (by omega)) (sc 31)
    rw [ew] at s2
    by_cases e : i = k
    · subst e
      obtain ⟨a1, a2⟩ := st s1
      rcases a2 with a2 | a2
      · rw [a2]
        exact h.2.cb i p a1 (by rw [← e310]; exact s2)
      · exact a2
    · rw [om 312 i (by decide) (by decide) e] at s1
      rw [om 310 i (by decide) (by decide) e] at s2
      rw [om 318 i (by decide) (by decide) e]
      exact h.2.cb i p s1 s2
/-- a count of a call -/
theorem i_cnt {x : ab_X} {k f : Nat} {v : Int32} (h : InvA x) (hk : k < nv x.1 246 92) (hf : f = 5 ∨ f = 6 ∨ f = 7) {z : ab_X} (e : z = wr (wr x (98 + k) f v) (310 + f) k v) : InvA z := by
  subst e
  have b92 := h.2.b92
  obtain ⟨c0, c1, c2, c3, c4, c5, c6, c7, c8⟩ := h.1.ca.1 k hk
  obtain ⟨a1, a2, a3, a4, a5, a6⟩ := h.2.ca.1 k hk
  refine i_callP (k := k) h hk ⟨fun c p q r => ?_, fun f' p => ?_, fun c f' p q => ?_⟩ rfl (fun i f' p q => ?_) (fun d i p q r => ?_) ?_ ?_ ?_ ?_ (fun u => ?_)
  · have r0 : c < 98 ∨ 157 < c := r (98, 157) (by simp)
    have r1 : c < 310 ∨ 318 < c := r (310, 318) (by simp)
    simp (disch := omega) only [wr_n]
  · simp (disch := omega) only [wr_n]
  · unfold scC at p; simp (disch := omega) only [wr_n]
  · simp (disch := omega) only [wr_n]
  · simp (disch := omega) only [wr_ne]
  · rcases hf with rfl | rfl | rfl <;> simp (disch := first | assumption | omega) only [prv_n, nxt_n, q_sw, mc4, mc6, mc8, mc20, mc24, mc100, nv_rd, nb_rd, wr_rd, nI_lit, nI_add, pk_mul, pk_sub, q_div, cl_nI, vpi, q_eq, q_le, q_lt, n1_eq, n1_eq', n1_le, n1_lt, n1_ge, n1_gt, i_0m1, nlt_t, nlt_f, nle_t, nle_f, neq_f, f_below, f_within, f_isCorner, f_isIn, f_isCornerM, f_isStreet, f_isHouse, f_isCrew, f_isRow, f_has10, f_has0, jx_I, jx_N, jx_m1, jr_I, jr_N1, jr_N2, wr_2, isB_0, isB_1, true_and, and_true, and_self, false_and, and_false, true_or, or_true, false_or, or_false, not_true_eq_false, not_false_eq_true, forall_const, implies_true, false_implies, ne_eq, eq_self, if_true, if_false, Nat.zero_add, Nat.add_zero, Nat.mul_zero, Nat.zero_mul, Nat.mul_one, Nat.one_mul, Nat.add_sub_cancel, Nat.reduceEqDiff, Nat.reduceAdd, Nat.reduceMul, Nat.reduceSub, Nat.reduceLeDiff, Nat.reduceLT, Nat.reduceDiv, Nat.reduceMod, c0, c1, c2, c3, c4, c5, c6, c7, c8]
  · rcases hf with rfl | rfl | rfl <;> (simp (disch := first | assumption | omega) only [prv_n, nxt_n, q_sw, mc4, mc6, mc8, mc20, mc24, mc100, nv_rd, nb_rd, wr_rd, nI_lit, nI_add, pk_mul, pk_sub, q_div, cl_nI, vpi, q_eq, q_le, q_lt, n1_eq, n1_eq', n1_le, n1_lt, n1_ge, n1_gt, i_0m1, nlt_t, nlt_f, nle_t, nle_f, neq_f, f_below, f_within, f_isCorner, f_isIn, f_isCornerM, f_isStreet, f_isHouse, f_isCrew, f_isRow, f_has10, f_has0, jx_I, jx_N, jx_m1, jr_I, jr_N1, jr_N2, wr_2, isB_0, isB_1, true_and, and_true, and_self, false_and, and_false, true_or, or_true, false_or, or_false, not_true_eq_false, not_false_eq_true, forall_const, implies_true, false_implies, ne_eq, eq_self, if_true, if_false, Nat.zero_add, Nat.add_zero, Nat.mul_zero, Nat.zero_mul, Nat.mul_one, Nat.one_mul, Nat.add_sub_cancel, Nat.reduceEqDiff, Nat.reduceAdd, Nat.reduceMul, Nat.reduceSub, Nat.reduceLeDiff, Nat.reduceLT, Nat.reduceDiv, Nat.reduceMod, a2, a3, a6])
  · rcases hf with rfl | rfl | rfl <;> simp (disch := omega) only [wr_ne]
  · rcases hf with rfl | rfl | rfl <;> simp (disch := omega) only [wr_ne]
  · have e1 : (wr (wr x (98 + k) f v) (310 + f) k v).1 312 k = x.1 312 k := by simp (disch := omega) only [wr_ne]
    have e2 : (wr (wr x (98 + k) f v) (310 + f) k v).1 318 k = x.1 318 k := by simp (disch := omega) only [wr_ne]
    rw [e1] at u
    exact ⟨u, Or.inl e2⟩
theorem i_word {x : ab_X} {k v : Nat} (h : InvA x) (hk : k < nv x.1 246 92) (hv : v ≤ 3) {z : ab_X} (e : z = wr (wr x (98 + k) 1 (nI v)) 311 k (nI v)) : InvA z := by
  subst e
  have b92 := h.2.b92
  obtain ⟨c0, c1, c2, c3, c4, c5, c6, c7, c8⟩ := h.1.ca.1 k hk
  obtain ⟨a1, a2, a3, a4, a5, a6⟩ := h.2.ca.1 k hk
  refine i_callP (k := k) h hk ⟨fun c p q r => ?_, fun f' p => ?_, fun c f' p q => ?_⟩ rfl (fun i f' p q => ?_) (fun d i p q r => ?_) ?_ ?_ ?_ ?_ (fun u => ?_)
  · have r0 : c < 98 ∨ 157 < c := r (98, 157) (by simp)
    have r1 : c < 310 ∨ 318 < c := r (310, 318) (by simp)
    simp (disch := omega) only [wr_n]
  · simp (disch := omega) only [wr_n]
  · unfold scC at p; simp (disch := omega) only [wr_n]
  · simp (disch := omega) only [wr_n]
  · simp (disch := omega) only [wr_ne]
  · simp (disch := first | assumption | omega) only [prv_n, nxt_n, q_sw, mc4, mc6, mc8, mc20, mc24, mc100, nv_rd, nb_rd, wr_rd, nI_lit, nI_add, pk_mul, pk_sub, q_div, cl_nI, vpi, q_eq, q_le, q_lt, n1_eq, n1_eq', n1_le, n1_lt, n1_ge, n1_gt, i_0m1, nlt_t, nlt_f, nle_t, nle_f, neq_f, f_below, f_within, f_isCorner, f_isIn, f_isCornerM, f_isStreet, f_isHouse, f_isCrew, f_isRow, f_has10, f_has0, jx_I, jx_N, jx_m1, jr_I, jr_N1, jr_N2, wr_2, isB_0, isB_1, true_and, and_true, and_self, false_and, and_false, true_or, or_true, false_or, or_false, not_true_eq_false, not_false_eq_true, forall_const, implies_true, false_implies, ne_eq, eq_self, if_true, if_false, Nat.zero_add, Nat.add_zero, Nat.mul_zero, Nat.zero_mul, Nat.mul_one, Nat.one_mul, Nat.add_sub_cancel, Nat.reduceEqDiff, Nat.reduceAdd, Nat.reduceMul, Nat.reduceSub, Nat.reduceLeDiff, Nat.reduceLT, Nat.reduceDiv, Nat.reduceMod, c0, c1, c2, c3, c4, c5, c6, c7, c8]
  · simp (disch := first | assumption | omega) only [prv_n, nxt_n, q_sw, mc4, mc6, mc8, mc20, mc24, mc100, nv_rd, nb_rd, wr_rd, nI_lit, nI_add, pk_mul, pk_sub, q_div, cl_nI, vpi, q_eq, q_le, q_lt, n1_eq, n1_eq', n1_le, n1_lt, n1_ge, n1_gt, i_0m1, nlt_t, nlt_f, nle_t, nle_f, neq_f, f_below, f_within, f_isCorner, f_isIn, f_isCornerM, f_isStreet, f_isHouse, f_isCrew, f_isRow, f_has10, f_has0, jx_I, jx_N, jx_m1, jr_I, jr_N1, jr_N2, wr_2, isB_0, isB_1, true_and, and_true, and_self, false_and, and_false, true_or, or_true, false_or, or_false, not_true_eq_false, not_false_eq_true, forall_const, implies_true, false_implies, ne_eq, eq_self, if_true, if_false, Nat.zero_add, Nat.add_zero, Nat.mul_zero, Nat.zero_mul, Nat.mul_one, Nat.one_mul, Nat.add_sub_cancel, Nat.reduceEqDiff, Nat.reduceAdd, Nat.reduceMul, Nat.reduceSub, Nat.reduceLeDiff, Nat.reduceLT, Nat.reduceDiv, Nat.reduceMod, a2, a3, a6]
  · simp (disch := omega) only [wr_ne]
  · simp (disch := omega) only [wr_ne]
  · have e1 : (wr (wr x (98 + k) 1 (nI v)) 311 k (nI v)).1 312 k = x.1 312 k := by simp (disch := omega) only [wr_ne]
    have e2 : (wr (wr x (98 + k) 1 (nI v)) 311 k (nI v)).1 318 k = x.1 318 k := by simp (disch := omega) only [wr_ne]
    rw [e1] at u
    exact ⟨u, Or.inl e2⟩
theorem i_goes {x : ab_X} {j c t k : Nat} (h : InvA x) (hj : j < nv x.1 246 58) (hc : c < 20) (hk : k < nv x.1 246 92) (h0 : nv x.1 286 j = 0) {z : ab_X} (e : z = wr (wr (wr (wr (wr (wr (wr (wr (wr (wr x (82 + j) 12 (-nI 1)) (82 + j) 13 (-nI 1)) (82 + j) 8 (nI 1)) (82 + j) 9 (nI c)) (82 + j) 10 (nI t)) (82 + j) 11 (nI k)) 286 j (nI 1)) 287 j (nI c)) 288 j (nI t)) 289 j (nI k)) : InvA z := by
  subst e
  have bn := h.2.b58
  have b92 := h.2.b92
  obtain ⟨r0, r1, r2, r3, r4, r5, r6, r7, r8, r9, r10, r11, r12, r13, r14, r15, r16⟩ := h.1.cr.1 j hj; obtain ⟨v0, v1, v2, v3, v3', v4, v5, v6, v7, v8, v9, v10, v11, v11'⟩ := h.2.cr.1 j hj; obtain ⟨g0, g1, g2⟩ := h.2.cr.2.1 j hj; obtain ⟨t0, t1, t2, t3⟩ := h.2.cr.2.2.1 j hj; have u0 := v0.2; have u1 := v1.2; have u8 := v8.2; have u9 := v9.2
  obtain ⟨n0, n1⟩ := t2 (by omega)
  refine InvA_chg h (L := [(82, 97), (286, 286), (287, 287), (288, 288), (289, 289)]) (S := [0]) (C := []) ?chg (Or.inl rfl) (Or.inl rfl) (Or.inl rfl) (Or.inl rfl) (Or.inl rfl) (Or.inr ?cr) (Or.inl rfl) (Or.inl rfl) (Or.inl rfl) (Or.inl rfl) (Or.inl ⟨rfl, rfl⟩) (Or.inl rfl) (Or.inl rfl) (Or.inl rfl) (Or.inl rfl) (Or.inl rfl) (Or.inl rfl) (Or.inr ?wcr) (Or.inl rfl) (Or.inl rfl) (Or.inl rfl)
  case chg =>
    refine ⟨fun c p q r => ?_, fun f p => ?_, fun c f p q => ?_⟩
    · have r0 : c < 82 ∨ 97 < c := r (82, 97) (by simp); have r1 : c < 286 ∨ 286 < c := r (286, 286) (by simp); have r2 : c < 287 ∨ 287 < c := r (287, 287) (by simp); have r3 : c < 288 ∨ 288 < c := r (288, 288) (by simp); have r4 : c < 289 ∨ 289 < c := r (289, 289) (by simp); unfold scC at q; simp (disch := omega) only [wr_n]
    · have s0 : f ≠ 0 := fun e => p (by rw [e]; simp); simp (disch := omega) only [wr_ne]
    · unfold scC at p; simp (disch := omega) only [wr_ne]
  case cr => exact Rcr_pt h.1.cr (by simp (disch := omega) only [wr_ne]) h.2.b58 (fun c f p e => (by simp (disch := omega) only [wr_ne])) (fun d k p q e => (by simp (disch := omega) only [wr_ne])) hj (by simp (disch := first | assumption | omega) only [prv_n, nxt_n, q_sw, mc4, mc6, mc8, mc20, mc24, mc100, nv_rd, nb_rd, wr_rd, nI_lit, nI_add, pk_mul, pk_sub, q_div, cl_nI, vpi, q_eq, q_le, q_lt, n1_eq, n1_eq', n1_le, n1_lt, n1_ge, n1_gt, i_0m1, nlt_t, nlt_f, nle_t, nle_f, neq_f, f_below, f_within, f_isCorner, f_isIn, f_isCornerM, f_isStreet, f_isHouse, f_isCrew, f_isRow, f_has10, f_has0, jx_I, jx_N, jx_m1, jr_I, jr_N1, jr_N2, wr_2, isB_0, isB_1, true_and, and_true, and_self, false_and, and_false, true_or, or_true, false_or, or_false, not_true_eq_false, not_false_eq_true, forall_const, implies_true, false_implies, ne_eq, eq_self, if_true, if_false, Nat.zero_add, Nat.add_zero, Nat.mul_zero, Nat.zero_mul, Nat.mul_one, Nat.one_mul, Nat.add_sub_cancel, Nat.reduceEqDiff, Nat.reduceAdd, Nat.reduceMul, Nat.reduceSub, Nat.reduceLeDiff, Nat.reduceLT, Nat.reduceDiv, Nat.reduceMod, r0, r1, r2, r3, r4, r5, r6, r7, r8, r9, r10, r11, r12, r13, r14, r15, r16, n0, n1])
  case wcr =>
    refine Wcr_pt h.2.cr (by simp (disch := omega) only [wr_ne]) (by simp (disch := omega) only [wr_ne]) (by simp (disch := omega) only [wr_ne]) (by simp (disch := omega) only [wr_ne]) (by simp (disch := omega) only [wr_n]) (fun d k p q e => (by simp (disch := omega) only [wr_ne])) hj ?_ ?_ ?_
    · simp (disch := first | assumption | omega) only [prv_n, nxt_n, q_sw, mc4, mc6, mc8, mc20, mc24, mc100, nv_rd, nb_rd, wr_rd, nI_lit, nI_add, pk_mul, pk_sub, q_div, cl_nI, vpi, q_eq, q_le, q_lt, n1_eq, n1_eq', n1_le, n1_lt, n1_ge, n1_gt, i_0m1, nlt_t, nlt_f, nle_t, nle_f, neq_f, f_below, f_within, f_isCorner, f_isIn, f_isCornerM, f_isStreet, f_isHouse, f_isCrew, f_isRow, f_has10, f_has0, jx_I, jx_N, jx_m1, jr_I, jr_N1, jr_N2, wr_2, isB_0, isB_1, true_and, and_true, and_self, false_and, and_false, true_or, or_true, false_or, or_false, not_true_eq_false, not_false_eq_true, forall_const, implies_true, false_implies, ne_eq, eq_self, if_true, if_false, Nat.zero_add, Nat.add_zero, Nat.mul_zero, Nat.zero_mul, Nat.mul_one, Nat.one_mul, Nat.add_sub_cancel, Nat.reduceEqDiff, Nat.reduceAdd, Nat.reduceMul, Nat.reduceSub, Nat.reduceLeDiff, Nat.reduceLT, Nat.reduceDiv, Nat.reduceMod, v0, v1, v2, v3, v3', v4, v5, v6, v7, v9, v10, v11, v11']
    · simp (disch := first | assumption | omega) only [prv_n, nxt_n, q_sw, mc4, mc6, mc8, mc20, mc24, mc100, nv_rd, nb_rd, wr_rd, nI_lit, nI_add, pk_mul, pk_sub, q_div, cl_nI, vpi, q_eq, q_le, q_lt, n1_eq, n1_eq', n1_le, n1_lt, n1_ge, n1_gt, i_0m1, nlt_t, nlt_f, nle_t, nle_f, neq_f, f_below, f_within, f_isCorner, f_isIn, f_isCornerM, f_isStreet, f_isHouse, f_isCrew, f_isRow, f_has10, f_has0, jx_I, jx_N, jx_m1, jr_I, jr_N1, jr_N2, wr_2, isB_0, isB_1, true_and, and_true, and_self, false_and, and_false, true_or, or_true, false_or, or_false, not_true_eq_false, not_false_eq_true, forall_const, implies_true, false_implies, ne_eq, eq_self, if_true, if_false, Nat.zero_add, Nat.add_zero, Nat.mul_zero, Nat.zero_mul, Nat.mul_one, Nat.one_mul, Nat.add_sub_cancel, Nat.reduceEqDiff, Nat.reduceAdd, Nat.reduceMul, Nat.reduceSub, Nat.reduceLeDiff, Nat.reduceLT, Nat.reduceDiv, Nat.reduceMod, g0, g1, g2]
      exact ⟨g0, g1, g2⟩
    · simp (disch := first | assumption | omega) only [prv_n, nxt_n, q_sw, mc4, mc6, mc8, mc20, mc24, mc100, nv_rd, nb_rd, wr_rd, nI_lit, nI_add, pk_mul, pk_sub, q_div, cl_nI, vpi, q_eq, q_le, q_lt, n1_eq, n1_eq', n1_le, n1_lt, n1_ge, n1_gt, i_0m1, nlt_t, nlt_f, nle_t, nle_f, neq_f, f_below, f_within, f_isCorner, f_isIn, f_isCornerM, f_isStreet, f_isHouse, f_isCrew, f_isRow, f_has10, f_has0, jx_I, jx_N, jx_m1, jr_I, jr_N1, jr_N2, wr_2, isB_0, isB_1, true_and, and_true, and_self, false_and, and_false, true_or, or_true, false_or, or_false, not_true_eq_false, not_false_eq_true, forall_const, implies_true, false_implies, ne_eq, eq_self, if_true, if_false, Nat.zero_add, Nat.add_zero, Nat.mul_zero, Nat.zero_mul, Nat.mul_one, Nat.one_mul, Nat.add_sub_cancel, Nat.reduceEqDiff, Nat.reduceAdd, Nat.reduceMul, Nat.reduceSub, Nat.reduceLeDiff, Nat.reduceLT, Nat.reduceDiv, Nat.reduceMod, n0, n1]
theorem i_moves {x : ab_X} {j c t : Nat} (h : InvA x) (hj : j < nv x.1 246 58) (hc : c < 20) (h0 : nv x.1 286 j = 0) {z : ab_X} (e : z = wr (wr (wr (wr (wr (wr (wr (wr x (82 + j) 12 (-nI 1)) (82 + j) 13 (-nI 1)) (82 + j) 8 (nI 3)) (82 + j) 9 (nI c)) (82 + j) 10 (nI t)) 286 j (nI 3)) 287 j (nI c)) 288 j (nI t)) : InvA z := by
  subst e
  have bn := h.2.b58
  obtain ⟨r0, r1, r2, r3, r4, r5, r6, r7, r8, r9, r10, r11, r12, r13, r14, r15, r16⟩ := h.1.cr.1 j hj; obtain ⟨v0, v1, v2, v3, v3', v4, v5, v6, v7, v8, v9, v10, v11, v11'⟩ := h.2.cr.1 j hj; obtain ⟨g0, g1, g2⟩ := h.2.cr.2.1 j hj; obtain ⟨t0, t1, t2, t3⟩ := h.2.cr.2.2.1 j hj; have u0 := v0.2; have u1 := v1.2; have u8 := v8.2; have u9 := v9.2
  obtain ⟨n0, n1⟩ := t2 (by omega)
  refine InvA_chg h (L := [(82, 97), (286, 286), (287, 287), (288, 288)]) (S := [0]) (C := []) ?chg (Or.inl rfl) (Or.inl rfl) (Or.inl rfl) (Or.inl rfl) (Or.inl rfl) (Or.inr ?cr) (Or.inl rfl) (Or.inl rfl) (Or.inl rfl) (Or.inl rfl) (Or.inl ⟨rfl, rfl⟩) (Or.inl rfl) (Or.inl rfl) (Or.inl rfl) (Or.inl rfl) (Or.inl rfl) (Or.inl rfl) (Or.inr ?wcr) (Or.inl rfl) (Or.inl rfl) (Or.inl rfl)
  case chg =>
    refine ⟨fun c p q r => ?_, fun f p => ?_, fun c f p q => ?_⟩
    · have r0 : c < 82 ∨ 97 < c := r (82, 97) (by simp); have r1 : c < 286 ∨ 286 < c := r (286, 286) (by simp); have r2 : c < 287 ∨ 287 < c := r (287, 287) (by simp); have r3 : c < 288 ∨ 288 < c := r (288, 288) (by simp); unfold scC at q; simp (disch := omega) only [wr_n]
    · have s0 : f ≠ 0 := fun e => p (by rw [e]; simp); simp (disch := omega) only [wr_ne]
    · unfold scC at p; simp (disch := omega) only [wr_ne]
  case cr => exact Rcr_pt h.1.cr (by simp (disch := omega) only [wr_ne]) h.2.b58 (fun c f p e => (by simp (disch := omega) only [wr_ne])) (fun d k p q e => (by simp (disch := omega) only [wr_ne])) hj (by simp (disch := first | assumption | omega) only [prv_n, nxt_n, q_sw, mc4, mc6, mc8, mc20, mc24, mc100, nv_rd, nb_rd, wr_rd, nI_lit, nI_add, pk_mul, pk_sub, q_div, cl_nI, vpi, q_eq, q_le, q_lt, n1_eq, n1_eq', n1_le, n1_lt, n1_ge, n1_gt, i_0m1, nlt_t, nlt_f, nle_t, nle_f, neq_f, f_below, f_within, f_isCorner, f_isIn, f_isCornerM, f_isStreet, f_isHouse, f_isCrew, f_isRow, f_has10, f_has0, jx_I, jx_N, jx_m1, jr_I, jr_N1, jr_N2, wr_2, isB_0, isB_1, true_and, and_true, and_self, false_and, and_false, true_or, or_true, false_or, or_false, not_true_eq_false, not_false_eq_true, forall_const, implies_true, false_implies, ne_eq, eq_self, if_true, if_false, Nat.zero_add, Nat.add_zero, Nat.mul_zero, Nat.zero_mul, Nat.mul_one, Nat.one_mul, Nat.add_sub_cancel, Nat.reduceEqDiff, Nat.reduceAdd, Nat.reduceMul, Nat.reduceSub, Nat.reduceLeDiff, Nat.reduceLT, Nat.reduceDiv, Nat.reduceMod, r0, r1, r2, r3, r4, r5, r6, r7, r8, r9, r10, r11, r12, r13, r14, r15, r16, n0, n1])
  case wcr =>
    refine Wcr_pt h.2.cr (by simp (disch := omega) only [wr_ne]) (by simp (disch := omega) only [wr_ne]) (by simp (disch := omega) only [wr_ne]) (by simp (disch := omega) only [wr_ne]) (by simp (disch := omega) only [wr_n]) (fun d k p q e => (by simp (disch := omega) only [wr_ne])) hj ?_ ?_ ?_
    · simp (disch := first | assumption | omega) only [prv_n, nxt_n, q_sw, mc4, mc6, mc8, mc20, mc24, mc100, nv_rd, nb_rd, wr_rd, nI_lit, nI_add, pk_mul, pk_sub, q_div, cl_nI, vpi, q_eq, q_le, q_lt, n1_eq, n1_eq', n1_le, n1_lt, n1_ge, n1_gt, i_0m1, nlt_t, nlt_f, nle_t, nle_f, neq_f, f_below, f_within, f_isCorner, f_isIn, f_isCornerM, f_isStreet, f_isHouse, f_isCrew, f_isRow, f_has10, f_has0, jx_I, jx_N, jx_m1, jr_I, jr_N1, jr_N2, wr_2, isB_0, isB_1, true_and, and_true, and_self, false_and, and_false, true_or, or_true, false_or, or_false, not_true_eq_false, not_false_eq_true, forall_const, implies_true, false_implies, ne_eq, eq_self, if_true, if_false, Nat.zero_add, Nat.add_zero, Nat.mul_zero, Nat.zero_mul, Nat.mul_one, Nat.one_mul, Nat.add_sub_cancel, Nat.reduceEqDiff, Nat.reduceAdd, Nat.reduceMul, Nat.reduceSub, Nat.reduceLeDiff, Nat.reduceLT, Nat.reduceDiv, Nat.reduceMod, v0, v1, v2, v3, v3', v4, v5, v6, v7, v9, v10, v11, v11']
    · simp (disch := first | assumption | omega) only [prv_n, nxt_n, q_sw, mc4, mc6, mc8, mc20, mc24, mc100, nv_rd, nb_rd, wr_rd, nI_lit, nI_add, pk_mul, pk_sub, q_div, cl_nI, vpi, q_eq, q_le, q_lt, n1_eq, n1_eq', n1_le, n1_lt, n1_ge, n1_gt, i_0m1, nlt_t, nlt_f, nle_t, nle_f, neq_f, f_below, f_within, f_isCorner, f_isIn, f_isCornerM, f_isStreet, f_isHouse, f_isCrew, f_isRow, f_has10, f_has0, jx_I, jx_N, jx_m1, jr_I, jr_N1, jr_N2, wr_2, isB_0, isB_1, true_and, and_true, and_self, false_and, and_false, true_or, or_true, false_or, or_false, not_true_eq_false, not_false_eq_true, forall_const, implies_true, false_implies, ne_eq, eq_self, if_true, if_false, Nat.zero_add, Nat.add_zero, Nat.mul_zero, Nat.zero_mul, Nat.mul_one, Nat.one_mul, Nat.add_sub_cancel, Nat.reduceEqDiff, Nat.reduceAdd, Nat.reduceMul, Nat.reduceSub, Nat.reduceLeDiff, Nat.reduceLT, Nat.reduceDiv, Nat.reduceMod, g0, g1, g2]
      exact ⟨g0, g1, g2⟩
    · simp (disch := first | assumption | omega) only [prv_n, nxt_n, q_sw, mc4, mc6, mc8, mc20, mc24, mc100, nv_rd, nb_rd, wr_rd, nI_lit, nI_add, pk_mul, pk_sub, q_div, cl_nI, vpi, q_eq, q_le, q_lt, n1_eq, n1_eq', n1_le, n1_lt, n1_ge, n1_gt, i_0m1, nlt_t, nlt_f, nle_t, nle_f, neq_f, f_below, f_within, f_isCorner, f_isIn, f_isCornerM, f_isStreet, f_isHouse, f_isCrew, f_isRow, f_has10, f_has0, jx_I, jx_N, jx_m1, jr_I, jr_N1, jr_N2, wr_2, isB_0, isB_1, true_and, and_true, and_self, false_and, and_false, true_or, or_true, false_or, or_false, not_true_eq_false, not_false_eq_true, forall_const, implies_true, false_implies, ne_eq, eq_self, if_true, if_false, Nat.zero_add, Nat.add_zero, Nat.mul_zero, Nat.zero_mul, Nat.mul_one, Nat.one_mul, Nat.add_sub_cancel, Nat.reduceEqDiff, Nat.reduceAdd, Nat.reduceMul, Nat.reduceSub, Nat.reduceLeDiff, Nat.reduceLT, Nat.reduceDiv, Nat.reduceMod, n0, n1]
