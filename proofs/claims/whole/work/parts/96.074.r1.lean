/-! A MINUTE, 1: now; crews arrive. -/
def nwS (s : ab_X) : ab_X := wr s 246 1 (nI (nv s.1 246 1 + 1))
theorem i_now {x : ab_X} (h : InvA x) (hn : nv x.1 246 1 < 20000) {z : ab_X} (e : z = wr (wr x 66 12 (nI (nv x.1 246 1 + 1))) 246 1 (nI (nv x.1 246 1 + 1))) : InvA z := by
  have s1 : z.1 246 1 = nI (nv x.1 246 1 + 1) := by rw [e, wr_e]
  have c12 : z.1 66 12 = nI (nv x.1 246 1 + 1) := by rw [e, wr_n (by decide), wr_e]
  have hD : z.2.1 329 = x.2.1 329 := by rw [e]; rfl
  have sc : ∀ f, f ≠ 1 → z.1 246 f = x.1 246 f := fun f p => by rw [e]; simp (disch := omega) only [wr_ne]
  have cs : ∀ i f, scC i → (i ≠ 66 ∨ f ≠ 12) → z.1 i f = x.1 i f := fun i f p q => by unfold scC at p; rw [e]; simp (disch := omega) only [wr_ne]
  have mo : ∀ d, d ≠ 246 → d ≠ 66 → z.1 d = x.1 d := fun d p q => by rw [e]; simp (disch := omega) only [wr_n]
  clear e
  have scn : ∀ f, f ≠ 1 → nv z.1 246 f = nv x.1 246 f := fun f p => by unfold nv; rw [sc f p]
  have en : nv z.1 246 1 = nv x.1 246 1 + 1 := nv_of s1 (by omega)
  have fn : ∀ i k, i ≠ 246 → i ≠ 66 → nv z.1 i k = nv x.1 i k := fun i k p q => by unfold nv; rw [mo i p q]
  have fb : ∀ i k b, i ≠ 246 → i ≠ 66 → nbd x.1 i k b → nbd z.1 i k b := fun i k b p q u => by unfold nbd at u ⊢; rw [fn i k p q, mo i p q]; exact u
  refine InvA_chg h (L := []) (S := [1]) (C := [(66, 12)]) ⟨fun d p q r => mo d p (fun e => q (by rw [e]; unfold scC; omega)), fun f p => sc f (by simpa using p), fun c f p q => cs c f p (by simp at q; omega)⟩ (Or.inr ?sc) (Or.inl rfl) (Or.inl rfl) (Or.inl rfl) (Or.inl rfl) (Or.inl rfl) (Or.inl rfl) (Or.inl rfl) (Or.inl rfl) (Or.inl rfl) (Or.inl ⟨rfl, hD⟩) (Or.inr ?wsc) (Or.inl rfl) (Or.inl rfl) (Or.inl rfl) (Or.inl rfl) (Or.inl rfl) (Or.inr ?wcr) (Or.inr ?wca) (Or.inr ?wev) (Or.inl rfl)
  case sc =>
    unfold Rsc
    rw [s1, c12, cs 1 7 (by unfold scC; omega) (by omega), cs 9 2 (by unfold scC; omega) (by omega), cs 9 6 (by unfold scC; omega) (by omega), cs 9 9 (by unfold scC; omega) (by omega), cs 66 3 (by unfold scC; omega) (by omega), cs 66 5 (by unfold scC; omega) (by omega), cs 66 7 (by unfold scC; omega) (by omega), cs 158 1 (by unfold scC; omega) (by omega), cs 165 4 (by unfold scC; omega) (by omega), cs 165 9 (by unfold scC; omega) (by omega), cs 0 9 (by unfold scC; omega) (by omega)]
    rw [sc 9 (by decide), sc 31 (by decide), sc 56 (by decide), sc 57 (by decide), sc 58 (by decide), sc 92 (by decide), sc 71 (by decide), sc 70 (by decide), sc 72 (by decide), sc 99 (by decide), sc 116 (by decide)]
    exact ⟨h.1.s9, h.1.s31, h.1.s56, h.1.s57, h.1.s58, h.1.s92, h.1.s71, rfl, h.1.s70, h.1.s72, h.1.s99, h.1.s116⟩
  case wsc =>
    have keep : ∀ f b, f ≠ 1 → nbd x.1 246 f b → nbd z.1 246 f b := fun f b p u => by unfold nbd nv at u ⊢; rw [sc f p]; exact u
    obtain ⟨w1, w2, w3, w4, w5, w6, w7, w8, w9, w10, w11, w12⟩ := h.2.sc
    exact ⟨keep _ _ (by decide) w1, keep _ _ (by decide) w2, keep _ _ (by decide) w3, keep _ _ (by decide) w4, keep _ _ (by decide) w5, keep _ _ (by decide) w6, keep _ _ (by decide) w7, nb_of s1 (by omega) (by decide), keep _ _ (by decide) w9, keep _ _ (by decide) w10, keep _ _ (by decide) w11, keep _ _ (by decide) w12⟩
  case wcr =>
    obtain ⟨r1, r2, r3, r4⟩ := h.2.cr
    have n58 := scn 58 (by decide)
    refine ⟨fun i p => ?_, fun i p => ?_, fun i p => ?_, fun i p q => ?_⟩
    · rw [n58] at p
      obtain ⟨a1, a2, a3, a4, a5, a6, a7, a8, a9, a10, a11, a12, a13, a14⟩ := r1 i p
      refine ⟨fb _ _ _ (by decide) (by decide) a1, fb _ _ _ (by decide) (by decide) a2, by rw [mo 298 (by decide) (by decide)]; exact a3, fb _ _ _ (by decide) (by decide) a4, by rw [fn _ _ (by decide) (by decide)]; exact a5, fb _ _ _ (by decide) (by decide) a6, fb _ _ _ (by decide) (by decide) a7, fb _ _ _ (by decide) (by decide) a8, fb _ _ _ (by decide) (by decide) a9, fb _ _ _ (by decide) (by decide) a10, fb _ _ _ (by decide) (by decide) a11, fb _ _ _ (by decide) (by decide) a12, fb _ _ _ (by decide) (by decide) a13, ?_⟩
      rw [fn _ _ (by decide) (by decide), en]; omega
    · rw [n58] at p
      rw [fn 279 i (by decide) (by decide), fn 283 i (by decide) (by decide), fn 284 i (by decide) (by decide), fn 285 i (by decide) (by decide)]
      exact r2 i p
    · rw [n58] at p
      obtain ⟨a1, a2, a3, a4⟩ := r3 i p
      rw [fn 286 i (by decide) (by decide), mo 288 (by decide) (by decide), mo 290 (by decide) (by decide), mo 291 (by decide) (by decide), mo 287 (by decide) (by decide), mo 254 (by decide) (by decide), fn 289 i (by decide) (by decide), fn 290 i (by decide) (by decide), scn 92 (by decide), scn 31 (by decide)]
      exact ⟨fun q => ⟨fb _ _ _ (by decide) (by decide) (a1 q).1, (a1 q).2⟩, fun q => ⟨fb _ _ _ (by decide) (by decide) (a2 q).1, (a2 q).2⟩, a3, a4⟩
    · rw [n58] at p
      rw [mo 286 (by decide) (by decide), mo 292 (by decide) (by decide), mo 293 (by decide) (by decide), mo 295 (by decide) (by decide)]
      exact r4 i p q
  case wca =>
    obtain ⟨r1, r2, r3⟩ := h.2.ca
    have n92 := scn 92 (by decide)
    refine ⟨fun i p => ?_, fun i p q => ?_, fun a b p q s1 s2 => ?_⟩
    · rw [n92] at p
      obtain ⟨a1, a2, a3, a4, a5, a6⟩ := r1 i p
      refine ⟨fb _ _ _ (by decide) (by decide) a1, fb _ _ _ (by decide) (by decide) a2, fb _ _ _ (by decide) (by decide) a3, fb _ _ _ (by decide) (by decide) a4, ?_, by rw [mo 318 (by decide) (by decide)]; exact a6⟩
      rw [fn _ _ (by decide) (by decide), en]; omega
    · rw [n92] at p
      rw [mo 312 (by decide) (by decide), mo 315 (by decide) (by decide), mo 316 (by decide) (by decide), mo 317 (by decide) (by decide), mo 318 (by decide) (by decide)]
      exact r2 i p q
    · rw [n92] at q
      rw [mo 312 (by decide) (by decide)] at s1 s2
      rw [mo 310 (by decide) (by decide)]
      exact r3 a b p q s1 s2
  case wev =>
    obtain ⟨r1, r2⟩ := h.2.ev
    refine ⟨fun i p => ?_, fun i p => ?_⟩
    · rw [scn 99 (by decide)] at p
      obtain ⟨a1, a2, a3, a4, a5, a6, a7⟩ := r1 i p
      refine ⟨fb _ _ _ (by decide) (by decide) a1, by rw [fn _ _ (by decide) (by decide), scn 31 (by decide)]; exact a2, ?_, fb _ _ _ (by decide) (by decide) a4, fb _ _ _ (by decide) (by decide) a5, by rw [fn _ _ (by decide) (by decide), fn _ _ (by decide) (by decide)]; exact a6, ?_⟩
      · rcases a3 with a3 | a3
        · exact Or.inl (by rw [mo 321 (by decide) (by decide)]; exact a3)
        · exact Or.inr (fb _ _ _ (by decide) (by decide) a3)
      · rw [fn _ _ (by decide) (by decide), en]; omega
    · rw [scn 72 (by decide)] at p
      obtain ⟨a1, a2, a3, a4⟩ := r2 i p
      refine ⟨fb _ _ _ (by decide) (by decide) a1, by rw [fn _ _ (by decide) (by decide)]; exact a2, fb _ _ _ (by decide) (by decide) a3, ?_⟩
      rw [fn _ _ (by decide) (by decide), en]; omega
/-- a call is closed -/
def clS (s : ab_X) (k : Nat) (v : Int32) : ab_X := wr (wr s 312 k v) 314 k (nI (nv s.1 246 1))
theorem i_close {x : ab_X} {k v : Nat} (h : InvA x) (hk : k < nv x.1 246 92) (hv : v = 1 ∨ v = 2) {z : ab_X} {t : Int32} (e : z = wr (wr (wr (wr x (98 + k) 2 (nI v)) (98 + k) 4 t) 312 k (nI v)) 314 k t) : InvA z := by
  subst e
  have b92 := h.2.b92
  obtain ⟨c0, c1, c2, c3, c4, c5, c6, c7, c8⟩ := h.1.ca.1 k hk
  obtain ⟨a1, a2, a3, a4, a5, a6⟩ := h.2.ca.1 k hk
  refine i_callP (k := k) h hk ⟨fun c p q r => ?_, fun f' p => ?_, fun c f' p q => ?_⟩ rfl (fun i f' p q => ?_) (fun d i p q r => ?_) ?_ ?_ ?_ ?_ (fun u => ?_)
  · have r0 : c < 98 ∨ 157 < c := r (98, 157) (by simp)
    have r1 : c < 310 ∨ 318 < c := r (310, 318) (by simp)
    simp (disch := omega) only [wr_n]
  · simp (disch := omega) only [wr_n]
  · unfold scC at p; simp (disch := omega) only [wr_n]
  · simp (disch := omega) only [wr_n]
  · simp (disch := omega) only [wr_ne]
  · simp (disch := first | assumption | omega) only [prv_n, nxt_n, q_sw, mc4, mc6, mc8, mc20, mc24, mc100, nv_rd, nb_rd, wr_rd, nI_lit, nI_add, pk_mul, pk_sub, q_div, cl_nI, vpi, q_eq, q_le, q_lt, n1_eq, n1_eq', n1_le, n1_lt, n1_ge, n1_gt, i_0m1, nlt_t, nlt_f, nle_t, nle_f, neq_f, f_below, f_within, f_isCorner, f_isIn, f_isCornerM, f_isStreet, f_isHouse, f_isCrew, f_isRow, f_has10, f_has0, jx_I, jx_N, jx_m1, jr_I, jr_N1, jr_N2, wr_2, isB_0, isB_1, true_and, and_true, and_self, false_and, and_false, true_or, or_true, false_or, or_false, not_true_eq_false, not_false_eq_true, forall_const, implies_true, false_implies, ne_eq, eq_self, if_true, if_false, Nat.zero_add, Nat.add_zero, Nat.mul_zero, Nat.zero_mul, Nat.mul_one, Nat.one_mul, Nat.add_sub_cancel, Nat.reduceEqDiff, Nat.reduceAdd, Nat.reduceMul, Nat.reduceSub, Nat.reduceLeDiff, Nat.reduceLT, Nat.reduceDiv, Nat.reduceMod, c0, c1, c2, c3, c4, c5, c6, c7, c8]
  · rcases hv with rfl | rfl <;> simp (disch := first | assumption | omega) only [prv_n, nxt_n, q_sw, mc4, mc6, mc8, mc20, mc24, mc100, nv_rd, nb_rd, wr_rd, nI_lit, nI_add, pk_mul, pk_sub, q_div, cl_nI, vpi, q_eq, q_le, q_lt, n1_eq, n1_eq', n1_le, n1_lt, n1_ge, n1_gt, i_0m1, nlt_t, nlt_f, nle_t, nle_f, neq_f, f_below, f_within, f_isCorner, f_isIn, f_isCornerM, f_isStreet, f_isHouse, f_isCrew, f_isRow, f_has10, f_has0, jx_I, jx_N, jx_m1, jr_I, jr_N1, jr_N2, wr_2, isB_0, isB_1, true_and, and_true, and_self, false_and, and_false, true_or, or_true, false_or, or_false, not_true_eq_false, not_false_eq_true, forall_const, implies_true, false_implies, ne_eq, eq_self, if_true, if_false, Nat.zero_add, Nat.add_zero, Nat.mul_zero, Nat.zero_mul, Nat.mul_one, Nat.one_mul, Nat.add_sub_cancel, Nat.reduceEqDiff, Nat.reduceAdd, Nat.reduceMul, Nat.reduceSub, Nat.reduceLeDiff, Nat.reduceLT, Nat.reduceDiv, Nat.reduceMod, a2, a3, a6]
  · simp (disch := omega) only [wr_ne]
  · simp (disch := omega) only [wr_ne]
  · exfalso
    have e1 : (wr (wr (wr (wr x (98 + k) 2 (nI v)) (98 + k) 4 t) 312 k (nI v)) 314 k t).1 312 k = nI v := by rw [wr_n (by decide), wr_e]
    rw [e1] at u
    rcases hv with rfl | rfl
    · exact absurd u (by decide)
    · exact absurd u (by decide)
theorem i_work {x : ab_X} {j hh : Nat} (h : InvA x) (hj : j < nv x.1 246 58) (h1 : nv x.1 286 j = 1) (hh1 : hh < nv x.1 246 31) (hc : x.1 254 hh = x.1 287 j) {z : ab_X} (e : z = wr (wr (wr (wr (wr (wr (wr (wr x (82 + j) 8 (nI 2)) (82 + j) 10 (-nI 1)) (82 + j) 12 (nI hh)) (82 + j) 14 (nI (nv x.1 246 1))) 286 j (nI 2)) 288 j (-nI 1)) 290 j (nI hh)) 293 j (nI (nv x.1 246 1))) : InvA z := by
  subst e
  have bn := h.2.b58
  have b31 := h.2.b31
  have b1 := h.2.b1
  obtain ⟨r0, r1, r2, r3, r4, r5, r6, r7, r8, r9, r10, r11, r12, r13, r14, r15, r16⟩ := h.1.cr.1 j hj; obtain ⟨v0, v1, v2, v3, v3', v4, v5, v6, v7, v8, v9, v10, v11, v11'⟩ := h.2.cr.1 j hj; obtain ⟨g0, g1, g2⟩ := h.2.cr.2.1 j hj; obtain ⟨t0, t1, t2, t3⟩ := h.2.cr.2.2.1 j hj; have u0 := v0.2; have u1 := v1.2; have u8 := v8.2; have u9 := v9.2
  obtain ⟨n0, n1⟩ := t2 (by omega)
  refine InvA_chg h (L := [(82, 97), (286, 286), (288, 288), (290, 290), (293, 293)]) (S := [0]) (C := []) ?chg (Or.inl rfl) (Or.inl rfl) (Or.inl rfl) (Or.inl rfl) (Or.inl rfl) (Or.inr ?cr) (Or.inl rfl) (Or.inl rfl) (Or.inl rfl) (Or.inl rfl) (Or.inl ⟨rfl, rfl⟩) (Or.inl rfl) (Or.inl rfl) (Or.inl rfl) (Or.inl rfl) (Or.inl rfl) (Or.inl rfl) (Or.inr ?wcr) (Or.inl rfl) (Or.inl rfl) (Or.inl rfl)
  case chg =>
    refine ⟨fun c p q r => ?_, fun f p => ?_, fun c f p q => ?_⟩
    · have r0 : c < 82 ∨ 97 < c := r (82, 97) (by simp); have r1 : c < 286 ∨ 286 < c := r (286, 286) (by simp); have r2 : c < 288 ∨ 288 < c := r (288, 288) (by simp); have r3 : c < 290 ∨ 290 < c := r (290, 290) (by simp); have r4 : c < 293 ∨ 293 < c := r (293, 293) (by simp); unfold scC at q; simp (disch := omega) only [wr_n]
    · have s0 : f ≠ 0 := fun e => p (by rw [e]; simp); simp (disch := omega) only [wr_ne]
    · unfold scC at p; simp (disch := omega) only [wr_ne]
  case cr => exact Rcr_pt h.1.cr (by simp (disch := omega) only [wr_ne]) h.2.b58 (fun c f p e => (by simp (disch := omega) only [wr_ne])) (fun d k p q e => (by simp (disch := omega) only [wr_ne])) hj (by simp (disch := first | assumption | omega) only [prv_n, nxt_n, q_sw, mc4, mc6, mc8, mc20, mc24, mc100, nv_rd, nb_rd, wr_rd, nI_lit, nI_add, pk_mul, pk_sub, q_div, cl_nI, vpi, q_eq, q_le, q_lt, n1_eq, n1_eq', n1_le, n1_lt, n1_ge, n1_gt, i_0m1, nlt_t, nlt_f, nle_t, nle_f, neq_f, f_below, f_within, f_isCorner, f_isIn, f_isCornerM, f_isStreet, f_isHouse, f_isCrew, f_isRow, f_has10, f_has0, jx_I, jx_N, jx_m1, jr_I, jr_N1, jr_N2, wr_2, isB_0, isB_1, true_and, and_true, and_self, false_and, and_false, true_or, or_true, false_or, or_false, not_true_eq_false, not_false_eq_true, forall_const, implies_true, false_implies, ne_eq, eq_self, if_true, if_false, Nat.zero_add, Nat.add_zero, Nat.mul_zero, Nat.zero_mul, Nat.mul_one, Nat.one_mul, Nat.add_sub_cancel, Nat.reduceEqDiff, Nat.reduceAdd, Nat.reduceMul, Nat.reduceSub, Nat.reduceLeDiff, Nat.reduceLT, Nat.reduceDiv, Nat.reduceMod, r0, r1, r2, r3, r4, r5, r6, r7, r8, r9, r10, r11, r12, r13, r14, r15, r16, n0, n1])
  case wcr =>
    refine Wcr_pt h.2.cr (by simp (disch := omega) only [wr_ne]) (by simp (disch := omega) only [wr_ne]) (by simp (disch := omega) only [wr_ne]) (by simp (disch := omega) only [wr_ne]) (by simp (disch := omega) only [wr_n]) (fun d k p q e => (by simp (disch := omega) only [wr_ne])) hj ?_ ?_ ?_
    · simp (disch := first | assumption | omega) only [prv_n, nxt_n, q_sw, mc4, mc6, mc8, mc20, mc24, mc100, nv_rd, nb_rd, wr_rd, nI_lit, nI_add, pk_mul, pk_sub, q_div, cl_nI, vpi, q_eq, q_le, q_lt, n1_eq, n1_eq', n1_le, n1_lt, n1_ge, n1_gt, i_0m1, nlt_t, nlt_f, nle_t, nle_f, neq_f, f_below, f_within, f_isCorner, f_isIn, f_isCornerM, f_isStreet, f_isHouse, f_isCrew, f_isRow, f_has10, f_has0, jx_I, jx_N, jx_m1, jr_I, jr_N1, jr_N2, wr_2, isB_0, isB_1, true_and, and_true, and_self, false_and, and_false, true_or, or_true, false_or, or_false, not_true_eq_false, not_false_eq_true, forall_const, implies_true, false_implies, ne_eq, eq_self, if_true, if_false, Nat.zero_add, Nat.add_zero, Nat.mul_zero, Nat.zero_mul, Nat.mul_one, Nat.one_mul, Nat.add_sub_cancel, Nat.reduceEqDiff, Nat.reduceAdd, Nat.reduceMul, Nat.reduceSub, Nat.reduceLeDiff, Nat.reduceLT, Nat.reduceDiv, Nat.reduceMod, v0, v1, v2, v3, v3', v4, v5, v6, v7, v9, v10, v11, v11']
    · simp (disch := first | assumption | omega) only [prv_n, nxt_n, q_sw, mc4, mc6, mc8, mc20, mc24, mc100, nv_rd, nb_rd, wr_rd, nI_lit, nI_add, pk_mul, pk_sub, q_div, cl_nI, vpi, q_eq, q_le, q_lt, n1_eq, n1_eq', n1_le, n1_lt, n1_ge, n1_gt, i_0m1, nlt_t, nlt_f, nle_t, nle_f, neq_f, f_below, f_within, f_isCorner, f_isIn, f_isCornerM, f_isStreet, f_isHouse, f_isCrew, f_isRow, f_has10, f_has0, jx_I, jx_N, jx_m1, jr_I, jr_N1, jr_N2, wr_2, isB_0, isB_1, true_and, and_true, and_self, false_and, and_false, true_or, or_true, false_or, or_false, not_true_eq_false, not_false_eq_true, forall_const, implies_true, false_implies, ne_eq, eq_self, if_true, if_false, Nat.zero_add, Nat.add_zero, Nat.mul_zero, Nat.zero_mul, Nat.mul_one, Nat.one_mul, Nat.add_sub_cancel, Nat.reduceEqDiff, Nat.reduceAdd, Nat.reduceMul, Nat.reduceSub, Nat.reduceLeDiff, Nat.reduceLT, Nat.reduceDiv, Nat.reduceMod, g0, g1, g2]
      exact ⟨g0, g1, g2⟩
    · simp (disch := first | assumption | omega) only [prv_n, nxt_n, q_sw, mc4, mc6, mc8, mc20, mc24, mc100, nv_rd, nb_rd, wr_rd, nI_lit, nI_add, pk_mul, pk_sub, q_div, cl_nI, vpi, q_eq, q_le, q_lt, n1_eq, n1_eq', n1_le, n1_lt, n1_ge, n1_gt, i_0m1, nlt_t, nlt_f, nle_t, nle_f, neq_f, f_below, f_within, f_isCorner, f_isIn, f_isCornerM, f_isStreet, f_isHouse, f_isCrew, f_isRow, f_has10, f_has0, jx_I, jx_N, jx_m1, jr_I, jr_N1, jr_N2, wr_2, isB_0, isB_1, true_and, and_true, and_self, false_and, and_false, true_or, or_true, false_or, or_false, not_true_eq_false, not_false_eq_true, forall_const, implies_true, false_implies, ne_eq, eq_self, if_true, if_false, Nat.zero_add, Nat.add_zero, Nat.mul_zero, Nat.zero_mul, Nat.mul_one, Nat.one_mul, Nat.add_sub_cancel, Nat.reduceEqDiff, Nat.reduceAdd, Nat.reduceMul, Nat.reduceSub, Nat.reduceLeDiff, Nat.reduceLT, Nat.reduceDiv, Nat.reduceMod, n0, n1, hc]
