/-! THE FIRE: a floor falls. -/
def dT (old F : Nat → Int32) (U wd q k : Nat) : Int32 := if U + wd ≤ k ∧ k < U + wd + q then nI 0 else if U ≤ k ∧ k < U + q then F k else old k
theorem dT_0 (old F : Nat → Int32) (U wd k : Nat) : dT old F U wd 0 k = old k := by unfold dT; rw [if_neg (by omega), if_neg (by omega)]
theorem dT_u {old F : Nat → Int32} {U wd q : Nat} (h : q < wd) : dT old F U wd q (U + q) = old (U + q) := by unfold dT; rw [if_neg (by omega), if_neg (by omega)]
theorem dT_b {old F : Nat → Int32} {U wd q : Nat} (h : q < wd) : dT old F U wd q (U + wd + q) = old (U + wd + q) := by unfold dT; rw [if_neg (by omega), if_neg (by omega)]
theorem dT_n {old F : Nat → Int32} {U wd q k : Nat} (h : q < wd) : dT old F U wd (q + 1) k = if k = U + wd + q then nI 0 else if k = U + q then F k else dT old F U wd q k := by
  unfold dT
  by_cases e1 : k = U + wd + q
  · rw [if_pos e1, if_pos (by omega)]
  · rw [if_neg e1]
    by_cases e2 : k = U + q
    · rw [if_pos e2, if_neg (by omega), if_pos (by omega)]
    · rw [if_neg e2]
      by_cases c1 : U + wd ≤ k ∧ k < U + wd + q
      · rw [if_pos c1, if_pos (by omega)]
      · rw [if_neg c1, if_neg (by omega)]
        by_cases c2 : U ≤ k ∧ k < U + q
        · rw [if_pos c2, if_pos (by omega)]
        · rw [if_neg c2, if_neg (by omega)]
def fH (Y : Nat → Nat → Int32) (h g : Nat) (k : Nat) : Int32 := if Y 274 (6 * h + g) = nI 0 then imax (Y 266 k) (Y 266 (k + nv Y 257 h)) else Y 266 k
def fS (Y : Nat → Nat → Int32) (h : Nat) (k : Nat) : Int32 := imin (nI 2000) (Y 267 k + Y 267 (k + nv Y 257 h))
/-- the floor g + 1 of the house falls -/
def drS (s : ab_X) (h g : Nat) : ab_X := wr (wrT (wrT s 266 (dT (s.1 266) (fH s.1 h g) (24 * h + g * nv s.1 257 h) (nv s.1 257 h) (nv s.1 257 h))) 267 (dT (s.1 267) (fS s.1 h) (24 * h + g * nv s.1 257 h) (nv s.1 257 h) (nv s.1 257 h))) 274 (6 * h + (g + 1)) (nI 1)
theorem drS_o {s : ab_X} {h g c : Nat} (h1 : c ≠ 266) (h2 : c ≠ 267) (h3 : c ≠ 274) : (drS s h g).1 c = s.1 c := by unfold drS; rw [wr_n h3, wrT_n h2, wrT_n h1]
theorem drS_266 {s : ab_X} {h g : Nat} : (drS s h g).1 266 = dT (s.1 266) (fH s.1 h g) (24 * h + g * nv s.1 257 h) (nv s.1 257 h) (nv s.1 257 h) := by unfold drS; rw [wr_n (by decide), wrT_n (by decide), wrT_e]
theorem drS_267 {s : ab_X} {h g : Nat} : (drS s h g).1 267 = dT (s.1 267) (fS s.1 h) (24 * h + g * nv s.1 257 h) (nv s.1 257 h) (nv s.1 257 h) := by unfold drS; rw [wr_n (by decide), wrT_e]
theorem drS_274 {s : ab_X} {h g j : Nat} : (drS s h g).1 274 j = if j = 6 * h + (g + 1) then nI 1 else s.1 274 j := by
  unfold drS
  by_cases e : j = 6 * h + (g + 1)
  · rw [if_pos e, e, wr_e]
  · rw [if_neg e, wr_k e, wrT_n (by decide), wrT_n (by decide)]
theorem drS_nv {s : ab_X} {h g c k : Nat} (h1 : c ≠ 266) (h2 : c ≠ 267) (h3 : c ≠ 274) : nv (drS s h g).1 c k = nv s.1 c k := by unfold nv; rw [drS_o h1 h2 h3]
theorem drS_tw {s : ab_X} {h g : Nat} (w : TW s.1) (hh : h < nv s.1 246 31) (hg : g + 1 < nv s.1 256 h) : TW (drS s h g).1 := by
  have b := w.b
  have rm := rm_le w hh
  have f6 := (w.2.1.1 h hh).2.2.1.2
  have sm1 : (g + 1) * nv s.1 257 h = g * nv s.1 257 h + nv s.1 257 h := Nat.succ_mul _ _
  have sm2 : (g + 2) * nv s.1 257 h = (g + 1) * nv s.1 257 h + nv s.1 257 h := Nat.succ_mul _ _
  have le2 : (g + 2) * nv s.1 257 h ≤ nv s.1 256 h * nv s.1 257 h := Nat.mul_le_mul_right _ hg
  refine ⟨?_, ?_, fun k hk => ?_, fun k hk => ?_, fun h' r hh' hr u => ?_, fun h' f r hh' hf hr u => ?_⟩
  · have := w.1
    unfold nbd nv at this ⊢
    rw [drS_o (by decide) (by decide) (by decide)]
    exact this
  · exact Who_fr w.2.1 (fun c p q => drS_o (by omega) (by omega) (by omega)) (fun c p q => drS_o (by omega) (by omega) (by omega)) (fun c p q => drS_o (by omega) (by omega) (by omega)) (by rw [drS_o (by decide) (by decide) (by decide)])
  · obtain ⟨w1, w2⟩ := w.2.2.1 k hk
    have u1 := w1.2
    have u2 := w2.2
    constructor
    · unfold nbd nv
      rw [drS_266]
      unfold dT
      by_cases c1 : 24 * h + g * nv s.1 257 h + nv s.1 257 h ≤ k ∧ k < 24 * h + g * nv s.1 257 h + nv s.1 257 h + nv s.1 257 h
      · rw [if_pos c1, cl_nI (by decide)]; exact ⟨rfl, by decide⟩
      · rw [if_neg c1]
        by_cases c2 : 24 * h + g * nv s.1 257 h ≤ k ∧ k < 24 * h + g * nv s.1 257 h + nv s.1 257 h
        · rw [if_pos c2]
          unfold fH
          split
          · have w3 := (w.2.2.1 (k + nv s.1 257 h) (by omega)).1
            have u3 := w3.2
            rw [w1.1, w3.1, imax_I (by omega) (by omega), cl_nI (by omega)]
            exact ⟨rfl, by omega⟩
          · rw [w1.1, cl_nI (by omega)]; exact ⟨rfl, u1⟩
        · rw [if_neg c2, w1.1, cl_nI (by omega)]; exact ⟨rfl, u1⟩
    · unfold nbd nv
      rw [drS_267]
      unfold dT
      by_cases c1 : 24 * h + g * nv s.1 257 h + nv s.1 257 h ≤ k ∧ k < 24 * h + g * nv s.1 257 h + nv s.1 257 h + nv s.1 257 h
      · rw [if_pos c1, cl_nI (by decide)]; exact ⟨rfl, by decide⟩
      · rw [if_neg c1]
        by_cases c2 : 24 * h + g * nv s.1 257 h ≤ k ∧ k < 24 * h + g * nv s.1 257 h + nv s.1 257 h
        · rw [if_pos c2]
          unfold fS
          have w3 := (w.2.2.1 (k + nv s.1 257 h) (by omega)).2
          have u3 := w3.2
          rw [w2.1, w3.1, nI_add, imin_I (by decide) (by omega), cl_nI (by omega)]
          exact ⟨rfl, by omega⟩
        · rw [if_neg c2, w2.1, cl_nI (by omega)]; exact ⟨rfl, u2⟩
  · rw [drS_274]
    split
    · exact Or.inr rfl
    · exact w.2.2.2.1 k hk
  · rw [drS_nv (by decide) (by decide) (by decide), drS_nv (by decide) (by decide) (by decide), drS_nv (by decide) (by decide) (by decide)] at u
    rw [drS_266]
    unfold dT
    have z := w.2.2.2.2.1 h' r hh' hr u
    by_cases e : h' = h
    · subst e
      rw [if_neg (by omega), if_neg (by omega)]; exact z
    · rw [if_neg (by omega), if_neg (by omega)]; exact z
  · rw [drS_nv (by decide) (by decide) (by decide)] at hh' hf hr ⊢
    rw [drS_274] at u
    have f6' := (w.2.1.1 h' hh').2.2.1.2
    have rm' := rm_le w hh'
    have rl := rmlt hf hr
    rw [drS_266]
    unfold dT
    by_cases e : h' = h
    · subst e
      by_cases e1 : f = g + 1
      · subst e1
        rw [if_pos (by omega)]
      · have u' : ¬ s.1 274 (6 * h' + f) = nI 0 := by rw [if_neg (by omega)] at u; exact u
        have z := w.2.2.2.2.2 h' f r hh' hf hr u'
        have k1 : ¬ (24 * h' + g * nv s.1 257 h' + nv s.1 257 h' ≤ 24 * h' + (f * nv s.1 257 h' + r) ∧ 24 * h' + (f * nv s.1 257 h' + r) < 24 * h' + g * nv s.1 257 h' + nv s.1 257 h' + nv s.1 257 h') := by
          by_cases c : f < g + 1
          · have : (f + 1) * nv s.1 257 h' ≤ (g + 1) * nv s.1 257 h' := Nat.mul_le_mul_right _ c
            have sm3 : (f + 1) * nv s.1 257 h' = f * nv s.1 257 h' + nv s.1 257 h' := Nat.succ_mul _ _
            omega
          · have : (g + 2) * nv s.1 257 h' ≤ f * nv s.1 257 h' := Nat.mul_le_mul_right _ (by omega)
            omega
        rw [if_neg k1]
        by_cases e2 : f = g
        · subst e2
          rw [if_pos (by omega)]
          unfold fH
          rw [if_neg u']; exact z
        · have k2 : ¬ (24 * h' + g * nv s.1 257 h' ≤ 24 * h' + (f * nv s.1 257 h' + r) ∧ 24 * h' + (f * nv s.1 257 h' + r) < 24 * h' + g * nv s.1 257 h' + nv s.1 257 h') := by
            by_cases c : f < g
            · have : (f + 1) * nv s.1 257 h' ≤ g * nv s.1 257 h' := Nat.mul_le_mul_right _ c
              have sm3 : (f + 1) * nv s.1 257 h' = f * nv s.1 257 h' + nv s.1 257 h' := Nat.succ_mul _ _
              omega
            · have : (g + 1) * nv s.1 257 h' ≤ f * nv s.1 257 h' := Nat.mul_le_mul_right _ (by omega)
              omega
          rw [if_neg k2]; exact z
    · have u' : ¬ s.1 274 (6 * h' + f) = nI 0 := by rw [if_neg (by omega)] at u; exact u
      rw [if_neg (by omega), if_neg (by omega)]
      exact w.2.2.2.2.2 h' f r hh' hf hr u'
/-- the program -/
theorem c_drop {x s : ab_X} {v h g : Nat} (hv : v = 11 ∨ v = 19) (t : TR v x.1 s.1) (w : TW s.1) (hh : h < nv s.1 246 31) (hg : g + 1 < nv s.1 256 h) {K : ab_X → Prop} (k : ∀ z : ab_X, TR v z.1 (drS s h g).1 → (∀ c, c ≠ v + 1 → c ≠ v + 2 → c ≠ v + 5 → z.1 c = x.1 c) → z.2 = x.2 → K z) : wX3_drop v (30 + 3 * h) (nI (g + 1)) x K := by
  have b := w.b
  have rm := rm_le w hh
  obtain ⟨-, -, w3, -, w5, -⟩ := w.2.1.1 h hh
  obtain ⟨-, -, t3, t4, -⟩ := t.2.1.2.2.1 h hh
  have t0 := (t.2.1.1 h (by omega)).1
  have f6 := w3.2
  have u5 := w5.2
  have a5 := w5.1
  have sm1 : (g + 1) * nv s.1 257 h = g * nv s.1 257 h + nv s.1 257 h := Nat.succ_mul _ _
  have sm2 : (g + 2) * nv s.1 257 h = (g + 1) * nv s.1 257 h + nv s.1 257 h := Nat.succ_mul _ _
  have le2 : (g + 2) * nv s.1 257 h ≤ nv s.1 256 h * nv s.1 257 h := Nat.mul_le_mul_right _ hg
  unfold wX3_drop
  simp (disch := first | assumption | omega) only [prv_n, nxt_n, q_sw, mc4, mc6, mc8, mc20, mc24, mc100, nv_rd, nb_rd, wr_rd, nI_lit, nI_add, pk_mul, pk_sub, q_div, cl_nI, vpi, q_eq, q_le, q_lt, n1_eq, n1_eq', n1_le, n1_lt, n1_ge, n1_gt, i_0m1, nlt_t, nlt_f, nle_t, nle_f, neq_f, f_below, f_within, f_isCorner, f_isIn, f_isCornerM, f_isStreet, f_isHouse, f_isCrew, f_isRow, f_has10, f_has0, jx_I, jx_N, jx_m1, jr_I, jr_N1, jr_N2, wr_2, isB_0, isB_1, true_and, and_true, and_self, false_and, and_false, true_or, or_true, false_or, or_false, not_true_eq_false, not_false_eq_true, forall_const, implies_true, false_implies, ne_eq, eq_self, if_true, if_false, Nat.zero_add, Nat.add_zero, Nat.mul_zero, Nat.zero_mul, Nat.mul_one, Nat.one_mul, Nat.add_sub_cancel, Nat.reduceEqDiff, Nat.reduceAdd, Nat.reduceMul, Nat.reduceSub, Nat.reduceLeDiff, Nat.reduceLT, Nat.reduceDiv, Nat.reduceMod]
  refine c_fallen t w (by omega) (by omega) ?_
  refine Lp2.ind (fun i a z => ∃ q, q ≤ nv s.1 257 h ∧ i = nv s.1 257 h - q ∧ a = nI q ∧ (∀ c, c ≠ v + 1 → c ≠ v + 2 → z.1 c = x.1 c) ∧ z.2 = x.2 ∧ (∀ k, k < 288 → z.1 (v + 1) k = dT (s.1 266) (fH s.1 h g) (24 * h + g * nv s.1 257 h) (nv s.1 257 h) q k) ∧ (∀ k, k < 288 → z.1 (v + 2) k = dT (s.1 267) (fS s.1 h) (24 * h + g * nv s.1 257 h) (nv s.1 257 h) q k)) (nv s.1 257 h) ⟨0, by omega, by omega, rfl, fun _ _ _ => rfl, rfl, fun k p => by rw [dT_0]; exact (t.2.2.1 k p).1, fun k p => by rw [dT_0]; exact (t.2.2.1 k p).2.1⟩ ?_
  rintro i a z ⟨q, hq, rfl, rfl, z1, z2, z3, z4⟩ L hL
  have c4 : z.1 (30 + 3 * h) 4 = nI (nv s.1 257 h) := by rw [z1 _ (by omega) (by omega), t4, a5]
  have c0 : z.1 (30 + 3 * h) 0 = nI h := by rw [z1 _ (by omega) (by omega), t0]
  unfold lX3_drop_12 wX4_place wX4_storey wX3_drop_104
  by_cases e : q = nv s.1 257 h
  · rw [e] at z3 z4 ⊢
    simp (disch := first | assumption | omega) only [prv_n, nxt_n, q_sw, mc4, mc6, mc8, mc20, mc24, mc100, nv_rd, nb_rd, wr_rd, nI_lit, nI_add, pk_mul, pk_sub, q_div, cl_nI, vpi, q_eq, q_le, q_lt, n1_eq, n1_eq', n1_le, n1_lt, n1_ge, n1_gt, i_0m1, nlt_t, nlt_f, nle_t, nle_f, neq_f, f_below, f_within, f_isCorner, f_isIn, f_isCornerM, f_isStreet, f_isHouse, f_isCrew, f_isRow, f_has10, f_has0, jx_I, jx_N, jx_m1, jr_I, jr_N1, jr_N2, wr_2, isB_0, isB_1, true_and, and_true, and_self, false_and, and_false, true_or, or_true, false_or, or_false, not_true_eq_false, not_false_eq_true, forall_const, implies_true, false_implies, ne_eq, eq_self, if_true, if_false, Nat.zero_add, Nat.add_zero, Nat.mul_zero, Nat.zero_mul, Nat.mul_one, Nat.one_mul, Nat.add_sub_cancel, Nat.reduceEqDiff, Nat.reduceAdd, Nat.reduceMul, Nat.reduceSub, Nat.reduceLeDiff, Nat.reduceLT, Nat.reduceDiv, Nat.reduceMod, c4, c0]
    refine k _ ⟨?_, ?_, fun k p => ⟨?_, ?_, ?_⟩, fun k p => ⟨?_, ?_⟩, ?_, fun u k p => ?_⟩ (fun c h1 h2 h3 => by rw [wr_n h3]; exact z1 c h1 h2) z2
    · rw [wr_n (by omega), z1 9 (by omega) (by omega), drS_o (by decide) (by decide) (by decide)]; exact t.1
    · exact Rho_fr t.2.1 (fun c h1 h2 => by rw [wr_n (by omega)]; exact z1 c (by omega) (by omega)) (fun c p q => drS_o (by omega) (by omega) (by omega)) (fun c p q => drS_o (by omega) (by omega) (by omega)) (by rw [drS_o (by decide) (by decide) (by decide)]) (fun i p => by omega)
    · rw [wr_n (by omega), drS_266]; exact z3 k p
    · rw [wr_n (by omega), drS_267]; exact z4 k p
    · rw [wr_n (by omega), z1 _ (by omega) (by omega)]; exact (t.2.2.1 k p).2.2
    · rw [wr_n (by omega), z1 _ (by omega) (by omega), drS_o (by decide) (by decide) (by decide)]; exact (t.2.2.2.1 k p).1
    · rw [drS_274]
      by_cases e2 : k = 6 * h + (g + 1)
      · rw [if_pos e2, e2, wr_e]
      · rw [if_neg e2, wr_k e2, z1 _ (by omega) (by omega)]; exact (t.2.2.2.1 k p).2
    · rw [wr_n (by omega), z1 _ (by omega) (by omega)]; exact t.2.2.2.2.1
    · rw [wr_n (by omega), z1 _ (by omega) (by omega)] at u
      have zz := t.2.2.2.2.2 u
      rw [drS_266]
      unfold dT
      split
      · rfl
      · split
        · unfold fH
          split
          · rw [zz k p, zz _ (by omega), imax_I (by decide) (by decide)]; rfl
          · exact zz k p
        · exact zz k p
  have hq2 : q < nv s.1 257 h := by omega
  generalize hU : 24 * h + g * nv s.1 257 h = U at *
  have ip : 24 * h + ((g + 1) * nv s.1 257 h + q) = U + nv s.1 257 h + q := by omega
  have iu : U + nv s.1 257 h + q - nv s.1 257 h = U + q := by omega
  have r1u : z.1 (v + 1) (U + q) = s.1 266 (U + q) := by rw [z3 _ (by omega), dT_u hq2]
  have r1b : z.1 (v + 1) (U + nv s.1 257 h + q) = s.1 266 (U + nv s.1 257 h + q) := by rw [z3 _ (by omega), dT_b hq2]
  have r2u : z.1 (v + 2) (U + q) = s.1 267 (U + q) := by rw [z4 _ (by omega), dT_u hq2]
  have r2b : z.1 (v + 2) (U + nv s.1 257 h + q) = s.1 267 (U + nv s.1 257 h + q) := by rw [z4 _ (by omega), dT_b hq2]
  have ia : U + q + nv s.1 257 h = U + nv s.1 257 h + q := by omega
  have fin : ∀ y : ab_X, (∀ c, c ≠ v + 1 → c ≠ v + 2 → y.1 c = z.1 c) → y.2 = z.2 → y.1 (v + 1) (U + q) = fH s.1 h g (U + q) → y.1 (v + 1) (U + nv s.1 257 h + q) = nI 0 → (∀ k, k ≠ U + q → k ≠ U + nv s.1 257 h + q → y.1 (v + 1) k = z.1 (v + 1) k) → y.1 (v + 2) (U + q) = fS s.1 h (U + q) → y.1 (v + 2) (U + nv s.1 257 h + q) = nI 0 → (∀ k, k ≠ U + q → k ≠ U + nv s.1 257 h + q → y.1 (v + 2) k = z.1 (v + 2) k) → L (nI (q + 1)) y := by
    intro y y1 y2 y3 y4 y5 y6 y7 y8
    refine hL _ _ _ (by omega) ⟨q + 1, by omega, rfl, rfl, fun c h1 h2 => (y1 c h1 h2).trans (z1 c h1 h2), y2.trans z2, fun k p => ?_, fun k p => ?_⟩
    · rw [dT_n hq2]
      by_cases e1 : k = U + nv s.1 257 h + q
      · rw [if_pos e1, e1]; exact y4
      · rw [if_neg e1]
        by_cases e2 : k = U + q
        · rw [if_pos e2, e2]; exact y3
        · rw [if_neg e2, y5 k e2 e1]; exact z3 k p
    · rw [dT_n hq2]
      by_cases e1 : k = U + nv s.1 257 h + q
      · rw [if_pos e1, e1]; exact y7
      · rw [if_neg e1]
        by_cases e2 : k = U + q
        · rw [if_pos e2, e2]; exact y6
        · rw [if_neg e2, y8 k e2 e1]; exact z4 k p
  by_cases q5 : s.1 274 (6 * h + g) = nI 0
  · simp (disch := first | assumption | omega) only [prv_n, nxt_n, q_sw, mc4, mc6, mc8, mc20, mc24, mc100, nv_rd, nb_rd, wr_rd, nI_lit, nI_add, pk_mul, pk_sub, q_div, cl_nI, vpi, q_eq, q_le, q_lt, n1_eq, n1_eq', n1_le, n1_lt, n1_ge, n1_gt, i_0m1, nlt_t, nlt_f, nle_t, nle_f, neq_f, f_below, f_within, f_isCorner, f_isIn, f_isCornerM, f_isStreet, f_isHouse, f_isCrew, f_isRow, f_has10, f_has0, jx_I, jx_N, jx_m1, jr_I, jr_N1, jr_N2, wr_2, isB_0, isB_1, true_and, and_true, and_self, false_and, and_false, true_or, or_true, false_or, or_false, not_true_eq_false, not_false_eq_true, forall_const, implies_true, false_implies, ne_eq, eq_self, if_true, if_false, Nat.zero_add, Nat.add_zero, Nat.mul_zero, Nat.zero_mul, Nat.mul_one, Nat.one_mul, Nat.add_sub_cancel, Nat.reduceEqDiff, Nat.reduceAdd, Nat.reduceMul, Nat.reduceSub, Nat.reduceLeDiff, Nat.reduceLT, Nat.reduceDiv, Nat.reduceMod, c4, c0, ip, iu, r1u, r1b, r2u, r2b, q5]
    refine fin _ (fun c h1 h2 => by simp (disch := omega) only [wr_n]) rfl ?_ ?_ (fun k h1 h2 => ?_) ?_ ?_ (fun k h1 h2 => ?_)
    · simp (disch := omega) only [wr_ne, wr_e]
      unfold fH; rw [if_pos q5, ia]
    · simp (disch := omega) only [wr_ne, wr_e]
    · simp (disch := omega) only [wr_ne]
    · simp (disch := omega) only [wr_ne, wr_e]
      unfold fS; rw [ia]
    · simp (disch := omega) only [wr_ne, wr_e]
    · simp (disch := omega) only [wr_ne]
  · have z0 : s.1 266 (U + q) = nI 0 := by
      have := w.2.2.2.2.2 h g q hh (by omega) hq2 q5
      rw [← Nat.add_assoc, hU] at this
      exact this
    simp (disch := first | assumption | omega) only [prv_n, nxt_n, q_sw, mc4, mc6, mc8, mc20, mc24, mc100, nv_rd, nb_rd, wr_rd, nI_lit, nI_add, pk_mul, pk_sub, q_div, cl_nI, vpi, q_eq, q_le, q_lt, n1_eq, n1_eq', n1_le, n1_lt, n1_ge, n1_gt, i_0m1, nlt_t, nlt_f, nle_t, nle_f, neq_f, f_below, f_within, f_isCorner, f_isIn, f_isCornerM, f_isStreet, f_isHouse, f_isCrew, f_isRow, f_has10, f_has0, jx_I, jx_N, jx_m1, jr_I, jr_N1, jr_N2, wr_2, isB_0, isB_1, true_and, and_true, and_self, false_and, and_false, true_or, or_true, false_or, or_false, not_true_eq_false, not_false_eq_true, forall_const, implies_true, false_implies, ne_eq, eq_self, if_true, if_false, Nat.zero_add, Nat.add_zero, Nat.mul_zero, Nat.zero_mul, Nat.mul_one, Nat.one_mul, Nat.add_sub_cancel, Nat.reduceEqDiff, Nat.reduceAdd, Nat.reduceMul, Nat.reduceSub, Nat.reduceLeDiff, Nat.reduceLT, Nat.reduceDiv, Nat.reduceMod, c4, c0, ip, iu, r1u, r1b, r2u, r2b, q5]
    refine fin _ (fun c h1 h2 => by simp (disch := omega) only [wr_n]) rfl ?_ ?_ (fun k h1 h2 => ?_) ?_ ?_ (fun k h1 h2 => ?_)
    · simp (disch := omega) only [wr_ne, wr_e]
      unfold fH; rw [if_neg q5, z0]
    · simp (disch := omega) only [wr_ne, wr_e]
    · simp (disch := omega) only [wr_ne]
    · simp (disch := omega) only [wr_ne, wr_e]
      unfold fS; rw [ia]
    · simp (disch := omega) only [wr_ne, wr_e]
    · simp (disch := omega) only [wr_ne]
