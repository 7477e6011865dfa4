/-! THE FIRE: all falls of a minute, both. -/
def flF (V : Int32) (s : ab_X) (h g : Nat) : ab_X := if s.1 274 (6 * h + (g + 1)) = nI 0 ∧ ¬ ld s.1 h (g + 1) < nI (brN s.1 h) then drV V s h g else s
/-- the floors j, j - 1, .., 1 of a house -/
def flD (V : Int32) (h : Nat) : Nat → ab_X → ab_X
  | 0, s => s
  | j + 1, s => flD V h j (flF V s h j)
/-- m houses from h on -/
def flA (V : Int32) : Nat → Nat → ab_X → ab_X
  | 0, _, s => s
  | m + 1, h, s => flA V m (h + 1) (flD V h (nv s.1 256 h - 1) s)
/-- what falls leave as it is -/
def flK (s t : ab_X) : Prop := (∀ c, 247 ≤ c → (c < 263 ∨ c = 264 ∨ c = 265 ∨ c = 271 ∨ c = 273 ∨ (275 ≤ c ∧ c ≤ 285) ∨ c = 289 ∨ 292 ≤ c) → t.1 c = s.1 c) ∧ (∀ f, t.1 246 f = s.1 246 f) ∧ t.2 = s.2
theorem flK.rfl' {s : ab_X} : flK s s := ⟨fun _ _ _ => rfl, fun _ => rfl, rfl⟩
theorem flK.tr {s t u : ab_X} (h : flK s t) (h2 : flK t u) : flK s u := ⟨fun c p q => (h2.1 c p q).trans (h.1 c p q), fun f => (h2.2.1 f).trans (h.2.1 f), h2.2.2.trans h.2.2⟩
theorem drV_k {V : Int32} {s : ab_X} {h g : Nat} : flK s (drV V s h g) := by
  unfold drV
  have a : flK s (drS s h g) := ⟨fun c p q => drS_o (by omega) (by omega) (by omega), fun f => by rw [drS_o (by decide) (by decide) (by decide)], rfl⟩
  split
  · exact a
  · refine a.tr ⟨fun c p q => ?_, fun f => ?_, ?_⟩
    · rw [hrS_o (c := c) (by omega)]; unfold plS; rw [wr_n (by omega), wr_n (by omega)]
    · rw [hrS_o (c := 246) (by decide)]; unfold plS; rw [wr_n (by decide), wr_n (by decide)]
    · rw [hrS_2]; rfl
theorem drV_tw {V : Int32} {s : ab_X} {h g : Nat} (w : TW s.1) (hh : h < nv s.1 246 31) (hg : g + 1 < nv s.1 256 h) : TW (drV V s h g).1 := by
  have a := drS_tw w hh hg
  have f6 := (w.2.1.1 h hh).2.2.1.2
  have b := w.b
  unfold drV
  split
  · exact a
  · have o : ∀ c, c ≠ 263 → c ≠ 272 → ¬ (286 ≤ c ∧ c ≤ 291) → (hrS (plS (drS s h g) h (g + 1)) h (g + 1) (nv s.1 246 58)).1 c = (drS s h g).1 c := fun c h1 h2 h3 => by
      rw [hrS_o (c := c) (by omega)]; unfold plS; rw [wr_n h2, wr_n h1]
    have on : ∀ c k, c ≠ 263 → c ≠ 272 → ¬ (286 ≤ c ∧ c ≤ 291) → nv (hrS (plS (drS s h g) h (g + 1)) h (g + 1) (nv s.1 246 58)).1 c k = nv (drS s h g).1 c k := fun c k h1 h2 h3 => by
      show ((hrS (plS (drS s h g) h (g + 1)) h (g + 1) (nv s.1 246 58)).1 c k).toNatClampNeg = _
      rw [o c h1 h2 h3]; rfl
    have onb : ∀ c k e, c ≠ 263 → c ≠ 272 → ¬ (286 ≤ c ∧ c ≤ 291) → nbd (drS s h g).1 c k e → nbd (hrS (plS (drS s h g) h (g + 1)) h (g + 1) (nv s.1 246 58)).1 c k e := fun c k e h1 h2 h3 u => by unfold nbd at u ⊢; rw [on c k h1 h2 h3, o c h1 h2 h3]; exact u
    refine ⟨onb _ _ _ (by decide) (by decide) (by decide) a.1, ?_, ?_, ?_, ?_, ?_⟩
    · obtain ⟨s1, s2, s3⟩ := a.2.1
      refine ⟨fun i p => ?_, fun i p => ?_, fun k p => ?_⟩
      · rw [on 246 31 (by decide) (by decide) (by decide)] at p
        obtain ⟨a1, a2, a3, a4, a5, a6, a7, a8, a9⟩ := s1 i p
        rw [on 256 i (by decide) (by decide) (by decide), on 257 i (by decide) (by decide) (by decide), on 260 i (by decide) (by decide) (by decide), o 258 (by decide) (by decide) (by decide)]
        exact ⟨onb _ _ _ (by decide) (by decide) (by decide) a1, onb _ _ _ (by decide) (by decide) (by decide) a2, onb _ _ _ (by decide) (by decide) (by decide) a3, a4, onb _ _ _ (by decide) (by decide) (by decide) a5, a6, a7.imp id (onb _ _ _ (by decide) (by decide) (by decide)), onb _ _ _ (by decide) (by decide) (by decide) a8, a9⟩
      · obtain ⟨a1, a2, a3⟩ := s2 i p
        exact ⟨onb _ _ _ (by decide) (by decide) (by decide) a1, onb _ _ _ (by decide) (by decide) (by decide) a2, by rw [o 265 (by decide) (by decide) (by decide)]; exact a3⟩
      · obtain ⟨a1, a2⟩ := s3 k p
        refine ⟨?_, onb _ _ _ (by decide) (by decide) (by decide) a2⟩
        have a1' : (drS s h g).1 272 k = nI ((drS s h g).1 272 k).toNatClampNeg ∧ ((drS s h g).1 272 k).toNatClampNeg ≤ 20 := a1
        show (hrS (plS (drS s h g) h (g + 1)) h (g + 1) (nv s.1 246 58)).1 272 k = nI ((hrS (plS (drS s h g) h (g + 1)) h (g + 1) (nv s.1 246 58)).1 272 k).toNatClampNeg ∧ ((hrS (plS (drS s h g) h (g + 1)) h (g + 1) (nv s.1 246 58)).1 272 k).toNatClampNeg ≤ 20
        rw [hrS_o (c := 272) (by decide)]
        unfold plS
        by_cases e : k = 6 * h + (g + 1)
        · rw [e, wr_e, cl_nI (by decide)]; exact ⟨rfl, by decide⟩
        · rw [wr_k e, wr_n (by decide)]; exact a1'
    · intro k p
      obtain ⟨a1, a2⟩ := a.2.2.1 k p
      exact ⟨onb _ _ _ (by decide) (by decide) (by decide) a1, onb _ _ _ (by decide) (by decide) (by decide) a2⟩
    · intro k p
      rw [o 274 (by decide) (by decide) (by decide)]; exact a.2.2.2.1 k p
    · intro i r p q u
      rw [on 246 31 (by decide) (by decide) (by decide), on 256 i (by decide) (by decide) (by decide), on 257 i (by decide) (by decide) (by decide)] at u
      rw [o 266 (by decide) (by decide) (by decide)]; exact a.2.2.2.2.1 i r p q u
    · intro i f r p q u v
      rw [on 246 31 (by decide) (by decide) (by decide)] at p
      rw [on 256 i (by decide) (by decide) (by decide)] at q
      rw [on 257 i (by decide) (by decide) (by decide)] at u ⊢
      rw [o 274 (by decide) (by decide) (by decide)] at v
      rw [o 266 (by decide) (by decide) (by decide)]; exact a.2.2.2.2.2 i f r p q u v
theorem flK.nw {s t : ab_X} (h : flK s t) {c k : Nat} (p : 247 ≤ c) (q : c < 263 ∨ c = 264 ∨ c = 265 ∨ c = 271 ∨ c = 273 ∨ (275 ≤ c ∧ c ≤ 285) ∨ c = 289 ∨ 292 ≤ c) : nv t.1 c k = nv s.1 c k := by unfold nv; rw [h.1 c p q]
theorem flK.ns {s t : ab_X} (h : flK s t) {f : Nat} : Jvm.Pilot.CCityBrigadeLaw_law_r2506_aec212.nv t.1 246 f = Jvm.Pilot.CCityBrigadeLaw_law_r2506_aec212.nv s.1 246 f := by unfold Jvm.Pilot.CCityBrigadeLaw_law_r2506_aec212.nv; rw [h.2.1 f]
theorem flF_k {V : Int32} {s : ab_X} {h g : Nat} : flK s (flF V s h g) := by
  unfold flF; split
  · exact drV_k
  · exact flK.rfl'
theorem flF_tw {V : Int32} {s : ab_X} {h g : Nat} (w : TW s.1) (hh : h < nv s.1 246 31) (hg : g + 1 < nv s.1 256 h) : TW (flF V s h g).1 := by
  unfold flF; split
  · exact drV_tw w hh hg
  · exact w
theorem flD_k {V : Int32} {h : Nat} : ∀ (j : Nat) (s : ab_X), flK s (flD V h j s)
  | 0, s => flK.rfl'
  | j + 1, s => flF_k.tr (flD_k j _)
theorem flD_tw {V : Int32} {h : Nat} : ∀ (j : Nat) (s : ab_X), TW s.1 → h < nv s.1 246 31 → j < nv s.1 256 h → TW (flD V h j s).1
  | 0, s, w, _, _ => w
  | j + 1, s, w, hh, hj => flD_tw j _ (flF_tw w hh hj) (by rw [flF_k.ns]; exact hh) (by rw [flF_k.nw (by decide) (by decide)]; omega)
theorem flA_k {V : Int32} : ∀ (m h : Nat) (s : ab_X), flK s (flA V m h s)
  | 0, h, s => flK.rfl'
  | m + 1, h, s => (flD_k _ _).tr (flA_k m (h + 1) _)
theorem flA_tw {V : Int32} : ∀ (m h : Nat) (s : ab_X), TW s.1 → h + m = nv s.1 246 31 → TW (flA V m h s).1
  | 0, h, s, w, _ => w
  | m + 1, h, s, w, e => flA_tw m (h + 1) _ (flD_tw _ _ w (by omega) (by have := (w.2.1.1 h (by omega)).2.2.2.1; omega)) (by rw [(flD_k _ _).ns]; omega)
/-- the program's loops -/
theorem c_fallsH {v : Nat} (hv : v = 11 ∨ v = 19) {h n : Nat} {L66 : Int32 → ab_X → Prop} {K : ab_X → Prop} : ∀ (j : Nat) {x s : ab_X}, TR v x.1 s.1 → TW s.1 → n = nv s.1 246 31 → h < n → j < nv s.1 256 h → (∀ z : ab_X, TR v z.1 (flD (nI 0) h j s).1 → (∀ c, c ≠ v + 1 → c ≠ v + 2 → c ≠ v + 5 → z.1 c = x.1 c) → z.2 = x.2 → L66 (nI (h + 1)) z) → Lp2 (lX3_step_81 v (nI n) (nI h) K L66) (nI j) x := by
  intro j x s t w hn hh hj hk
  refine Lp2.ind (fun i a y => ∃ u, ∃ s' : ab_X, u ≤ j ∧ i = u ∧ a = nI u ∧ TR v y.1 s'.1 ∧ TW s'.1 ∧ flK s s' ∧ flD (nI 0) h u s' = flD (nI 0) h j s ∧ (∀ c, c ≠ v + 1 → c ≠ v + 2 → c ≠ v + 5 → y.1 c = x.1 c) ∧ y.2 = x.2) j ⟨j, s, Nat.le_refl _, rfl, rfl, t, w, flK.rfl', rfl, fun _ _ _ _ => rfl, rfl⟩ ?_
  rintro ii a y ⟨u, s', hu, hii, rfl, ty, wy, fk, ed, y1, y2⟩ L hL
  have b := w.b
  have f6 := (w.2.1.1 h (by omega)).2.2.1.2
  have n' : nv s'.1 246 31 = nv s.1 246 31 := fk.ns
  have fl' : nv s'.1 256 h = nv s.1 256 h := fk.nw (by decide) (by decide)
  unfold lX3_step_81
  by_cases e : u = 0
  · subst e
    have ed' : s' = flD (nI 0) h j s := ed
    rw [ed'] at ty
    simp (disch := first | assumption | omega) only [prv_n, nxt_n, q_sw, mc4, mc6, mc8, mc20, mc24, mc100, nv_rd, nb_rd, wr_rd, nI_lit, nI_add, pk_mul, pk_sub, q_div, cl_nI, vpi, q_eq, q_le, q_lt, n1_eq, n1_eq', n1_le, n1_lt, n1_ge, n1_gt, i_0m1, nlt_t, nlt_f, nle_t, nle_f, neq_f, f_below, f_within, f_isCorner, f_isIn, f_isCornerM, f_isStreet, f_isHouse, f_isCrew, f_isRow, f_has10, f_has0, jx_I, jx_N, jx_m1, jr_I, jr_N1, jr_N2, wr_2, isB_0, isB_1, true_and, and_true, and_self, false_and, and_false, true_or, or_true, false_or, or_false, not_true_eq_false, not_false_eq_true, forall_const, implies_true, false_implies, ne_eq, eq_self, if_true, if_false, Nat.zero_add, Nat.add_zero, Nat.mul_zero, Nat.zero_mul, Nat.mul_one, Nat.one_mul, Nat.add_sub_cancel, Nat.reduceEqDiff, Nat.reduceAdd, Nat.reduceMul, Nat.reduceSub, Nat.reduceLeDiff, Nat.reduceLT, Nat.reduceDiv, Nat.reduceMod]
    exact hk y ty y1 y2
  obtain ⟨g, rfl⟩ : ∃ g, u = g + 1 := ⟨u - 1, by omega⟩
  have ed2 : flD (nI 0) h g (flF (nI 0) s' h g) = flD (nI 0) h j s := ed
  have br := brN_b wy (h := h) (by omega)
  have dn := i_pm1 (g + 1) (by omega)
  rw [Nat.add_sub_cancel] at dn
  simp (disch := first | assumption | omega) only [prv_n, nxt_n, q_sw, mc4, mc6, mc8, mc20, mc24, mc100, nv_rd, nb_rd, wr_rd, nI_lit, nI_add, pk_mul, pk_sub, q_div, cl_nI, vpi, q_eq, q_le, q_lt, n1_eq, n1_eq', n1_le, n1_lt, n1_ge, n1_gt, i_0m1, nlt_t, nlt_f, nle_t, nle_f, neq_f, f_below, f_within, f_isCorner, f_isIn, f_isCornerM, f_isStreet, f_isHouse, f_isCrew, f_isRow, f_has10, f_has0, jx_I, jx_N, jx_m1, jr_I, jr_N1, jr_N2, wr_2, isB_0, isB_1, true_and, and_true, and_self, false_and, and_false, true_or, or_true, false_or, or_false, not_true_eq_false, not_false_eq_true, forall_const, implies_true, false_implies, ne_eq, eq_self, if_true, if_false, Nat.zero_add, Nat.add_zero, Nat.mul_zero, Nat.zero_mul, Nat.mul_one, Nat.one_mul, Nat.add_sub_cancel, Nat.reduceEqDiff, Nat.reduceAdd, Nat.reduceMul, Nat.reduceSub, Nat.reduceLeDiff, Nat.reduceLT, Nat.reduceDiv, Nat.reduceMod]
  refine c_fallen ty wy (by omega) (by omega) ?_
  have next : ∀ y' : ab_X, TR v y'.1 (flF (nI 0) s' h g).1 → (∀ c, c ≠ v + 1 → c ≠ v + 2 → c ≠ v + 5 → y'.1 c = y.1 c) → y'.2 = y.2 → L (nI g) y' := fun y' t' f' s2 => hL g _ _ (by omega) ⟨g, flF (nI 0) s' h g, by omega, rfl, rfl, t', flF_tw wy (by omega) (by omega), fk.tr flF_k, ed2, fun c h1 h2 h3 => (f' c h1 h2 h3).trans (y1 c h1 h2 h3), s2.trans y2⟩
  unfold flF at next
  by_cases q1 : s'.1 274 (6 * h + (g + 1)) = nI 0
  · simp (disch := first | assumption | omega) only [prv_n, nxt_n, q_sw, mc4, mc6, mc8, mc20, mc24, mc100, nv_rd, nb_rd, wr_rd, nI_lit, nI_add, pk_mul, pk_sub, q_div, cl_nI, vpi, q_eq, q_le, q_lt, n1_eq, n1_eq', n1_le, n1_lt, n1_ge, n1_gt, i_0m1, nlt_t, nlt_f, nle_t, nle_f, neq_f, f_below, f_within, f_isCorner, f_isIn, f_isCornerM, f_isStreet, f_isHouse, f_isCrew, f_isRow, f_has10, f_has0, jx_I, jx_N, jx_m1, jr_I, jr_N1, jr_N2, wr_2, isB_0, isB_1, true_and, and_true, and_self, false_and, and_false, true_or, or_true, false_or, or_false, not_true_eq_false, not_false_eq_true, forall_const, implies_true, false_implies, ne_eq, eq_self, if_true, if_false, Nat.zero_add, Nat.add_zero, Nat.mul_zero, Nat.zero_mul, Nat.mul_one, Nat.one_mul, Nat.add_sub_cancel, Nat.reduceEqDiff, Nat.reduceAdd, Nat.reduceMul, Nat.reduceSub, Nat.reduceLeDiff, Nat.reduceLT, Nat.reduceDiv, Nat.reduceMod, q1]
    refine c_load ty (by omega) (by omega) ?_
    refine c_limit ty.2.1 wy (by omega) ?_
    by_cases q2 : ld s'.1 h (g + 1) < nI (brN s'.1 h)
    · rw [if_neg (fun u => u.2 q2)] at next
      simp (disch := first | assumption | omega) only [prv_n, nxt_n, q_sw, mc4, mc6, mc8, mc20, mc24, mc100, nv_rd, nb_rd, wr_rd, nI_lit, nI_add, pk_mul, pk_sub, q_div, cl_nI, vpi, q_eq, q_le, q_lt, n1_eq, n1_eq', n1_le, n1_lt, n1_ge, n1_gt, i_0m1, nlt_t, nlt_f, nle_t, nle_f, neq_f, f_below, f_within, f_isCorner, f_isIn, f_isCornerM, f_isStreet, f_isHouse, f_isCrew, f_isRow, f_has10, f_has0, jx_I, jx_N, jx_m1, jr_I, jr_N1, jr_N2, wr_2, isB_0, isB_1, true_and, and_true, and_self, false_and, and_false, true_or, or_true, false_or, or_false, not_true_eq_false, not_false_eq_true, forall_const, implies_true, false_implies, ne_eq, eq_self, if_true, if_false, Nat.zero_add, Nat.add_zero, Nat.mul_zero, Nat.zero_mul, Nat.mul_one, Nat.one_mul, Nat.add_sub_cancel, Nat.reduceEqDiff, Nat.reduceAdd, Nat.reduceMul, Nat.reduceSub, Nat.reduceLeDiff, Nat.reduceLT, Nat.reduceDiv, Nat.reduceMod, q2, dn]
      exact next y ty (fun _ _ _ _ => rfl) rfl
    · rw [if_pos ⟨q1, q2⟩] at next
      unfold drV at next
      rw [if_pos rfl] at next
      simp (disch := first | assumption | omega) only [prv_n, nxt_n, q_sw, mc4, mc6, mc8, mc20, mc24, mc100, nv_rd, nb_rd, wr_rd, nI_lit, nI_add, pk_mul, pk_sub, q_div, cl_nI, vpi, q_eq, q_le, q_lt, n1_eq, n1_eq', n1_le, n1_lt, n1_ge, n1_gt, i_0m1, nlt_t, nlt_f, nle_t, nle_f, neq_f, f_below, f_within, f_isCorner, f_isIn, f_isCornerM, f_isStreet, f_isHouse, f_isCrew, f_isRow, f_has10, f_has0, jx_I, jx_N, jx_m1, jr_I, jr_N1, jr_N2, wr_2, isB_0, isB_1, true_and, and_true, and_self, false_and, and_false, true_or, or_true, false_or, or_false, not_true_eq_false, not_false_eq_true, forall_const, implies_true, false_implies, ne_eq, eq_self, if_true, if_false, Nat.zero_add, Nat.add_zero, Nat.mul_zero, Nat.zero_mul, Nat.mul_one, Nat.one_mul, Nat.add_sub_cancel, Nat.reduceEqDiff, Nat.reduceAdd, Nat.reduceMul, Nat.reduceSub, Nat.reduceLeDiff, Nat.reduceLT, Nat.reduceDiv, Nat.reduceMod, q2]
      refine c_drop hv ty wy (by omega) (by omega) (fun z tz z1 z2 => ?_)
      rw [dn]
      exact next z tz z1 z2
  · rw [if_neg (fun u => q1 u.1)] at next
    simp (disch := first | assumption | omega) only [prv_n, nxt_n, q_sw, mc4, mc6, mc8, mc20, mc24, mc100, nv_rd, nb_rd, wr_rd, nI_lit, nI_add, pk_mul, pk_sub, q_div, cl_nI, vpi, q_eq, q_le, q_lt, n1_eq, n1_eq', n1_le, n1_lt, n1_ge, n1_gt, i_0m1, nlt_t, nlt_f, nle_t, nle_f, neq_f, f_below, f_within, f_isCorner, f_isIn, f_isCornerM, f_isStreet, f_isHouse, f_isCrew, f_isRow, f_has10, f_has0, jx_I, jx_N, jx_m1, jr_I, jr_N1, jr_N2, wr_2, isB_0, isB_1, true_and, and_true, and_self, false_and, and_false, true_or, or_true, false_or, or_false, not_true_eq_false, not_false_eq_true, forall_const, implies_true, false_implies, ne_eq, eq_self, if_true, if_false, Nat.zero_add, Nat.add_zero, Nat.mul_zero, Nat.zero_mul, Nat.mul_one, Nat.one_mul, Nat.add_sub_cancel, Nat.reduceEqDiff, Nat.reduceAdd, Nat.reduceMul, Nat.reduceSub, Nat.reduceLeDiff, Nat.reduceLT, Nat.reduceDiv, Nat.reduceMod, q1, dn]
    exact next y ty (fun _ _ _ _ => rfl) rfl
theorem c_fallsA {v : Nat} (hv : v = 11 ∨ v = 19) {x s : ab_X} (t : TR v x.1 s.1) (w : TW s.1) {K : ab_X → Prop} (k : ∀ z : ab_X, TR v z.1 (flA (nI 0) (nv s.1 246 31) 0 s).1 → (∀ c, c ≠ v + 1 → c ≠ v + 2 → c ≠ v + 5 → z.1 c = x.1 c) → z.2 = x.2 → K z) : Lp2 (lX3_step_66 v (nI (nv s.1 246 31)) K) 0 x := by
  have b := w.b
  refine Lp2.ind (fun i a y => ∃ h, ∃ s' : ab_X, h ≤ nv s.1 246 31 ∧ i = nv s.1 246 31 - h ∧ a = nI h ∧ TR v y.1 s'.1 ∧ TW s'.1 ∧ flK s s' ∧ flA (nI 0) (nv s.1 246 31 - h) h s' = flA (nI 0) (nv s.1 246 31) 0 s ∧ (∀ c, c ≠ v + 1 → c ≠ v + 2 → c ≠ v + 5 → y.1 c = x.1 c) ∧ y.2 = x.2) (nv s.1 246 31) ⟨0, s, by omega, by omega, rfl, t, w, flK.rfl', rfl, fun _ _ _ _ => rfl, rfl⟩ ?_
  rintro ii a y ⟨h, s', hh, hii, rfl, ty, wy, fk, ea, y1, y2⟩ L hL
  have n' : nv s'.1 246 31 = nv s.1 246 31 := fk.ns
  unfold lX3_step_66
  by_cases e : h = nv s.1 246 31
  · rw [e, Nat.sub_self] at ea
    have ea' : s' = flA (nI 0) (nv s.1 246 31) 0 s := ea
    rw [ea'] at ty
    rw [e]
    simp (disch := first | assumption | omega) only [prv_n, nxt_n, q_sw, mc4, mc6, mc8, mc20, mc24, mc100, nv_rd, nb_rd, wr_rd, nI_lit, nI_add, pk_mul, pk_sub, q_div, cl_nI, vpi, q_eq, q_le, q_lt, n1_eq, n1_eq', n1_le, n1_lt, n1_ge, n1_gt, i_0m1, nlt_t, nlt_f, nle_t, nle_f, neq_f, f_below, f_within, f_isCorner, f_isIn, f_isCornerM, f_isStreet, f_isHouse, f_isCrew, f_isRow, f_has10, f_has0, jx_I, jx_N, jx_m1, jr_I, jr_N1, jr_N2, wr_2, isB_0, isB_1, true_and, and_true, and_self, false_and, and_false, true_or, or_true, false_or, or_false, not_true_eq_false, not_false_eq_true, forall_const, implies_true, false_implies, ne_eq, eq_self, if_true, if_false, Nat.zero_add, Nat.add_zero, Nat.mul_zero, Nat.zero_mul, Nat.mul_one, Nat.one_mul, Nat.add_sub_cancel, Nat.reduceEqDiff, Nat.reduceAdd, Nat.reduceMul, Nat.reduceSub, Nat.reduceLeDiff, Nat.reduceLT, Nat.reduceDiv, Nat.reduceMod]
    exact k y ty y1 y2
  have w3 := (wy.2.1.1 h (by omega)).2.2.1
  have w4 := (wy.2.1.1 h (by omega)).2.2.2.1
  obtain ⟨-, -, t3, -⟩ := ty.2.1.2.2.1 h (by omega)
  have f6 := w3.2
  simp (disch := first | assumption | omega) only [prv_n, nxt_n, q_sw, mc4, mc6, mc8, mc20, mc24, mc100, nv_rd, nb_rd, wr_rd, nI_lit, nI_add, pk_mul, pk_sub, q_div, cl_nI, vpi, q_eq, q_le, q_lt, n1_eq, n1_eq', n1_le, n1_lt, n1_ge, n1_gt, i_0m1, nlt_t, nlt_f, nle_t, nle_f, neq_f, f_below, f_within, f_isCorner, f_isIn, f_isCornerM, f_isStreet, f_isHouse, f_isCrew, f_isRow, f_has10, f_has0, jx_I, jx_N, jx_m1, jr_I, jr_N1, jr_N2, wr_2, isB_0, isB_1, true_and, and_true, and_self, false_and, and_false, true_or, or_true, false_or, or_false, not_true_eq_false, not_false_eq_true, forall_const, implies_true, false_implies, ne_eq, eq_self, if_true, if_false, Nat.zero_add, Nat.add_zero, Nat.mul_zero, Nat.zero_mul, Nat.mul_one, Nat.one_mul, Nat.add_sub_cancel, Nat.reduceEqDiff, Nat.reduceAdd, Nat.reduceMul, Nat.reduceSub, Nat.reduceLeDiff, Nat.reduceLT, Nat.reduceDiv, Nat.reduceMod, t3, w3.1]
  refine c_fallsH hv (nv s'.1 256 h - 1) ty wy n'.symm (by omega) (by omega) (fun z tz z1 z2 => ?_)
  refine hL (nv s.1 246 31 - (h + 1)) _ _ (by omega) ⟨h + 1, flD (nI 0) h (nv s'.1 256 h - 1) s', by omega, rfl, rfl, tz, flD_tw _ _ wy (by omega) (by omega), fk.tr (flD_k _ _), ?_, fun c h1 h2 h3 => (z1 c h1 h2 h3).trans (y1 c h1 h2 h3), z2.trans y2⟩
  rw [← ea]
  obtain ⟨m, hm⟩ : ∃ m, nv s.1 246 31 - h = m + 1 := ⟨nv s.1 246 31 - h - 1, by omega⟩
  rw [hm, show nv s.1 246 31 - (h + 1) = m by omega]
  rfl
/-- the reference's loops -/
theorem m_fallsH {V : Int32} {h : Nat} {L254 : Int32 → ab_X → Prop} {K : ab_X → Prop} : ∀ (j : Nat) {x s : ab_X}, keepM s.1 x.1 → TW s.1 → nv s.1 246 58 ≤ 16 → s.1 246 58 = nI (nv s.1 246 58) → h < nv s.1 246 31 → j < nv s.1 256 h → (∀ z : ab_X, keepM (flD V h j s).1 z.1 → (∀ c, ¬ kM c → z.1 c = x.1 c) → z.2 = x.2 → L254 (nI (h + 1)) z) → Lp2 (lX12_burn_271 V (nI h) K L254) (nI j) x := by
  intro j x s m w b58 v58 hh hj hk
  refine Lp2.ind (fun i a y => ∃ u, ∃ s' : ab_X, u ≤ j ∧ i = u ∧ a = nI u ∧ keepM s'.1 y.1 ∧ TW s'.1 ∧ flK s s' ∧ flD V h u s' = flD V h j s ∧ (∀ c, ¬ kM c → y.1 c = x.1 c) ∧ y.2 = x.2) j ⟨j, s, Nat.le_refl _, rfl, rfl, m, w, flK.rfl', rfl, fun _ _ => rfl, rfl⟩ ?_
  rintro ii a y ⟨u, s', hu, hii, rfl, my, wy, fk, ed, y1, y2⟩ L hL
  have b := w.b
  have f6 := (w.2.1.1 h (by omega)).2.2.1.2
  have n' : nv s'.1 246 31 = nv s.1 246 31 := fk.ns
  have fl' : nv s'.1 256 h = nv s.1 256 h := fk.nw (by decide) (by decide)
  unfold lX12_burn_271
  by_cases e : u = 0
  · subst e
    have ed' : s' = flD V h j s := ed
    rw [ed'] at my
    simp (disch := first | assumption | omega) only [prv_n, nxt_n, q_sw, mc4, mc6, mc8, mc20, mc24, mc100, nv_rd, nb_rd, wr_rd, nI_lit, nI_add, pk_mul, pk_sub, q_div, cl_nI, vpi, q_eq, q_le, q_lt, n1_eq, n1_eq', n1_le, n1_lt, n1_ge, n1_gt, i_0m1, nlt_t, nlt_f, nle_t, nle_f, neq_f, f_below, f_within, f_isCorner, f_isIn, f_isCornerM, f_isStreet, f_isHouse, f_isCrew, f_isRow, f_has10, f_has0, jx_I, jx_N, jx_m1, jr_I, jr_N1, jr_N2, wr_2, isB_0, isB_1, true_and, and_true, and_self, false_and, and_false, true_or, or_true, false_or, or_false, not_true_eq_false, not_false_eq_true, forall_const, implies_true, false_implies, ne_eq, eq_self, if_true, if_false, Nat.zero_add, Nat.add_zero, Nat.mul_zero, Nat.zero_mul, Nat.mul_one, Nat.one_mul, Nat.add_sub_cancel, Nat.reduceEqDiff, Nat.reduceAdd, Nat.reduceMul, Nat.reduceSub, Nat.reduceLeDiff, Nat.reduceLT, Nat.reduceDiv, Nat.reduceMod]
    exact hk y my y1 y2
  obtain ⟨g, rfl⟩ : ∃ g, u = g + 1 := ⟨u - 1, by omega⟩
  have ed2 : flD V h g (flF V s' h g) = flD V h j s := ed
  have dn := i_pm1 (g + 1) (by omega)
  rw [Nat.add_sub_cancel] at dn
  have next : ∀ y' : ab_X, keepM (flF V s' h g).1 y'.1 → (∀ c, ¬ kM c → y'.1 c = y.1 c) → y'.2 = y.2 → L (nI g) y' := fun y' t' f' s2 => hL g _ _ (by omega) ⟨g, flF V s' h g, by omega, rfl, rfl, t', flF_tw wy (by omega) (by omega), fk.tr flF_k, ed2, fun c h1 => (f' c h1).trans (y1 c h1), s2.trans y2⟩
  unfold flF at next
  by_cases q1 : s'.1 274 (6 * h + (g + 1)) = nI 0
  · simp (disch := first | assumption | omega) only [prv_n, nxt_n, q_sw, mc4, mc6, mc8, mc20, mc24, mc100, nv_rd, nb_rd, wr_rd, nI_lit, nI_add, pk_mul, pk_sub, q_div, cl_nI, vpi, q_eq, q_le, q_lt, n1_eq, n1_eq', n1_le, n1_lt, n1_ge, n1_gt, i_0m1, nlt_t, nlt_f, nle_t, nle_f, neq_f, f_below, f_within, f_isCorner, f_isIn, f_isCornerM, f_isStreet, f_isHouse, f_isCrew, f_isRow, f_has10, f_has0, jx_I, jx_N, jx_m1, jr_I, jr_N1, jr_N2, wr_2, isB_0, isB_1, true_and, and_true, and_self, false_and, and_false, true_or, or_true, false_or, or_false, not_true_eq_false, not_false_eq_true, forall_const, implies_true, false_implies, ne_eq, eq_self, if_true, if_false, Nat.zero_add, Nat.add_zero, Nat.mul_zero, Nat.zero_mul, Nat.mul_one, Nat.one_mul, Nat.add_sub_cancel, Nat.reduceEqDiff, Nat.reduceAdd, Nat.reduceMul, Nat.reduceSub, Nat.reduceLeDiff, Nat.reduceLT, Nat.reduceDiv, Nat.reduceMod, my.c274, q1]
    refine m_load my.f (by omega) (by omega) ?_
    refine m_bears my.f wy (by omega) ?_
    by_cases q2 : ld s'.1 h (g + 1) < nI (brN s'.1 h)
    · rw [if_neg (fun u => u.2 q2)] at next
      simp (disch := first | assumption | omega) only [prv_n, nxt_n, q_sw, mc4, mc6, mc8, mc20, mc24, mc100, nv_rd, nb_rd, wr_rd, nI_lit, nI_add, pk_mul, pk_sub, q_div, cl_nI, vpi, q_eq, q_le, q_lt, n1_eq, n1_eq', n1_le, n1_lt, n1_ge, n1_gt, i_0m1, nlt_t, nlt_f, nle_t, nle_f, neq_f, f_below, f_within, f_isCorner, f_isIn, f_isCornerM, f_isStreet, f_isHouse, f_isCrew, f_isRow, f_has10, f_has0, jx_I, jx_N, jx_m1, jr_I, jr_N1, jr_N2, wr_2, isB_0, isB_1, true_and, and_true, and_self, false_and, and_false, true_or, or_true, false_or, or_false, not_true_eq_false, not_false_eq_true, forall_const, implies_true, false_implies, ne_eq, eq_self, if_true, if_false, Nat.zero_add, Nat.add_zero, Nat.mul_zero, Nat.zero_mul, Nat.mul_one, Nat.one_mul, Nat.add_sub_cancel, Nat.reduceEqDiff, Nat.reduceAdd, Nat.reduceMul, Nat.reduceSub, Nat.reduceLeDiff, Nat.reduceLT, Nat.reduceDiv, Nat.reduceMod, q2, dn]
      exact next y my (fun _ _ => rfl) rfl
    · rw [if_pos ⟨q1, q2⟩] at next
      simp (disch := first | assumption | omega) only [prv_n, nxt_n, q_sw, mc4, mc6, mc8, mc20, mc24, mc100, nv_rd, nb_rd, wr_rd, nI_lit, nI_add, pk_mul, pk_sub, q_div, cl_nI, vpi, q_eq, q_le, q_lt, n1_eq, n1_eq', n1_le, n1_lt, n1_ge, n1_gt, i_0m1, nlt_t, nlt_f, nle_t, nle_f, neq_f, f_below, f_within, f_isCorner, f_isIn, f_isCornerM, f_isStreet, f_isHouse, f_isCrew, f_isRow, f_has10, f_has0, jx_I, jx_N, jx_m1, jr_I, jr_N1, jr_N2, wr_2, isB_0, isB_1, true_and, and_true, and_self, false_and, and_false, true_or, or_true, false_or, or_false, not_true_eq_false, not_false_eq_true, forall_const, implies_true, false_implies, ne_eq, eq_self, if_true, if_false, Nat.zero_add, Nat.add_zero, Nat.mul_zero, Nat.zero_mul, Nat.mul_one, Nat.one_mul, Nat.add_sub_cancel, Nat.reduceEqDiff, Nat.reduceAdd, Nat.reduceMul, Nat.reduceSub, Nat.reduceLeDiff, Nat.reduceLT, Nat.reduceDiv, Nat.reduceMod, q2]
      refine m_falls my wy (by rw [fk.ns]; exact b58) (by rw [fk.ns, fk.2.1]; exact v58) (by omega) (by omega) (fun z tz z1 z2 => ?_)
      rw [dn]
      exact next z tz z1 z2
  · rw [if_neg (fun u => q1 u.1)] at next
    simp (disch := first | assumption | omega) only [prv_n, nxt_n, q_sw, mc4, mc6, mc8, mc20, mc24, mc100, nv_rd, nb_rd, wr_rd, nI_lit, nI_add, pk_mul, pk_sub, q_div, cl_nI, vpi, q_eq, q_le, q_lt, n1_eq, n1_eq', n1_le, n1_lt, n1_ge, n1_gt, i_0m1, nlt_t, nlt_f, nle_t, nle_f, neq_f, f_below, f_within, f_isCorner, f_isIn, f_isCornerM, f_isStreet, f_isHouse, f_isCrew, f_isRow, f_has10, f_has0, jx_I, jx_N, jx_m1, jr_I, jr_N1, jr_N2, wr_2, isB_0, isB_1, true_and, and_true, and_self, false_and, and_false, true_or, or_true, false_or, or_false, not_true_eq_false, not_false_eq_true, forall_const, implies_true, false_implies, ne_eq, eq_self, if_true, if_false, Nat.zero_add, Nat.add_zero, Nat.mul_zero, Nat.zero_mul, Nat.mul_one, Nat.one_mul, Nat.add_sub_cancel, Nat.reduceEqDiff, Nat.reduceAdd, Nat.reduceMul, Nat.reduceSub, Nat.reduceLeDiff, Nat.reduceLT, Nat.reduceDiv, Nat.reduceMod, my.c274, q1, dn]
    exact next y my (fun _ _ => rfl) rfl
theorem m_fallsA {V : Int32} {x s : ab_X} (m : keepM s.1 x.1) (w : TW s.1) (b58 : nv s.1 246 58 ≤ 16) (v58 : s.1 246 58 = nI (nv s.1 246 58)) {K : ab_X → Prop} (k : ∀ z : ab_X, keepM (flA V (nv s.1 246 31) 0 s).1 z.1 → (∀ c, ¬ kM c → z.1 c = x.1 c) → z.2 = x.2 → Lp2 (lX12_burn_324 V K) 0 z) : Lp2 (lX12_burn_254 V K) 0 x := by
  have b := w.b
  refine Lp2.ind (fun i a y => ∃ h, ∃ s' : ab_X, h ≤ nv s.1 246 31 ∧ i = nv s.1 246 31 - h ∧ a = nI h ∧ keepM s'.1 y.1 ∧ TW s'.1 ∧ flK s s' ∧ flA V (nv s.1 246 31 - h) h s' = flA V (nv s.1 246 31) 0 s ∧ (∀ c, ¬ kM c → y.1 c = x.1 c) ∧ y.2 = x.2) (nv s.1 246 31) ⟨0, s, by omega, by omega, rfl, m, w, flK.rfl', rfl, fun _ _ => rfl, rfl⟩ ?_
  rintro ii a y ⟨h, s', hh, hii, rfl, my, wy, fk, ea, y1, y2⟩ L hL
  have n' : nv s'.1 246 31 = nv s.1 246 31 := fk.ns
  have y31 : y.1 246 31 = nI (nv s.1 246 31) := by rw [my.s31, ← n']; exact wy.v
  unfold lX12_burn_254
  by_cases e : h = nv s.1 246 31
  · rw [e, Nat.sub_self] at ea
    have ea' : s' = flA V (nv s.1 246 31) 0 s := ea
    rw [ea'] at my
    rw [e]
    simp (disch := first | assumption | omega) only [prv_n, nxt_n, q_sw, mc4, mc6, mc8, mc20, mc24, mc100, nv_rd, nb_rd, wr_rd, nI_lit, nI_add, pk_mul, pk_sub, q_div, cl_nI, vpi, q_eq, q_le, q_lt, n1_eq, n1_eq', n1_le, n1_lt, n1_ge, n1_gt, i_0m1, nlt_t, nlt_f, nle_t, nle_f, neq_f, f_below, f_within, f_isCorner, f_isIn, f_isCornerM, f_isStreet, f_isHouse, f_isCrew, f_isRow, f_has10, f_has0, jx_I, jx_N, jx_m1, jr_I, jr_N1, jr_N2, wr_2, isB_0, isB_1, true_and, and_true, and_self, false_and, and_false, true_or, or_true, false_or, or_false, not_true_eq_false, not_false_eq_true, forall_const, implies_true, false_implies, ne_eq, eq_self, if_true, if_false, Nat.zero_add, Nat.add_zero, Nat.mul_zero, Nat.zero_mul, Nat.mul_one, Nat.one_mul, Nat.add_sub_cancel, Nat.reduceEqDiff, Nat.reduceAdd, Nat.reduceMul, Nat.reduceSub, Nat.reduceLeDiff, Nat.reduceLT, Nat.reduceDiv, Nat.reduceMod, y31]
    exact k y my y1 y2
  have w3 := (wy.2.1.1 h (by omega)).2.2.1
  have w4 := (wy.2.1.1 h (by omega)).2.2.2.1
  have f6 := w3.2
  simp (disch := first | assumption | omega) only [prv_n, nxt_n, q_sw, mc4, mc6, mc8, mc20, mc24, mc100, nv_rd, nb_rd, wr_rd, nI_lit, nI_add, pk_mul, pk_sub, q_div, cl_nI, vpi, q_eq, q_le, q_lt, n1_eq, n1_eq', n1_le, n1_lt, n1_ge, n1_gt, i_0m1, nlt_t, nlt_f, nle_t, nle_f, neq_f, f_below, f_within, f_isCorner, f_isIn, f_isCornerM, f_isStreet, f_isHouse, f_isCrew, f_isRow, f_has10, f_has0, jx_I, jx_N, jx_m1, jr_I, jr_N1, jr_N2, wr_2, isB_0, isB_1, true_and, and_true, and_self, false_and, and_false, true_or, or_true, false_or, or_false, not_true_eq_false, not_false_eq_true, forall_const, implies_true, false_implies, ne_eq, eq_self, if_true, if_false, Nat.zero_add, Nat.add_zero, Nat.mul_zero, Nat.zero_mul, Nat.mul_one, Nat.one_mul, Nat.add_sub_cancel, Nat.reduceEqDiff, Nat.reduceAdd, Nat.reduceMul, Nat.reduceSub, Nat.reduceLeDiff, Nat.reduceLT, Nat.reduceDiv, Nat.reduceMod, y31, my.c256, w3.1]
  refine m_fallsH (nv s'.1 256 h - 1) my wy (by rw [fk.ns]; exact b58) (by rw [fk.ns, fk.2.1]; exact v58) (by omega) (by omega) (fun z tz z1 z2 => ?_)
  refine hL (nv s.1 246 31 - (h + 1)) _ _ (by omega) ⟨h + 1, flD V h (nv s'.1 256 h - 1) s', by omega, rfl, rfl, tz, flD_tw _ _ wy (by omega) (by omega), fk.tr (flD_k _ _), ?_, fun c h1 => (z1 c h1).trans (y1 c h1), z2.trans y2⟩
  rw [← ea]
  obtain ⟨m, hm⟩ : ∃ m, nv s.1 246 31 - h = m + 1 := ⟨nv s.1 246 31 - h - 1, by omega⟩
  rw [hm, show nv s.1 246 31 - (h + 1) = m by omega]
  rfl
