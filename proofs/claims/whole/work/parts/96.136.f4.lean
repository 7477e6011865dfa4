/-! street: the walks with one street more -/
def Dn (D : Nat → Nat → Nat) (f t m a b : Nat) : Nat := min (D a b) (min (D a f + m + D t b) (D a t + m + D f b))
def Mt (D : Nat → Nat → Nat) : Prop := (∀ a, a < 20 → D a a = 0) ∧ (∀ a b, a < 20 → b < 20 → D a b = D b a) ∧ (∀ a b c, a < 20 → b < 20 → c < 20 → D a c ≤ D a b + D b c)
theorem Dn_sym (D : Nat → Nat → Nat) (f t m a b : Nat) : Dn D f t m a b = Dn D t f m a b := by unfold Dn; omega
theorem Dn_le (D : Nat → Nat → Nat) (f t m a b : Nat) : Dn D f t m a b ≤ D a b := by unfold Dn; omega
theorem Dn_mt {D : Nat → Nat → Nat} {f t m : Nat} (h : Mt D) (hf : f < 20) (ht : t < 20) : Mt (Dn D f t m) ∧ Dn D f t m f t ≤ m ∧ Dn D f t m t f ≤ m := by
  obtain ⟨h1, h2, h3⟩ := h
  have z1 := h1 f hf
  have z2 := h1 t ht
  refine ⟨⟨fun a ha => ?_, fun a b ha hb => ?_, fun a b c ha hb hc => ?_⟩, ?_, ?_⟩
  · have := h1 a ha
    unfold Dn; omega
  · have e1 := h2 a b ha hb
    have e2 := h2 a f ha hf
    have e3 := h2 t b ht hb
    have e4 := h2 a t ha ht
    have e5 := h2 f b hf hb
    unfold Dn; omega
  · have e1 := h3 a b c ha hb hc
    have e2 := h3 a b f ha hb hf
    have e3 := h3 a b t ha hb ht
    have e4 := h3 t b c ht hb hc
    have e5 := h3 f b c hf hb hc
    have e6 := h3 a f c ha hf hc
    have e7 := h3 a t c ha ht hc
    have s1 := h2 t b ht hb
    have s2 := h2 f b hf hb
    unfold Dn; omega
  · unfold Dn; omega
  · unfold Dn; omega
/-- the program: a table between the new and the old walks, one place more -/
theorem Dn_step {D W : Nat → Nat → Nat} {f t m a b : Nat} (h : Mt D) (hf : f < 20) (ht : t < 20) (ha : a < 20) (hb : b < 20) (lo : ∀ a b, a < 20 → b < 20 → Dn D f t m a b ≤ W a b) (hi : ∀ a b, a < 20 → b < 20 → W a b ≤ D a b) : min (W a b) (min (W a f + m + W t b) (W a t + m + W f b)) = Dn D f t m a b := by
  obtain ⟨⟨d1, d2, d3⟩, d4, d5⟩ := Dn_mt (m := m) h hf ht
  have l1 := lo a b ha hb
  have l2 := lo a f ha hf
  have l3 := lo t b ht hb
  have l4 := lo a t ha ht
  have l5 := lo f b hf hb
  have u1 := hi a b ha hb
  have u2 := hi a f ha hf
  have u3 := hi t b ht hb
  have u4 := hi a t ha ht
  have u5 := hi f b hf hb
  have t1 := d3 a f b ha hf hb
  have t2 := d3 f t b hf ht hb
  have t3 := d3 a t b ha ht hb
  have t4 := d3 t f b ht hf hb
  have e : Dn D f t m a b = min (D a b) (min (D a f + m + D t b) (D a t + m + D f b)) := rfl
  omega
def Pc (k0 k a b a' b' : Nat) : Prop := k0 < k ∨ (k0 = k ∧ (a' < a ∨ (a' = a ∧ b' < b)))
/-- the reference: what its table keeps, pass by pass -/
def Fw (D W : Nat → Nat → Nat) (f t m k a b : Nat) : Prop := (∀ a b, a < 20 → b < 20 → Dn D f t m a b ≤ W a b ∧ W a b ≤ D a b) ∧ W f t ≤ m ∧ W t f ≤ m ∧ (∀ a', a' < 20 → Pc f k a b a' t → W a' t ≤ D a' f + m) ∧ (∀ b', b' < 20 → Pc f k a b t b' → W t b' ≤ m + D f b') ∧ (∀ a' b', a' < 20 → b' < 20 → Pc t k a b a' b' → W a' b' ≤ Dn D f t m a' b')
theorem Fw_step {D W W' : Nat → Nat → Nat} {f t m k a b : Nat} (h : Mt D) (hft : f < t) (ht : t < 20) (hk : k < 20) (ha : a < 20) (hb : b < 20) (F : Fw D W f t m k a b) (e1 : W' a b = min (W a b) (W a k + W k b)) (e2 : ∀ a' b', a' ≠ a ∨ b' ≠ b → W' a' b' = W a' b') : Fw D W' f t m k a (b + 1) := by
  obtain ⟨F1, F2, F3, F4, F5, F6⟩ := F
  obtain ⟨⟨d1, d2, d3⟩, d4, d5⟩ := Dn_mt (m := m) h (show f < 20 by omega) ht
  have le : ∀ a' b', W' a' b' ≤ W a' b' := by
    intro a' b'
    by_cases e : a' = a ∧ b' = b
    · rw [e.1, e.2, e1]; omega
    · rw [e2 a' b' (by omega)]; exact Nat.le_refl _
  refine ⟨fun a' b' ha' hb' => ?_, Nat.le_trans (le f t) F2, Nat.le_trans (le t f) F3, fun a' ha' p => ?_, fun b' hb' p => ?_, fun a' b' ha' hb' p => ?_⟩
  · refine ⟨?_, Nat.le_trans (le a' b') (F1 a' b' ha' hb').2⟩
    by_cases e : a' = a ∧ b' = b
    · rw [e.1, e.2, e1]
      have t1 := d3 a k b ha hk hb
      have l1 := (F1 a b ha hb).1
      have l2 := (F1 a k ha hk).1
      have l3 := (F1 k b hk hb).1
      omega
    · rw [e2 a' b' (by omega)]; exact (F1 a' b' ha' hb').1
  · by_cases e : f = k ∧ a' = a ∧ t = b
    · obtain ⟨g1, g2, g3⟩ := e
      rw [g2, g3, e1]
      have u1 := (F1 a k ha hk).2
      rw [← g3, ← g1] at *
      omega
    · refine Nat.le_trans (le a' t) (F4 a' ha' ?_)
      unfold Pc at p ⊢
      omega
  · by_cases e : f = k ∧ t = a ∧ b' = b
    · obtain ⟨g1, g2, g3⟩ := e
      rw [g2, g3, e1]
      have u1 := (F1 k b hk hb).2
      rw [← g2, ← g1] at *
      omega
    · refine Nat.le_trans (le t b') (F5 b' hb' ?_)
      unfold Pc at p ⊢
      omega
  · by_cases e : t = k ∧ a' = a ∧ b' = b
    · obtain ⟨g1, g2, g3⟩ := e
      rw [g2, g3, e1]
      have u1 := (F1 a b ha hb).2
      have u2 := (F1 a t ha ht).2
      have u3 := (F1 t b ht hb).2
      have u4 := F4 a ha (by unfold Pc; omega)
      have u5 := F5 b hb (by unfold Pc; omega)
      have e : Dn D f t m a b = min (D a b) (min (D a f + m + D t b) (D a t + m + D f b)) := rfl
      rw [← g1]
      omega
    · refine Nat.le_trans (le a' b') (F6 a' b' ha' hb' ?_)
      unfold Pc at p ⊢
      omega
theorem Fw_row {D W : Nat → Nat → Nat} {f t m k a : Nat} (ht : t < 20) (F : Fw D W f t m k a 20) : Fw D W f t m k (a + 1) 0 := by
  obtain ⟨F1, F2, F3, F4, F5, F6⟩ := F
  exact ⟨F1, F2, F3, fun a' ha' p => F4 a' ha' (by unfold Pc at p ⊢; omega), fun b' hb' p => F5 b' hb' (by unfold Pc at p ⊢; omega), fun a' b' ha' hb' p => F6 a' b' ha' hb' (by unfold Pc at p ⊢; omega)⟩
theorem Fw_pass {D W : Nat → Nat → Nat} {f t m k : Nat} (ht : t < 20) (F : Fw D W f t m k 20 0) : Fw D W f t m (k + 1) 0 0 := by
  obtain ⟨F1, F2, F3, F4, F5, F6⟩ := F
  exact ⟨F1, F2, F3, fun a' ha' p => F4 a' ha' (by unfold Pc at p ⊢; omega), fun b' hb' p => F5 b' hb' (by unfold Pc at p ⊢; omega), fun a' b' ha' hb' p => F6 a' b' ha' hb' (by unfold Pc at p ⊢; omega)⟩
theorem Fw_end {D W : Nat → Nat → Nat} {f t m : Nat} (ht : t < 20) (F : Fw D W f t m 20 0 0) {a b : Nat} (ha : a < 20) (hb : b < 20) : W a b = Dn D f t m a b := by
  have l := (F.1 a b ha hb).1
  have u := F.2.2.2.2.2 a b ha hb (Or.inl ht)
  omega
/-- the table of the walks in a state -/
def Wt (c : Nat) (y : ab_X) (W : Nat → Nat → Nat) : Prop := ∀ a b, a < 20 → b < 20 → y.1 c (20 * a + b) = nI (W a b)
theorem Wt_put {c : Nat} {y : ab_X} {W : Nat → Nat → Nat} {a b v : Nat} (h : Wt c y W) (ha : a < 20) (hb : b < 20) : Wt c (wr y c (20 * a + b) (nI v)) (fun a' b' => if a' = a ∧ b' = b then v else W a' b') := by
  intro a' b' ha' hb'
  by_cases e : a' = a ∧ b' = b
  · rw [e.1, e.2, wr_e]; simp
  · rw [wr_k (by omega), h a' b' ha' hb']; simp [e]
/-- the reference's three loops -/
theorem m_fw {x : ab_X} {D W0 : Nat → Nat → Nat} {f t m n : Nat} (h : Mt D) (hD : ∀ a b, a < 20 → b < 20 → D a b ≤ 1000000) (hft : f < t) (ht : t < 20) (w0 : Wt 251 x W0) (F0 : Fw D W0 f t m 0 0 0) (h9 : x.1 246 9 = nI (n + 1)) (hn : n < 40) {K : Int32 → ab_X → Prop} (k : ∀ y : ab_X, (∀ c, c ≠ 251 → y.1 c = x.1 c) → y.2 = x.2 → (∀ j, 400 ≤ j → y.1 251 j = x.1 251 j) → Wt 251 y (Dn D f t m) → K (nI n) y) : Lp2 (lX12_street_167 K) 0 x := by
  refine Lp2.ind (fun i b y => ∃ s, s ≤ 20 ∧ i = 20 - s ∧ b = nI s ∧ (∀ c, c ≠ 251 → y.1 c = x.1 c) ∧ y.2 = x.2 ∧ (∀ j, 400 ≤ j → y.1 251 j = x.1 251 j) ∧ ∃ W, Wt 251 y W ∧ Fw D W f t m s 0 0) 20 ⟨0, by omega, by omega, rfl, fun _ _ => rfl, rfl, fun _ _ => rfl, W0, w0, F0⟩ ?_
  rintro i b y ⟨s, hs, rfl, rfl, g1, g2, g3, W, gw, gF⟩ L hL
  unfold lX12_street_167
  by_cases e : s = 20
  · subst e
    have y9 : y.1 246 9 = nI (n + 1) := by rw [g1 246 (by decide), h9]
    simp (disch := first | assumption | omega) only [prv_n, nxt_n, q_sw, mc4, mc6, mc8, mc20, mc24, mc100, nv_rd, nb_rd, wr_rd, nI_lit, nI_add, pk_mul, pk_sub, q_div, cl_nI, vpi, q_eq, q_le, q_lt, n1_eq, n1_eq', n1_le, n1_lt, n1_ge, n1_gt, i_0m1, nlt_t, nlt_f, nle_t, nle_f, neq_f, f_below, f_within, f_isCorner, f_isIn, f_isCornerM, f_isStreet, f_isHouse, f_isCrew, f_isRow, f_has10, f_has0, jx_I, jx_N, jx_m1, jr_I, jr_N1, jr_N2, wr_2, isB_0, isB_1, true_and, and_true, and_self, false_and, and_false, true_or, or_true, false_or, or_false, not_true_eq_false, not_false_eq_true, forall_const, implies_true, false_implies, ne_eq, eq_self, if_true, if_false, Nat.zero_add, Nat.add_zero, Nat.mul_zero, Nat.zero_mul, Nat.mul_one, Nat.one_mul, Nat.add_sub_cancel, Nat.reduceEqDiff, Nat.reduceAdd, Nat.reduceMul, Nat.reduceSub, Nat.reduceLeDiff, Nat.reduceLT, Nat.reduceDiv, Nat.reduceMod, y9]
    exact k y g1 g2 g3 (fun a b ha hb => by rw [gw a b ha hb, Fw_end ht gF ha hb])
  simp (disch := first | assumption | omega) only [prv_n, nxt_n, q_sw, mc4, mc6, mc8, mc20, mc24, mc100, nv_rd, nb_rd, wr_rd, nI_lit, nI_add, pk_mul, pk_sub, q_div, cl_nI, vpi, q_eq, q_le, q_lt, n1_eq, n1_eq', n1_le, n1_lt, n1_ge, n1_gt, i_0m1, nlt_t, nlt_f, nle_t, nle_f, neq_f, f_below, f_within, f_isCorner, f_isIn, f_isCornerM, f_isStreet, f_isHouse, f_isCrew, f_isRow, f_has10, f_has0, jx_I, jx_N, jx_m1, jr_I, jr_N1, jr_N2, wr_2, isB_0, isB_1, true_and, and_true, and_self, false_and, and_false, true_or, or_true, false_or, or_false, not_true_eq_false, not_false_eq_true, forall_const, implies_true, false_implies, ne_eq, eq_self, if_true, if_false, Nat.zero_add, Nat.add_zero, Nat.mul_zero, Nat.zero_mul, Nat.mul_one, Nat.one_mul, Nat.add_sub_cancel, Nat.reduceEqDiff, Nat.reduceAdd, Nat.reduceMul, Nat.reduceSub, Nat.reduceLeDiff, Nat.reduceLT, Nat.reduceDiv, Nat.reduceMod]
  refine Lp2.ind (fun i b z => ∃ a, a ≤ 20 ∧ i = 20 - a ∧ b = nI a ∧ (∀ c, c ≠ 251 → z.1 c = x.1 c) ∧ z.2 = x.2 ∧ (∀ j, 400 ≤ j → z.1 251 j = x.1 251 j) ∧ ∃ W, Wt 251 z W ∧ Fw D W f t m s a 0) 20 ⟨0, by omega, by omega, rfl, g1, g2, g3, W, gw, gF⟩ ?_
  clear gw gF
  rintro i b z ⟨a, hs, rfl, rfl, g1, g2, g3, W, gw, gF⟩ L2 hL2
  unfold lX12_street_177
  by_cases e2 : a = 20
  · subst e2
    simp (disch := first | assumption | omega) only [prv_n, nxt_n, q_sw, mc4, mc6, mc8, mc20, mc24, mc100, nv_rd, nb_rd, wr_rd, nI_lit, nI_add, pk_mul, pk_sub, q_div, cl_nI, vpi, q_eq, q_le, q_lt, n1_eq, n1_eq', n1_le, n1_lt, n1_ge, n1_gt, i_0m1, nlt_t, nlt_f, nle_t, nle_f, neq_f, f_below, f_within, f_isCorner, f_isIn, f_isCornerM, f_isStreet, f_isHouse, f_isCrew, f_isRow, f_has10, f_has0, jx_I, jx_N, jx_m1, jr_I, jr_N1, jr_N2, wr_2, isB_0, isB_1, true_and, and_true, and_self, false_and, and_false, true_or, or_true, false_or, or_false, not_true_eq_false, not_false_eq_true, forall_const, implies_true, false_implies, ne_eq, eq_self, if_true, if_false, Nat.zero_add, Nat.add_zero, Nat.mul_zero, Nat.zero_mul, Nat.mul_one, Nat.one_mul, Nat.add_sub_cancel, Nat.reduceEqDiff, Nat.reduceAdd, Nat.reduceMul, Nat.reduceSub, Nat.reduceLeDiff, Nat.reduceLT, Nat.reduceDiv, Nat.reduceMod]
    exact hL _ _ _ (by omega) ⟨s + 1, by omega, rfl, rfl, g1, g2, g3, W, gw, Fw_pass ht gF⟩
  simp (disch := first | assumption | omega) only [prv_n, nxt_n, q_sw, mc4, mc6, mc8, mc20, mc24, mc100, nv_rd, nb_rd, wr_rd, nI_lit, nI_add, pk_mul, pk_sub, q_div, cl_nI, vpi, q_eq, q_le, q_lt, n1_eq, n1_eq', n1_le, n1_lt, n1_ge, n1_gt, i_0m1, nlt_t, nlt_f, nle_t, nle_f, neq_f, f_below, f_within, f_isCorner, f_isIn, f_isCornerM, f_isStreet, f_isHouse, f_isCrew, f_isRow, f_has10, f_has0, jx_I, jx_N, jx_m1, jr_I, jr_N1, jr_N2, wr_2, isB_0, isB_1, true_and, and_true, and_self, false_and, and_false, true_or, or_true, false_or, or_false, not_true_eq_false, not_false_eq_true, forall_const, implies_true, false_implies, ne_eq, eq_self, if_true, if_false, Nat.zero_add, Nat.add_zero, Nat.mul_zero, Nat.zero_mul, Nat.mul_one, Nat.one_mul, Nat.add_sub_cancel, Nat.reduceEqDiff, Nat.reduceAdd, Nat.reduceMul, Nat.reduceSub, Nat.reduceLeDiff, Nat.reduceLT, Nat.reduceDiv, Nat.reduceMod]
  refine Lp2.ind (fun i b z => ∃ c, c ≤ 20 ∧ i = 20 - c ∧ b = nI c ∧ (∀ c, c ≠ 251 → z.1 c = x.1 c) ∧ z.2 = x.2 ∧ (∀ j, 400 ≤ j → z.1 251 j = x.1 251 j) ∧ ∃ W, Wt 251 z W ∧ Fw D W f t m s a c) 20 ⟨0, by omega, by omega, rfl, g1, g2, g3, W, gw, gF⟩ ?_
  clear gw gF
  rintro i b z ⟨c, hs, rfl, rfl, g1, g2, g3, W, gw, gF⟩ L3 hL3
  unfold lX12_street_187
  by_cases e3 : c = 20
  · subst e3
    simp (disch := first | assumption | omega) only [prv_n, nxt_n, q_sw, mc4, mc6, mc8, mc20, mc24, mc100, nv_rd, nb_rd, wr_rd, nI_lit, nI_add, pk_mul, pk_sub, q_div, cl_nI, vpi, q_eq, q_le, q_lt, n1_eq, n1_eq', n1_le, n1_lt, n1_ge, n1_gt, i_0m1, nlt_t, nlt_f, nle_t, nle_f, neq_f, f_below, f_within, f_isCorner, f_isIn, f_isCornerM, f_isStreet, f_isHouse, f_isCrew, f_isRow, f_has10, f_has0, jx_I, jx_N, jx_m1, jr_I, jr_N1, jr_N2, wr_2, isB_0, isB_1, true_and, and_true, and_self, false_and, and_false, true_or, or_true, false_or, or_false, not_true_eq_false, not_false_eq_true, forall_const, implies_true, false_implies, ne_eq, eq_self, if_true, if_false, Nat.zero_add, Nat.add_zero, Nat.mul_zero, Nat.zero_mul, Nat.mul_one, Nat.one_mul, Nat.add_sub_cancel, Nat.reduceEqDiff, Nat.reduceAdd, Nat.reduceMul, Nat.reduceSub, Nat.reduceLeDiff, Nat.reduceLT, Nat.reduceDiv, Nat.reduceMod]
    exact hL2 _ _ _ (by omega) ⟨a + 1, by omega, rfl, rfl, g1, g2, g3, W, gw, Fw_row ht gF⟩
  have p1 := gw a c (by omega) (by omega)
  have p2 := gw a s (by omega) (by omega)
  have p3 := gw s c (by omega) (by omega)
  have q1 := Nat.le_trans (gF.1 a c (by omega) (by omega)).2 (hD a c (by omega) (by omega))
  have q2 := Nat.le_trans (gF.1 a s (by omega) (by omega)).2 (hD a s (by omega) (by omega))
  have q3 := Nat.le_trans (gF.1 s c (by omega) (by omega)).2 (hD s c (by omega) (by omega))
  simp (disch := first | assumption | omega) only [prv_n, nxt_n, q_sw, mc4, mc6, mc8, mc20, mc24, mc100, nv_rd, nb_rd, wr_rd, nI_lit, nI_add, pk_mul, pk_sub, q_div, cl_nI, vpi, q_eq, q_le, q_lt, n1_eq, n1_eq', n1_le, n1_lt, n1_ge, n1_gt, i_0m1, nlt_t, nlt_f, nle_t, nle_f, neq_f, f_below, f_within, f_isCorner, f_isIn, f_isCornerM, f_isStreet, f_isHouse, f_isCrew, f_isRow, f_has10, f_has0, jx_I, jx_N, jx_m1, jr_I, jr_N1, jr_N2, wr_2, isB_0, isB_1, true_and, and_true, and_self, false_and, and_false, true_or, or_true, false_or, or_false, not_true_eq_false, not_false_eq_true, forall_const, implies_true, false_implies, ne_eq, eq_self, if_true, if_false, Nat.zero_add, Nat.add_zero, Nat.mul_zero, Nat.zero_mul, Nat.mul_one, Nat.one_mul, Nat.add_sub_cancel, Nat.reduceEqDiff, Nat.reduceAdd, Nat.reduceMul, Nat.reduceSub, Nat.reduceLeDiff, Nat.reduceLT, Nat.reduceDiv, Nat.reduceMod, p1, p2, p3, imin_I]
  refine hL3 _ _ _ (by omega) ⟨c + 1, by omega, rfl, rfl, fun d hd => by rw [wr_n hd]; exact g1 d hd, g2, fun j hj => by rw [wr_k (by omega)]; exact g3 j hj, _, Wt_put gw (by omega) (by omega), Fw_step h hft ht (by omega) (by omega) (by omega) gF (by simp) (fun a' b' q => if_neg (by omega))⟩
/-- the program's two loops -/
theorem c_sh {x : ab_X} {D : Nat → Nat → Nat} {f t m : Nat} (h : Mt D) (hD : ∀ a b, a < 20 → b < 20 → D a b ≤ 1000000) (hf : f < 20) (ht : t < 20) (hm : m ≤ 20) (w0 : Wt 7 x D) {K : ab_X → Prop} (k : ∀ y : ab_X, (∀ c, c ≠ 7 → y.1 c = x.1 c) → y.2 = x.2 → Wt 7 y (Dn D f t m) → K y) : wX6_shorten (nI f) (nI t) (nI m) x K := by
  unfold wX6_shorten
  refine Lp2.ind (fun i b y => ∃ s, s ≤ 20 ∧ i = 20 - s ∧ b = nI s ∧ (∀ c, c ≠ 7 → y.1 c = x.1 c) ∧ y.2 = x.2 ∧ ∃ W, Wt 7 y W ∧ (∀ a b, a < 20 → b < 20 → Dn D f t m a b ≤ W a b ∧ W a b ≤ D a b) ∧ ∀ a b, a < s → b < 20 → W a b = Dn D f t m a b) 20 ⟨0, by omega, by omega, rfl, fun _ _ => rfl, rfl, D, w0, fun a b ha hb => ⟨Dn_le D f t m a b, Nat.le_refl _⟩, fun a b ha => by omega⟩ ?_
  rintro i b y ⟨s, hs, rfl, rfl, g1, g2, W, gw, gB, gE⟩ L hL
  unfold lX6_shorten_3
  by_cases e : s = 20
  · subst e
    simp (disch := first | assumption | omega) only [prv_n, nxt_n, q_sw, mc4, mc6, mc8, mc20, mc24, mc100, nv_rd, nb_rd, wr_rd, nI_lit, nI_add, pk_mul, pk_sub, q_div, cl_nI, vpi, q_eq, q_le, q_lt, n1_eq, n1_eq', n1_le, n1_lt, n1_ge, n1_gt, i_0m1, nlt_t, nlt_f, nle_t, nle_f, neq_f, f_below, f_within, f_isCorner, f_isIn, f_isCornerM, f_isStreet, f_isHouse, f_isCrew, f_isRow, f_has10, f_has0, jx_I, jx_N, jx_m1, jr_I, jr_N1, jr_N2, wr_2, isB_0, isB_1, true_and, and_true, and_self, false_and, and_false, true_or, or_true, false_or, or_false, not_true_eq_false, not_false_eq_true, forall_const, implies_true, false_implies, ne_eq, eq_self, if_true, if_false, Nat.zero_add, Nat.add_zero, Nat.mul_zero, Nat.zero_mul, Nat.mul_one, Nat.one_mul, Nat.add_sub_cancel, Nat.reduceEqDiff, Nat.reduceAdd, Nat.reduceMul, Nat.reduceSub, Nat.reduceLeDiff, Nat.reduceLT, Nat.reduceDiv, Nat.reduceMod]
    exact k y g1 g2 (fun a b ha hb => by rw [gw a b ha hb, gE a b ha hb])
  simp (disch := first | assumption | omega) only [prv_n, nxt_n, q_sw, mc4, mc6, mc8, mc20, mc24, mc100, nv_rd, nb_rd, wr_rd, nI_lit, nI_add, pk_mul, pk_sub, q_div, cl_nI, vpi, q_eq, q_le, q_lt, n1_eq, n1_eq', n1_le, n1_lt, n1_ge, n1_gt, i_0m1, nlt_t, nlt_f, nle_t, nle_f, neq_f, f_below, f_within, f_isCorner, f_isIn, f_isCornerM, f_isStreet, f_isHouse, f_isCrew, f_isRow, f_has10, f_has0, jx_I, jx_N, jx_m1, jr_I, jr_N1, jr_N2, wr_2, isB_0, isB_1, true_and, and_true, and_self, false_and, and_false, true_or, or_true, false_or, or_false, not_true_eq_false, not_false_eq_true, forall_const, implies_true, false_implies, ne_eq, eq_self, if_true, if_false, Nat.zero_add, Nat.add_zero, Nat.mul_zero, Nat.zero_mul, Nat.mul_one, Nat.one_mul, Nat.add_sub_cancel, Nat.reduceEqDiff, Nat.reduceAdd, Nat.reduceMul, Nat.reduceSub, Nat.reduceLeDiff, Nat.reduceLT, Nat.reduceDiv, Nat.reduceMod]
  refine Lp2.ind (fun i b z => ∃ c, c ≤ 20 ∧ i = 20 - c ∧ b = nI c ∧ (∀ c, c ≠ 7 → z.1 c = x.1 c) ∧ z.2 = x.2 ∧ ∃ W, Wt 7 z W ∧ (∀ a b, a < 20 → b < 20 → Dn D f t m a b ≤ W a b ∧ W a b ≤ D a b) ∧ ∀ a b, a < s ∨ (a = s ∧ b < c) → b < 20 → W a b = Dn D f t m a b) 20 ⟨0, by omega, by omega, rfl, g1, g2, W, gw, gB, fun a b q hb => gE a b (by omega) hb⟩ ?_
  clear gw gB gE
  rintro i b z ⟨c, hs, rfl, rfl, g1, g2, W, gw, gB, gE⟩ L2 hL2
  unfold lX6_shorten_13
  by_cases e2 : c = 20
  · subst e2
    simp (disch := first | assumption | omega) only [prv_n, nxt_n, q_sw, mc4, mc6, mc8, mc20, mc24, mc100, nv_rd, nb_rd, wr_rd, nI_lit, nI_add, pk_mul, pk_sub, q_div, cl_nI, vpi, q_eq, q_le, q_lt, n1_eq, n1_eq', n1_le, n1_lt, n1_ge, n1_gt, i_0m1, nlt_t, nlt_f, nle_t, nle_f, neq_f, f_below, f_within, f_isCorner, f_isIn, f_isCornerM, f_isStreet, f_isHouse, f_isCrew, f_isRow, f_has10, f_has0, jx_I, jx_N, jx_m1, jr_I, jr_N1, jr_N2, wr_2, isB_0, isB_1, true_and, and_true, and_self, false_and, and_false, true_or, or_true, false_or, or_false, not_true_eq_false, not_false_eq_true, forall_const, implies_true, false_implies, ne_eq, eq_self, if_true, if_false, Nat.zero_add, Nat.add_zero, Nat.mul_zero, Nat.zero_mul, Nat.mul_one, Nat.one_mul, Nat.add_sub_cancel, Nat.reduceEqDiff, Nat.reduceAdd, Nat.reduceMul, Nat.reduceSub, Nat.reduceLeDiff, Nat.reduceLT, Nat.reduceDiv, Nat.reduceMod]
    exact hL _ _ _ (by omega) ⟨s + 1, by omega, rfl, rfl, g1, g2, W, gw, gB, fun a b q hb => gE a b (by omega) hb⟩
  have wk : ∀ a b, a < 20 → b < 20 → ∀ K : Int32 → Prop, K (nI (W a b)) → wX6_walk (nI a) (nI b) z K := by
    intro a b ha hb K k
    have p := gw a b ha hb
    unfold wX6_walk
    simp (disch := first | assumption | omega) only [prv_n, nxt_n, q_sw, mc4, mc6, mc8, mc20, mc24, mc100, nv_rd, nb_rd, wr_rd, nI_lit, nI_add, pk_mul, pk_sub, q_div, cl_nI, vpi, q_eq, q_le, q_lt, n1_eq, n1_eq', n1_le, n1_lt, n1_ge, n1_gt, i_0m1, nlt_t, nlt_f, nle_t, nle_f, neq_f, f_below, f_within, f_isCorner, f_isIn, f_isCornerM, f_isStreet, f_isHouse, f_isCrew, f_isRow, f_has10, f_has0, jx_I, jx_N, jx_m1, jr_I, jr_N1, jr_N2, wr_2, isB_0, isB_1, true_and, and_true, and_self, false_and, and_false, true_or, or_true, false_or, or_false, not_true_eq_false, not_false_eq_true, forall_const, implies_true, false_implies, ne_eq, eq_self, if_true, if_false, Nat.zero_add, Nat.add_zero, Nat.mul_zero, Nat.zero_mul, Nat.mul_one, Nat.one_mul, Nat.add_sub_cancel, Nat.reduceEqDiff, Nat.reduceAdd, Nat.reduceMul, Nat.reduceSub, Nat.reduceLeDiff, Nat.reduceLT, Nat.reduceDiv, Nat.reduceMod, p]
    exact k
  have bd : ∀ a b, a < 20 → b < 20 → W a b ≤ 1000000 := fun a b ha hb => Nat.le_trans (gB a b ha hb).2 (hD a b ha hb)
  have b1 := bd s f (by omega) hf
  have b2 := bd t c ht (by omega)
  have b3 := bd s t (by omega) ht
  have b4 := bd f c hf (by omega)
  have b5 := bd s c (by omega) (by omega)
  simp (disch := first | assumption | omega) only [prv_n, nxt_n, q_sw, mc4, mc6, mc8, mc20, mc24, mc100, nv_rd, nb_rd, wr_rd, nI_lit, nI_add, pk_mul, pk_sub, q_div, cl_nI, vpi, q_eq, q_le, q_lt, n1_eq, n1_eq', n1_le, n1_lt, n1_ge, n1_gt, i_0m1, nlt_t, nlt_f, nle_t, nle_f, neq_f, f_below, f_within, f_isCorner, f_isIn, f_isCornerM, f_isStreet, f_isHouse, f_isCrew, f_isRow, f_has10, f_has0, jx_I, jx_N, jx_m1, jr_I, jr_N1, jr_N2, wr_2, isB_0, isB_1, true_and, and_true, and_self, false_and, and_false, true_or, or_true, false_or, or_false, not_true_eq_false, not_false_eq_true, forall_const, implies_true, false_implies, ne_eq, eq_self, if_true, if_false, Nat.zero_add, Nat.add_zero, Nat.mul_zero, Nat.zero_mul, Nat.mul_one, Nat.one_mul, Nat.add_sub_cancel, Nat.reduceEqDiff, Nat.reduceAdd, Nat.reduceMul, Nat.reduceSub, Nat.reduceLeDiff, Nat.reduceLT, Nat.reduceDiv, Nat.reduceMod]
  refine wk s f (by omega) hf _ ?_
  refine wk t c ht (by omega) _ ?_
  refine wk s t (by omega) ht _ ?_
  refine wk f c hf (by omega) _ ?_
  refine wk s c (by omega) (by omega) _ ?_
  simp (disch := first | assumption | omega) only [prv_n, nxt_n, q_sw, mc4, mc6, mc8, mc20, mc24, mc100, nv_rd, nb_rd, wr_rd, nI_lit, nI_add, pk_mul, pk_sub, q_div, cl_nI, vpi, q_eq, q_le, q_lt, n1_eq, n1_eq', n1_le, n1_lt, n1_ge, n1_gt, i_0m1, nlt_t, nlt_f, nle_t, nle_f, neq_f, f_below, f_within, f_isCorner, f_isIn, f_isCornerM, f_isStreet, f_isHouse, f_isCrew, f_isRow, f_has10, f_has0, jx_I, jx_N, jx_m1, jr_I, jr_N1, jr_N2, wr_2, isB_0, isB_1, true_and, and_true, and_self, false_and, and_false, true_or, or_true, false_or, or_false, not_true_eq_false, not_false_eq_true, forall_const, implies_true, false_implies, ne_eq, eq_self, if_true, if_false, Nat.zero_add, Nat.add_zero, Nat.mul_zero, Nat.zero_mul, Nat.mul_one, Nat.one_mul, Nat.add_sub_cancel, Nat.reduceEqDiff, Nat.reduceAdd, Nat.reduceMul, Nat.reduceSub, Nat.reduceLeDiff, Nat.reduceLT, Nat.reduceDiv, Nat.reduceMod, imin_I]
  have st := Dn_step (a := s) (b := c) (m := m) h hf ht (by omega) (by omega) (fun a b ha hb => (gB a b ha hb).1) (fun a b ha hb => (gB a b ha hb).2)
  rw [st]
  refine hL2 _ _ _ (by omega) ⟨c + 1, by omega, rfl, rfl, fun d hd => by rw [wr_n hd]; exact g1 d hd, g2, _, Wt_put gw (by omega) (by omega), fun a b ha hb => ?_, fun a b q hb => ?_⟩
  · by_cases e : a = s ∧ b = c
    · rw [e.1, e.2]; simp [Dn_le]
    · simp only [e, if_false]; exact gB a b ha hb
  · by_cases e : a = s ∧ b = c
    · rw [e.1, e.2]; simp
    · simp only [e, if_false]; exact gE a b (by omega) hb
