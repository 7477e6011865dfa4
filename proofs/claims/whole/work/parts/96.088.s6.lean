/-! A MINUTE, 15: the water is shared, the program. -/
def Rok (s : ab_X) (i : Nat) : AR → Prop
  | none => True
  | some (r, m, a, _) => nv s.1 286 i = 2 ∧ nv s.1 290 i < nv s.1 246 31 ∧ r < nv s.1 256 (nv s.1 290 i) * nv s.1 257 (nv s.1 290 i) ∧ m < nv s.1 246 56 ∧ 5 ≤ a ∧ a ≤ 500
theorem wkN_R {x s : ab_X} (h : Inv2 x s) : ∀ j, j ≤ nv s.1 246 58 → ∀ i, i < j → Rok s i ((wkN s j).2.2 i)
  | 0, _, i, hi => by omega
  | j + 1, hj, i, hi => by
    obtain ⟨w1, w2, w3, w4⟩ := wk1_r (wkN s j) j
    have nj := ((wkN_v s j).1 j (Nat.le_refl _)).1
    have st : wkN s (j + 1) = wk1 (wkN s j) j := rfl
    rw [st]
    by_cases e : i = j
    · subst e
      rw [w2 nj]
      obtain ⟨xa, ia⟩ := wkN_I h i (by omega)
      have q : ∀ d k, d ≠ 262 → d ≠ 272 → d ≠ 291 → d ≠ 295 → nv (wkN s i).1.1 d k = nv s.1 d k := fun d k a b c e => by unfold nv; rw [(wkN_o s i).1 d a b c e]
      rcases aim_d (W := (wkN s i).2.1) (j := i) ia.w (by rw [q 246 58 (by decide) (by decide) (by decide) (by decide)]; omega) with ⟨e0, -⟩ | ⟨r, m, a, fl, e0, c, m1, hr, hm, ha5, ha, -⟩
      · rw [e0]; trivial
      · rw [e0]
        have c1 := c.1
        simp (disch := decide) only [q] at c1 m1 hr hm
        exact ⟨c1, m1, hr, hm, ha5, ha⟩
    · rw [w1 i e]
      exact wkN_R h j (by omega) i (by omega)
theorem asum_le {R : Nat → AR} {m : Nat} {s : ab_X} : ∀ {n}, (∀ i, i < n → Rok s i (R i)) → asum R m n ≤ 500 * n
  | 0, _ => Nat.le_refl _
  | n + 1, h => by
    have := asum_le (R := R) (m := m) (n := n) (fun i hi => h i (by omega))
    have g := h n (by omega)
    unfold asum
    have : aOf m (R n) ≤ 500 := by
      cases e : R n with
      | none => exact Nat.zero_le _
      | some v =>
        obtain ⟨r, m', a, fl⟩ := v
        rw [e] at g
        show (if m' = m then a else 0) ≤ 500
        have := g.2.2.2.2.2
        split <;> omega
    omega
theorem asum_ge {R : Nat → AR} {i r m a : Nat} {fl : Int32} (e : R i = some (r, m, a, fl)) : ∀ {n}, i < n → a ≤ asum R m n
  | 0, h => by omega
  | n + 1, h => by
    unfold asum
    by_cases q : i = n
    · subst q; rw [e]
      show a ≤ _ + (if m = m then a else 0)
      rw [if_pos rfl]; omega
    · have := asum_ge e (n := n) (by omega); omega
/-- what a crew gets of its main -/
def gtN (Y : Nat → Nat → Int32) (T m a : Nat) : Nat := if T ≤ nv Y 275 m then a else a * nv Y 275 m / T
theorem gtN_le {Y : Nat → Nat → Int32} {T m a : Nat} : gtN Y T m a ≤ a := by
  unfold gtN
  split
  · exact Nat.le_refl _
  · rename_i h
    exact Nat.div_le_of_le_mul (by rw [Nat.mul_comm]; exact Nat.mul_le_mul_right _ (by omega))
abbrev SS : Type := ab_X × (Nat → Int32)
def sh1 (q : SS) (n : Nat) (R : Nat → AR) (i : Nat) : SS := match R i with
  | some (r, m, a, _) => (wr (wr q.1 295 i (nI (gtN q.1.1 (asum R m n) m a))) 264 (nv q.1.1 290 i) (q.1.1 264 (nv q.1.1 290 i) + nI (gtN q.1.1 (asum R m n) m a)), updI q.2 (24 * nv q.1.1 290 i + r) (q.2 (24 * nv q.1.1 290 i + r) + nI (gtN q.1.1 (asum R m n) m a)))
  | none => q
def shN (t : ab_X) (n : Nat) (R : Nat → AR) : Nat → SS
  | 0 => (t, fun _ => nI 0)
  | i + 1 => sh1 (shN t n R i) n R i
theorem sh1_o (q : SS) (n : Nat) (R : Nat → AR) (i : Nat) : (∀ d, d ≠ 264 → d ≠ 295 → (sh1 q n R i).1.1 d = q.1.1 d) ∧ (sh1 q n R i).1.2 = q.1.2 := by
  unfold sh1
  split
  · exact ⟨fun d p p' => by rw [wr_n p, wr_n p'], rfl⟩
  · exact ⟨fun _ _ _ => rfl, rfl⟩
theorem shN_o (t : ab_X) (n : Nat) (R : Nat → AR) : ∀ i, (∀ d, d ≠ 264 → d ≠ 295 → (shN t n R i).1.1 d = t.1 d) ∧ (shN t n R i).1.2 = t.2
  | 0 => ⟨fun _ _ _ => rfl, rfl⟩
  | i + 1 => by
    obtain ⟨a, b⟩ := shN_o t n R i
    obtain ⟨a', b'⟩ := sh1_o (shN t n R i) n R i
    exact ⟨fun d p p' => (a' d p p').trans (a d p p'), b'.trans b⟩
theorem shN_b {t : ab_X} {n : Nat} {R : Nat → AR} : ∀ {i}, i ≤ n → (∀ i, i < n → Rok t i (R i)) → ∀ k, ∃ v, v ≤ 500 * i ∧ (shN t n R i).2 k = nI v
  | 0, _, _, k => ⟨0, Nat.le_refl _, rfl⟩
  | i + 1, hi, h, k => by
    obtain ⟨v, hv, ev⟩ := shN_b (t := t) (R := R) (i := i) (by omega) h k
    show ∃ v, v ≤ 500 * (i + 1) ∧ (sh1 (shN t n R i) n R i).2 k = nI v
    unfold sh1
    have g := h i (by omega)
    cases e : R i with
    | none => exact ⟨v, by omega, ev⟩
    | some u =>
      obtain ⟨r, m, a, fl⟩ := u
      rw [e] at g
      have := g.2.2.2.2.2
      have l := gtN_le (Y := (shN t n R i).1.1) (T := asum R m n) (m := m) (a := a)
      by_cases q : k = 24 * nv (shN t n R i).1.1 290 i + r
      · refine ⟨v + gtN (shN t n R i).1.1 (asum R m n) m a, by omega, ?_⟩
        show updI (shN t n R i).2 _ _ k = _
        unfold updI
        rw [if_pos q, ← q, ev, nI_add]
      · refine ⟨v, by omega, ?_⟩
        show updI (shN t n R i).2 _ _ k = _
        unfold updI
        rw [if_neg q]; exact ev
theorem sh1_I {x : ab_X} {q : SS} {n i r m a : Nat} {fl : Int32} {R : Nat → AR} (iv : Inv2 x q.1) (hi : i < nv q.1.1 246 58) (e : R i = some (r, m, a, fl)) (hh : nv q.1.1 290 i < nv q.1.1 246 31) : Inv2 (wr (wr x (82 + i) 16 (nI (gtN q.1.1 (asum R m n) m a))) (30 + 3 * nv q.1.1 290 i) 16 (q.1.1 264 (nv q.1.1 290 i) + nI (gtN q.1.1 (asum R m n) m a))) (sh1 q n R i).1 := by
  have b58 := iv.w.b58
  have b31 := iv.w.b31
  unfold sh1
  rw [e]
  have i1 : Inv2 (wr x (82 + i) 16 (nI (gtN q.1.1 (asum R m n) m a))) (wr q.1 295 i (nI (gtN q.1.1 (asum R m n) m a))) := by
    unfold Inv2
    rw [mg_wm (by omega), mg_wc (by omega)]
    refine i_got iv (j := i) ?_ rfl
    unfold nv; rw [mg_m (by decide)]; exact hi
  show Inv2 (wr _ _ 16 _) (wr _ 264 _ _)
  unfold Inv2
  rw [mg_wm (by omega), mg_wc (by omega)]
  refine i_gal i1 (j := nv q.1.1 290 i) ?_ rfl
  have : nv (mg (wr x (82 + i) 16 (nI (gtN q.1.1 (asum R m n) m a))) (wr q.1 295 i (nI (gtN q.1.1 (asum R m n) m a)))).1 246 31 = nv q.1.1 246 31 := by
    unfold nv; rw [mg_m (by decide), wr_n (by decide)]
  rw [this]; exact hh
