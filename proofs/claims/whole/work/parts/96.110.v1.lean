/-! TICK: many minutes. -/
def wtA (x s : ab_X) : ab_X := ((fun c => if 98 ≤ c ∧ c < 98 + nv s.1 246 92 then (fun f => if f = 8 then wtF s.1 (c - 98) else x.1 c f) else x.1 c), x.2)
theorem wt_I {x s : ab_X} (h : Inv2P x s) : ∃ y, Inv2 y (wtS s) := by
  have b92 := h.w.b92
  refine ⟨wtA x s, wit_inv h.r h.w (fun c p => ?_) (fun k f p q => ?_) (fun k p => ?_) (fun k p q => ?_)⟩
  · show (if 98 ≤ c ∧ c < 98 + nv s.1 246 92 then _ else x.1 c) = x.1 c
    rw [if_neg (by omega)]
  · show (if 98 ≤ 98 + k ∧ 98 + k < 98 + nv s.1 246 92 then (fun f => if f = 8 then wtF s.1 (98 + k - 98) else x.1 (98 + k) f) else x.1 (98 + k) : Nat → Int32) f = x.1 (98 + k) f
    by_cases u : k < nv s.1 246 92
    · rw [if_pos (by omega)]
      show (if f = 8 then _ else _) = _
      rw [if_neg q]
    · rw [if_neg (by omega)]
  · show (if 98 ≤ 98 + k ∧ 98 + k < 98 + nv s.1 246 92 then (fun f => if f = 8 then wtF s.1 (98 + k - 98) else x.1 (98 + k) f) else x.1 (98 + k) : Nat → Int32) 8 = wtF s.1 k
    rw [if_pos (by omega)]
    show (if 8 = 8 then wtF s.1 (98 + k - 98) else _) = _
    rw [if_pos rfl, show 98 + k - 98 = k by omega]
  · show (if 98 ≤ 98 + k ∧ 98 + k < 98 + nv s.1 246 92 then (fun f => if f = 8 then wtF s.1 (98 + k - 98) else x.1 (98 + k) f) else x.1 (98 + k) : Nat → Int32) 8 = x.1 (98 + k) 8
    rw [if_neg (by omega)]
theorem tS_I {x s : ab_X} (h : Inv2 x s) (hn : nv s.1 246 1 < 20000) : ∃ y, Inv2 y (tS s).1 := by
  obtain ⟨x2, i2⟩ := gS_I h hn
  have ro := Rok_w i2
  rw [gS_58] at ro
  obtain ⟨x3, i3⟩ := wkN_I i2 (nv s.1 246 58) (by rw [gS_58]; exact Nat.le_refl _)
  have hq : nv s.1 246 58 = nv (wkN (gS s) (nv s.1 246 58)).1.1 246 58 := by
    rw [← n_of (f := 58) (gS_246 s (by decide))]
    exact (congrArg (fun q : Nat → Int32 => (q 58).toNatClampNeg) ((wkN_o (gS s) _).1 246 (by decide) (by decide) (by decide) (by decide))).symm
  exact shN_I i3 hq ro (nv s.1 246 58) (Nat.le_refl _)
theorem mn_I {x s : ab_X} (h : Inv2 x s) (hn : nv s.1 246 1 < 20000) : ∃ y, Inv2 y (mnS s) := by
  obtain ⟨x4, i4⟩ := tS_I h hn
  obtain ⟨x5, i5⟩ := bu_I (Wa := (tS s).2) i4
  have i5 : Inv2P x5 (fS1 s) := i5
  obtain ⟨x6, i6⟩ := coN_I i5 (nv s.1 246 92) (by rw [n_of (f := 92) (fS1_246 i4 (by decide))]; exact Nat.le_refl _)
  have i6 : Inv2P x6 (fS2 s) := i6
  obtain ⟨x7, i7⟩ := homN_I i6 (nv s.1 246 58) (by rw [n_of (f := 58) (fS2_246 i4 (by decide))]; exact Nat.le_refl _)
  have i7 : Inv2P x7 (fS3 s) := i7
  obtain ⟨x8, i8⟩ := tiN_I i7 (nv s.1 246 58) (by rw [n_of (f := 58) (fS3_246 i4 (by decide))]; exact Nat.le_refl _)
  exact wt_I i8
theorem mn_o {x s : ab_X} (h : Inv2 x s) (hn : nv s.1 246 1 < 20000) : keepT s.1 (mnS s).1 ∧ (mnS s).2 = s.2 ∧ (mnS s).1 246 1 = nI (nv s.1 246 1 + 1) := by
  obtain ⟨x4, i4⟩ := tS_I h hn
  have bo := bu_o i4.w (tS s).2
  have e : ∀ c, c < 246 ∨ c = 246 ∨ (300 ≤ c ∧ c ≤ 304) → (mnS s).1 c = (gS s).1 c := fun c p => by
    unfold mnS
    rw [wtS_o (by omega)]
    unfold fS4
    rw [(tiN_o _ _).1 c (by omega)]
    unfold fS3
    rw [(homN_o _ _).1 c (by omega)]
    unfold fS2
    rw [(coN_o _ _).1 c (by omega) (by omega)]
    unfold fS1
    rw [bo.2.2 c (by omega) (by omega) (by omega) (by omega) (by omega) (by omega) (by omega) (by omega)]
    unfold tS
    rw [(shN_o _ _ _ _).1 c (by omega) (by omega), (wkN_o _ _).1 c (by omega) (by omega) (by omega) (by omega)]
  refine ⟨fun c k q => ?_, ?_, ?_⟩
  · rw [e c (by unfold tk at q; omega)]; exact gS_t s c k q
  · show (fS4 s).2 = s.2
    unfold fS4
    rw [(tiN_o _ _).2]
    unfold fS3
    rw [(homN_o _ _).2]
    unfold fS2
    rw [(coN_o _ _).2]
    unfold fS1
    rw [bo.2.1]
    unfold tS
    rw [(shN_o _ _ _ _).2, (wkN_o _ _).2, gS_2]
  · rw [e 246 (by omega)]
    unfold gS
    rw [(goN_n _ _).1 246 (by decide), (arvN_n _ _).1]
    unfold nwS
    rw [wr_e]
noncomputable def mnI (s : ab_X) : Nat → ab_X
  | 0 => s
  | j + 1 => mnS (mnI s j)
theorem mnI_a {x s : ab_X} (h : Inv2 x s) {n : Nat} (hn : nv s.1 246 1 + n ≤ 20000) : ∀ j, j ≤ n → (∃ y, Inv2 y (mnI s j)) ∧ keepT s.1 (mnI s j).1 ∧ (mnI s j).2 = s.2 ∧ nv (mnI s j).1 246 1 = nv s.1 246 1 + j
  | 0, _ => ⟨⟨x, h⟩, keepT.rfl', rfl, rfl⟩
  | j + 1, hj => by
    obtain ⟨⟨y, hy⟩, a, b, c⟩ := mnI_a h hn j (by omega)
    have hl : nv (mnI s j).1 246 1 < 20000 := by omega
    obtain ⟨p, q, r⟩ := mn_o hy hl
    refine ⟨mn_I hy hl, a.tr p, q.trans b, ?_⟩
    show nv (mnS (mnI s j)).1 246 1 = _
    rw [nv_of r (by omega), c]; omega
