/-! A MINUTE, 36: the minute of the reference. -/
theorem m_145 {x : ab_X} {K : ab_X → Prop} (k : ∀ y, (∀ d, d ≠ 268 → y.1 d = x.1 d) → y.2 = x.2 → (∀ k, k < 288 → y.1 268 k = nI 0) → Lp2 (lX12_minute_167 K) 0 y) : Lp2 (lX12_minute_145 K) 0 x := by
  refine Lp2.ind (fun ii a z => ∃ j, j ≤ 288 ∧ ii = 288 - j ∧ a = nI j ∧ (∀ d, d ≠ 268 → z.1 d = x.1 d) ∧ z.2 = x.2 ∧ ∀ k, k < j → z.1 268 k = nI 0) 288 ⟨0, Nat.zero_le _, rfl, rfl, fun _ _ => rfl, rfl, fun i hi => by omega⟩ ?_
  rintro ii a z ⟨j, hj, hii, rfl, z1, z2, z3⟩ L hL
  unfold lX12_minute_145
  have ej : nI j + 1 = nI (j + 1) := nI_add j 1
  have e2 : (288 ≤ nI j) ↔ 288 ≤ j := q_le (by decide) (by omega)
  rw [e2, ej, cl_nI (by omega)]
  refine ⟨fun u => k z z1 z2 (fun k hk => z3 k (by omega)), fun u => ⟨(vpi (by omega) (by decide)).mpr trivial, hL _ _ _ (by omega) ⟨j + 1, by omega, rfl, rfl, fun d p => by rw [wr_n p]; exact z1 d p, z2, fun k hk => ?_⟩⟩⟩
  by_cases e : k = j
  · rw [e, wr_e]; rfl
  · rw [wr_ne (by omega)]; exact z3 k (by omega)
theorem m_minute {x s xa : ab_X} (h : Inv2 xa s) (hn : nv s.1 246 1 < 20000) (ht : InvT s.1) (m : keepM s.1 x.1) (kt : keepT s.1 x.1) (wz : ∀ k, k < 288 → x.1 268 k = nI 0) {K : ab_X → Prop} (k : ∀ y, keepM (mnS s).1 y.1 → keepT x.1 y.1 → smC x y → (∀ k, k < 288 → y.1 268 k = nI 0) → K y) : wX12_minute x K := by
  have b58 := h.w.b58
  have b92 := h.w.b92
  unfold wX12_minute
  have e : x.1 246 1 + 1 = nI (nv s.1 246 1 + 1) := by rw [m.s1, h.w.v1]; exact nI_add _ 1
  rw [e]
  have m0 : keepM (nwS s).1 (wr x 246 1 (nI (nv s.1 246 1 + 1))).1 := by unfold nwS; exact keepM_wr m
  have t0 : keepT x.1 (wr x 246 1 (nI (nv s.1 246 1 + 1))).1 := fun c kk q => by unfold tk at q; rw [wr_ne (by omega)]
  have s0 : smC x (wr x 246 1 (nI (nv s.1 246 1 + 1))) := smC.wr (by omega)
  refine m_arvL (nw_I h hn) m0 (fun y1 m1 t1 r1 c1 => ?_)
  rw [nw_n58] at m1
  obtain ⟨x1, i1⟩ := arvN_I (nw_I h hn) (nv s.1 246 58) (by rw [nw_n58]; exact Nat.le_refl _)
  refine m_goOver i1 m1 (fun y2 m2 t2 r2 c2 => ?_)
  rw [av_n58] at m2
  have m2 : keepM (gS s).1 y2.1 := m2
  obtain ⟨x2, i2⟩ := gS_I h hn
  have tt2 := (t0.tr t1).tr t2
  have cc2 := (s0.tr c1).tr c2
  have kt2 : keepT (gS s).1 y2.1 := fun c kk q => by rw [tt2 c kk q, kt c kk q, gS_t s c kk q]
  have wz2 : ∀ k, k < 288 → y2.1 268 k = nI 0 := fun kk hk => by
    rw [r2.1 268 (by decide) (by decide) (by decide) (by decide), r1.1 268 (by decide) (by decide) (by decide) (by decide), wr_n (by decide)]; exact wz kk hk
  refine m_workA i2 (InvT_keep ht (by have := h.w.b72; exact this) (gS_t s)) m2 kt2 wz2 (fun y3 c3 => ?_)
  refine m_share i2 c3 (fun y4 m4 w4 t4 s4 => ?_)
  have ro := Rok_w i2
  rw [gS_58] at m4 w4 ro
  have m4 : keepM (tS s).1.1 y4.1 := m4
  have w4 : ∀ k, k < 288 → y4.1 268 k = (tS s).2 k := w4
  obtain ⟨x3, i3⟩ := wkN_I i2 (nv s.1 246 58) (by rw [gS_58]; exact Nat.le_refl _)
  have hq : nv s.1 246 58 = nv (wkN (gS s) (nv s.1 246 58)).1.1 246 58 := by
    rw [← n_of (f := 58) (gS_246 s (by decide))]
    exact (congrArg (fun q : Nat → Int32 => (q 58).toNatClampNeg) ((wkN_o (gS s) _).1 246 (by decide) (by decide) (by decide) (by decide))).symm
  obtain ⟨x4, i4⟩ := shN_I i3 hq ro (nv s.1 246 58) (Nat.le_refl _)
  have i4 : Inv2 x4 (tS s).1 := i4
  refine m_burn (Wa := (tS s).2) m4 i4.w.tw i4.w.b58 i4.w.v58 w4 (fun y5 m5 o5 e5 => ?_)
  have m5 : keepM (fS1 s).1 y5.1 := m5
  obtain ⟨x5, i5⟩ := bu_I (Wa := (tS s).2) i4
  have i5 : Inv2P x5 (fS1 s) := i5
  refine m_145 (fun y6 z1 z2 z3 => ?_)
  have m6 : keepM (fS1 s).1 y6.1 := m5.tr ⟨fun d p => z1 d (by unfold kM at p; omega), fun f p => by rw [z1 246 (by decide)]⟩
  have s56 : smC y4 y6 := ⟨fun d p => by rw [z1 d (by omega)]; exact o5 d (by unfold kM; omega) (by omega) (by omega), by rw [z2, e5]⟩
  have t56 : keepT y4.1 y6.1 := fun c kk q => by
    have q' := q
    unfold tk at q'
    rw [z1 c (by omega)]
    by_cases u : kM c
    · unfold kM at u
      have c1 : ¬ cs c := by unfold cs; omega
      rw [m5.1 c (by unfold kM; omega), m4.1 c (by unfold kM; omega)]
      unfold fS1
      rw [(bu_o i4.w _).2.2 c (by omega) (by omega) (by omega) (by omega) (by omega) (by omega) (by omega) (by omega)]
    · rw [o5 c u (by omega) (by omega)]
  refine m_closeOut i5 m6 (fun y7 m7 a1 a2 => ?_)
  rw [n_of (f := 92) (fS1_246 i4 (by decide))] at m7
  have m7 : keepM (fS2 s).1 y7.1 := m7
  obtain ⟨x6, i6⟩ := coN_I i5 (nv s.1 246 92) (by rw [n_of (f := 92) (fS1_246 i4 (by decide))]; exact Nat.le_refl _)
  have i6 : Inv2P x6 (fS2 s) := i6
  have s7 : smC y6 y7 := ⟨fun d p => a1 d (by omega) (by omega), by rw [a2]⟩
  have t7 : keepT y6.1 y7.1 := fun c kk q => by unfold tk at q; rw [a1 c (by omega) (by omega)]
  refine m_home i6 m7 (fun y8 m8 t8 s8 a8 => ?_)
  rw [n_of (f := 58) (fS2_246 i4 (by decide))] at m8
  have m8 : keepM (fS3 s).1 y8.1 := m8
  obtain ⟨x7, i7⟩ := homN_I i6 (nv s.1 246 58) (by rw [n_of (f := 58) (fS2_246 i4 (by decide))]; exact Nat.le_refl _)
  have i7 : Inv2P x7 (fS3 s) := i7
  refine m_tires i7 m8 (fun y9 m9 b1 b2 => ?_)
  rw [n_of (f := 58) (fS3_246 i4 (by decide))] at m9
  have m9 : keepM (fS4 s).1 y9.1 := m9
  obtain ⟨x8, i8⟩ := tiN_I i7 (nv s.1 246 58) (by rw [n_of (f := 58) (fS3_246 i4 (by decide))]; exact Nat.le_refl _)
  have i8 : Inv2P x8 (fS4 s) := i8
  have s9 : smC y8 y9 := ⟨fun d p => b1 d (by omega), by rw [b2]⟩
  have t9 : keepT y8.1 y9.1 := fun c kk q => by unfold tk at q; rw [b1 c (by omega)]
  refine m_wit m9 i8.w (fun y10 m10 d1 d2 => k y10 m10 ?_ ?_ (fun kk hk => ?_))
  · exact ((((((tt2.tr t4).tr t56).tr t7).tr t8).tr t9).tr (fun c kk q => by unfold tk at q; rw [d1 c (by omega)]))
  · exact ((((((cc2.tr s4).tr s56).tr s7).tr s8).tr s9).tr ⟨fun d p => d1 d (by omega), by rw [d2]⟩)
  · rw [d1 268 (by decide), b1 268 (by decide), a8 268 (by decide) (by decide), a1 268 (by decide) (by decide)]; exact z3 kk hk
