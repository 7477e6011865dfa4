/-! A MINUTE, 35: the minute of the program. -/
theorem tS_246 (s : ab_X) {f : Nat} (hf : f ≠ 1) : (tS s).1.1 246 f = s.1 246 f := by
  unfold tS
  rw [(shN_o _ _ _ _).1 246 (by decide) (by decide), (wkN_o _ _).1 246 (by decide) (by decide) (by decide) (by decide), gS_246 s hf]
theorem fS1_246 {s y : ab_X} (i : Inv2 y (tS s).1) {f : Nat} (hf : f ≠ 1) : (fS1 s).1 246 f = s.1 246 f := by
  unfold fS1
  rw [(bu_o i.w _).2.2 246 (by decide) (by decide) (by decide) (by decide) (by decide) (by decide) (by decide) (by decide), tS_246 s hf]
theorem fS2_246 {s y : ab_X} (i : Inv2 y (tS s).1) {f : Nat} (hf : f ≠ 1) : (fS2 s).1 246 f = s.1 246 f := by
  unfold fS2; rw [(coN_o _ _).1 246 (by decide) (by decide), fS1_246 i hf]
theorem fS3_246 {s y : ab_X} (i : Inv2 y (tS s).1) {f : Nat} (hf : f ≠ 1) : (fS3 s).1 246 f = s.1 246 f := by
  unfold fS3; rw [(homN_o _ _).1 246 (by decide), fS2_246 i hf]
theorem n_of {Y Z : Nat → Nat → Int32} {f : Nat} (e : Y 246 f = Z 246 f) : nv Y 246 f = nv Z 246 f := by unfold nv; rw [e]
theorem c_minute {x s : ab_X} (h : Inv2 x s) (hn : nv s.1 246 1 < 20000) (ht : InvT s.1) (kt : keepT s.1 x.1) {K : ab_X → Prop} (k : ∀ y, Inv2 y (mnS s) → keepT x.1 y.1 → smM x y → K y) : wX0_passMinute x K := by
  have b58 := h.w.b58
  unfold wX0_passMinute
  have e : x.1 66 12 + 1 = nI (nv s.1 246 1 + 1) := by rw [h.r.s1, h.w.v1]; exact nI_add _ 1
  rw [e]
  have t0 : keepT x.1 (wr x 66 12 (nI (nv s.1 246 1 + 1))).1 := fun c kk q => by unfold tk at q; rw [wr_n (by omega)]
  have m0 : smM x (wr x 66 12 (nI (nv s.1 246 1 + 1))) := smM.wr (by omega)
  refine c_arvL (nw_I h hn) (fun y1 i1 t1 m1 => ?_)
  rw [nw_n58] at i1
  unfold restC
  refine c_goOver i1 (fun y2 i2 t2 m2 => ?_)
  rw [av_n58] at i2
  have i2 : Inv2 y2 (gS s) := i2
  have tt2 := (t0.tr t1).tr t2
  have mm2 := (m0.tr m1).tr m2
  have kt2 : keepT (gS s).1 y2.1 := fun c kk q => by rw [tt2 c kk q, kt c kk q, gS_t s c kk q]
  refine c_workAll i2 (InvT_keep ht (by have := h.w.b72; exact this) (gS_t s)) kt2 (fun y3 c3 t3 m3 e3 => ?_)
  have ro := Rok_w i2
  rw [gS_58] at c3 ro
  have hq : nv s.1 246 58 = nv (wkN (gS s) (nv s.1 246 58)).1.1 246 58 := by
    rw [← n_of (f := 58) (gS_246 s (by decide))]
    exact (congrArg (fun q : Nat → Int32 => (q 58).toNatClampNeg) ((wkN_o (gS s) _).1 246 (by decide) (by decide) (by decide) (by decide))).symm
  refine c_share c3 hq ro (fun y4 i4 w4 t4 m4 e4 => ?_)
  have i4 : Inv2 y4 (tS s).1 := i4
  have f91 : F91 (tS s).1 := by
    have := sh_91 i2 (R := (wkN (gS s) (nv s.1 246 58)).2.2) (n := nv s.1 246 58) (nv s.1 246 58)
    rw [gS_58] at this
    exact this
  refine c_fire (Wa := (tS s).2) i4 f91 w4 (fun kk hk => ?_) (fun y5 i5 t5 m5 => ?_)
  · obtain ⟨v, hv, ev⟩ := shN_b (t := (wkN (gS s) (nv s.1 246 58)).1) (n := nv s.1 246 58) (R := (wkN (gS s) (nv s.1 246 58)).2.2) (Nat.le_refl _) ro kk
    exact ⟨v, by omega, ev⟩
  have i5 : Inv2P y5 (fS1 s) := i5
  refine c_closeOut i5 (fun y6 i6 t6 m6 => ?_)
  rw [n_of (f := 92) (fS1_246 i4 (by decide))] at i6
  have i6 : Inv2P y6 (fS2 s) := i6
  refine c_home i6 (fun y7 i7 t7 m7 => ?_)
  rw [n_of (f := 58) (fS2_246 i4 (by decide))] at i7
  have i7 : Inv2P y7 (fS3 s) := i7
  refine c_tires i7 (fun y8 i8 t8 m8 => ?_)
  rw [n_of (f := 58) (fS3_246 i4 (by decide))] at i8
  have i8 : Inv2P y8 (fS4 s) := i8
  refine c_wit i8.r i8.w (fun y9 a1 a2 a3 a4 a5 => k y9 (wit_inv i8.r i8.w a1 a2 a3 a4) ((((((tt2.tr t3).tr t4).tr t5).tr t6).tr t7).tr (t8.tr (fun c kk q => ?_))) ((((((mm2.tr m3).tr m4).tr m5).tr m6).tr m7).tr (m8.tr ⟨fun c q => a1 c (by omega), a5⟩)))
  unfold tk at q; rw [a1 c (by omega)]
