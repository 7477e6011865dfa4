/-! A MINUTE, 28: the fire, put together; where crews work nothing has fallen. -/
theorem c_fire {x s : ab_X} {Wa : Nat → Int32} (i : Inv2 x s) (f91 : F91 s) (hw : x.1 11 7 = nI 0 → ∀ k, k < 288 → x.1 14 k = Wa k) (hb : ∀ k, k < 288 → ∃ n, n ≤ 100000 ∧ Wa k = nI n) {K : ab_X → Prop} (k : ∀ y, Inv2P y (buS s Wa) → keepT x.1 y.1 → smM x y → K y) : wX10_passMinute x (fun x4 => wX0_hurtFallen x4 K) := by
  have w := i.w
  have b58 := w.b58
  have b31 := w.b31
  have so := (stS_o (Wa := Wa) w.tw).1
  have wt := stS_tw (Wa := Wa) w.tw
  have sn : ∀ c k, c ≠ 266 → c ≠ 267 → c ≠ 271 → nv (fs1 s Wa).1 c k = nv s.1 c k := fun c k a b d => fs1_nv a b d
  have se : ∀ c, c ≠ 266 → c ≠ 267 → c ≠ 271 → (fs1 s Wa).1 c = s.1 c := fun c a b d => fs1_o a b d
  have n31 : nv (stS s Wa).1 246 31 = nv s.1 246 31 := by unfold nv; rw [so 246 (by decide) (by decide) (by decide) (by decide)]
  unfold wX10_passMinute
  rw [i.r.s31, w.v31]
  refine c_step (Or.inl rfl) i.r.tr w.tw w.fi.2.2.2.2.2.1 hw hb (fun z tz z1 z2 z3 z4 => ?_)
  have z1 : ∀ c, c < 11 ∨ 18 < c → z.1 c = x.1 c := z1
  refine c_people (s := fs1 s Wa) tz wt (by rw [so 272 (by decide) (by decide) (by decide) (by decide), se 272 (by decide) (by decide) (by decide)]) (by rw [so 263 (by decide) (by decide) (by decide) (by decide), se 263 (by decide) (by decide) (by decide)]) (fun k hk u => ?_) (fun y py => ?_)
  · rw [se 274 (by decide) (by decide) (by decide)] at u
    rw [se 272 (by decide) (by decide) (by decide)]
    exact w.fi.2.2.2.2.1 k hk u
  have yz := py.1.1
  have yx : ∀ c, c < 11 ∨ (18 < c ∧ c < 30) ∨ 65 < c → y.1 c = x.1 c := fun c p => by rw [yz c (by omega), z1 c (by omega)]
  refine c_hurtF (s := fs1 s Wa) (t := stS s Wa) (by rw [sn 246 58 (by decide) (by decide) (by decide)]; exact b58) (by rw [sn 246 31 (by decide) (by decide) (by decide)]; exact b31) (fun h hh => ?_) ?_ (fun j hj => ?_) ?_ (fun j hj => ?_) ?_ (fun h hh => ?_) (fun kk hk => ?_) (fun a ha => ?_)
  · rw [sn 246 31 (by decide) (by decide) (by decide)] at hh
    rw [sn 256 h (by decide) (by decide) (by decide)]
    exact (w.ho.1 h hh).2.2.1.2
  · unfold F91 at f91 ⊢
    simp (disch := decide) only [sn, se]
    exact f91
  · rw [sn 246 58 (by decide) (by decide) (by decide)] at hj
    rw [se 286 (by decide) (by decide) (by decide)]
    have g := (w.cr.1 j hj).2.2.2.2.2.2.2.2.2.1
    exact ⟨_, g.2, g.1⟩
  · rw [yx 66 (by omega), sn 246 58 (by decide) (by decide) (by decide), i.r.s58, w.v58]
  · rw [sn 246 58 (by decide) (by decide) (by decide)] at hj
    rw [yx _ (by omega), se 286 (by decide) (by decide) (by decide), se 290 (by decide) (by decide) (by decide), se 291 (by decide) (by decide) (by decide)]
    obtain ⟨r0, r1, r2, r3, r4, r5, r6, r7, r8, r9, r10, r11, r12, r13, -⟩ := i.r.cr.1 j hj
    exact ⟨r8, r12, r13⟩
  · rw [yx 9 (by omega), sn 246 31 (by decide) (by decide) (by decide), i.r.s31, w.v31]
  · rw [sn 246 31 (by decide) (by decide) (by decide)] at hh
    rw [sn 256 h (by decide) (by decide) (by decide), py.1.2.1 h 3 (by omega) (by decide), py.1.2.1 h 0 (by omega) (by decide)]
    obtain ⟨-, -, t3, -⟩ := tz.2.1.2.2.1 h (by rw [n31]; exact hh)
    refine ⟨?_, (tz.2.1.1 h (by omega)).1⟩
    rw [t3, so 256 (by decide) (by decide) (by decide) (by decide)]
    exact (w.ho.1 h hh).2.2.1.1
  · rw [yz 16 (by omega)]
    exact ⟨(tz.2.2.2.1 kk hk).2, wt.2.2.2.1 kk hk⟩
  · rw [sn 246 58 (by decide) (by decide) (by decide)] at ha
    refine k a (fire_inv i tz z1 py ha) (fun c kk q => ?_) ⟨fun c q => ?_, ?_⟩
    · unfold tk at q
      rw [ha.1 c (by omega), yx c (by omega)]
    · rw [ha.1 c (by omega), yx c (by omega)]
    · rw [ha.2.1, py.1.2.2.2, z4]
theorem aim_bu {Y : Nat → Nat → Int32} (w : WW Y) {W : Nat → Int32} {j r m a : Nat} {fl : Int32} (hj : j < nv Y 246 58) (e : aimO Y W j = some (r, m, a, fl)) : fl = -nI 1 ∨ ∃ f, f < nv Y 256 (nv Y 290 j) ∧ fl = nI f ∧ Y 274 (6 * nv Y 290 j + f) = nI 0 := by
  rcases aim_d (W := W) w hj with ⟨e0, -⟩ | ⟨r', m', a', fl', e0, c, m1, hr, hm, ha5, ha, eR, eI, -, ea, efl⟩
  · rw [e] at e0; exact absurd e0 (by simp)
  rw [e] at e0
  have e0 : (r, m, a, fl) = (r', m', a', fl') := Option.some.inj e0
  have er : r = r' := congrArg (fun q => q.1) e0
  have ef : fl = fl' := congrArg (fun q => q.2.2.2) e0
  subst er ef
  by_cases v : aimV Y W j = nI 0
  · right
    rw [if_pos v] at efl
    obtain ⟨v1, v2, v3, v3', v4, v4', -⟩ := w.ho.1 _ m1
    have l3 := v3.2
    have l4 := v4.2
    have rl := rm_le w.tw m1
    obtain ⟨f, q, hf, hq, er, ed⟩ := r_split hr
    refine ⟨f, hf, by rw [efl, ed], ?_⟩
    have hbu : bu Y (24 * nv Y 290 j + r) = true := by
      unfold rmI at eI
      by_cases t : tpf Y (nv Y 290 j) (nv Y 283 j) = -nI 1
      · rw [if_pos t] at eI
        exact absurd eI (fun u => (n1_eq (by omega)).mp u)
      · rw [if_neg t] at eI
        rcases rmF_d Y W (nv Y 290 j) (ldB Y (nv Y 290 j)) (((tpf Y (nv Y 290 j) (nv Y 283 j)).toNatClampNeg + 1) * nv Y 257 (nv Y 290 j)) with u | ⟨r', hr', u, ub⟩
        · rw [eI] at u; exact absurd u (fun u => (n1_eq' (by omega)).mp u)
        · rw [eI] at u
          rcases tpf_d (Y := Y) (h := nv Y 290 j) (A := nv Y 283 j) v3' with t' | ⟨tt, ht, et⟩
          · exact absurd t' t
          · rw [et, cl_nI (by omega)] at hr'
            have : (tt + 1) * nv Y 257 (nv Y 290 j) ≤ nv Y 256 (nv Y 290 j) * nv Y 257 (nv Y 290 j) := Nat.mul_le_mul_right _ ht
            have := (q_eq (by omega) (by omega)).mp u
            rw [this]; exact ub
    by_cases z : Y 274 (6 * nv Y 290 j + f) = nI 0
    · exact z
    · exfalso
      have := w.fi.2.2.2.1 _ f q m1 hf hq z
      rw [← er] at this
      rw [bu_f1 (by rw [nv_of this (by decide)]; decide)] at hbu
      exact absurd hbu (by decide)
  · left; rw [if_neg v] at efl; exact efl
theorem wkN_91 {x s : ab_X} (h : Inv2 x s) : ∀ j, j ≤ nv s.1 246 58 → ∀ i, i < j → (wkN s j).1.1 291 i = -nI 1 ∨ ∃ f, f < nv s.1 256 (nv s.1 290 i) ∧ (wkN s j).1.1 291 i = nI f ∧ s.1 274 (6 * nv s.1 290 i + f) = nI 0
  | 0, _, i, hi => by omega
  | j + 1, hj, i, hi => by
    obtain ⟨w1, w2, w3, w4⟩ := wk1_r (wkN s j) j
    have st : wkN s (j + 1) = wk1 (wkN s j) j := rfl
    rw [st]
    by_cases e : i = j
    · subst e
      obtain ⟨xa, ia⟩ := wkN_I h i (by omega)
      have q : ∀ d k, d ≠ 262 → d ≠ 272 → d ≠ 291 → d ≠ 295 → nv (wkN s i).1.1 d k = nv s.1 d k := fun d k a b c e => by unfold nv; rw [(wkN_o s i).1 d a b c e]
      have hi' : i < nv (wkN s i).1.1 246 58 := by rw [q 246 58 (by decide) (by decide) (by decide) (by decide)]; omega
      have n0 := ((wkN_v s i).1 i (Nat.le_refl _)).2.1 (by omega)
      unfold wk1
      split
      · rename_i r m a fl e0
        have g := aim_bu ia.w hi' e0
        rw [q 290 i (by decide) (by decide) (by decide) (by decide), q 256 _ (by decide) (by decide) (by decide) (by decide), (wkN_o s i).1 274 (by decide) (by decide) (by decide) (by decide)] at g
        show (wr (wkN s i).1 291 i fl).1 291 i = -nI 1 ∨ ∃ f, f < nv s.1 256 (nv s.1 290 i) ∧ (wr (wkN s i).1 291 i fl).1 291 i = nI f ∧ s.1 274 (6 * nv s.1 290 i + f) = nI 0
        rw [wr_e]; exact g
      · left
        show (tkS (wkN s i).1 i).1 291 i = -nI 1
        rw [(tkS_o _ _).1 291 (by decide) (by decide)]; exact n0
    · rw [w3 i e]
      exact wkN_91 h j (by omega) i (by omega)
theorem sh_91 {x s : ab_X} (h : Inv2 x s) {R : Nat → AR} {n : Nat} (k : Nat) : F91 (shN (wkN s (nv s.1 246 58)).1 n R k).1 := by
  have so := (shN_o (wkN s (nv s.1 246 58)).1 n R k).1
  have wo := (wkN_o s (nv s.1 246 58)).1
  have e : ∀ d, d ≠ 264 → d ≠ 295 → d ≠ 262 → d ≠ 272 → d ≠ 291 → (shN (wkN s (nv s.1 246 58)).1 n R k).1.1 d = s.1 d := fun d a b c f g => by rw [so d a b, wo d c f g b]
  have en : ∀ d k', d ≠ 264 → d ≠ 295 → d ≠ 262 → d ≠ 272 → d ≠ 291 → nv (shN (wkN s (nv s.1 246 58)).1 n R k).1.1 d k' = nv s.1 d k' := fun d k' a b c f g => congrArg (fun q : Nat → Int32 => (q k').toNatClampNeg) (e d a b c f g)
  intro i hi h2
  rw [en 246 58 (by decide) (by decide) (by decide) (by decide) (by decide)] at hi
  rw [e 286 (by decide) (by decide) (by decide) (by decide) (by decide)] at h2
  obtain ⟨m0, m1, m2⟩ := (h.w.cr.2.2.1 i hi).2.1 (nv_of h2 (by decide))
  refine ⟨nv s.1 290 i, ?_, ?_, ?_⟩
  · rw [en 246 31 (by decide) (by decide) (by decide) (by decide) (by decide)]; exact m1
  · rw [e 290 (by decide) (by decide) (by decide) (by decide) (by decide)]; exact m0.1
  · rw [so 291 (by decide) (by decide), en 256 _ (by decide) (by decide) (by decide) (by decide) (by decide), e 274 (by decide) (by decide) (by decide) (by decide) (by decide)]
    exact wkN_91 h _ (Nat.le_refl _) i hi
