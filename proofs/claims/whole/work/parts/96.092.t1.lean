/-! A MINUTE, 19: falls with people and crews against falls without, the steps. -/
theorem drS_c {t u : ab_X} {h g : Nat} (e1 : u.1 266 = t.1 266) (e2 : u.1 267 = t.1 267) (e3 : u.1 274 = t.1 274) (e4 : u.1 257 = t.1 257) {c : Nat} (ec : u.1 c = t.1 c) : (drS u h g).1 c = (drS t h g).1 c := by
  have n4 : nv u.1 257 h = nv t.1 257 h := by unfold nv; rw [e4]
  have f1 : fH u.1 h g = fH t.1 h g := by funext k; unfold fH; rw [e1, e3, n4]
  have f2 : fS u.1 h = fS t.1 h := by funext k; unfold fS; rw [e2, n4]
  by_cases h1 : c = 266
  · subst h1; rw [drS_266, drS_266, f1, n4, e1]
  by_cases h2 : c = 267
  · subst h2; rw [drS_267, drS_267, f2, n4, e2]
  by_cases h3 : c = 274
  · subst h3; funext j; rw [drS_274, drS_274, e3]
  rw [drS_o h1 h2 h3, drS_o h1 h2 h3]; exact ec
theorem nI_i {a b : Nat} (ha : a < 2147483648) (hb : b < 2147483648) (h : nI a = nI b) : a = b := (q_eq ha hb).mp h
theorem FR_F {s t u : ab_X} {h g : Nat} (r : FR s t u) (hh : h < 12) (hg : g + 1 < 6) (b272 : ∀ k, k < 72 → s.1 272 k = nI (nv s.1 272 k)) : FR s (flF (nI 0) t h g) (flF (nI 1) u h g) := by
  have rr := r
  obtain ⟨r1, r2, r3, r4, r5, r6, r7, r8⟩ := rr
  have e274 : u.1 274 = t.1 274 := r1 274 (by unfold cs; omega)
  have e271 : u.1 271 = t.1 271 := r1 271 (by unfold cs; omega)
  have e266 : u.1 266 = t.1 266 := r1 266 (by unfold cs; omega)
  have e267 : u.1 267 = t.1 267 := r1 267 (by unfold cs; omega)
  have e257 : u.1 257 = t.1 257 := r1 257 (by unfold cs; omega)
  have e255 : u.1 255 = t.1 255 := r1 255 (by unfold cs; omega)
  have e246 : u.1 246 = t.1 246 := r1 246 (by unfold cs; omega)
  have l : ld u.1 h (g + 1) = ld t.1 h (g + 1) := by unfold ld; rw [e271]
  have b : brN u.1 h = brN t.1 h := by unfold brN nv; rw [e257, e255]
  unfold flF
  rw [e274, l, b]
  by_cases q : t.1 274 (6 * h + (g + 1)) = nI 0 ∧ ¬ ld t.1 h (g + 1) < nI (brN t.1 h)
  · rw [if_pos q, if_pos q]
    unfold drV
    rw [if_pos rfl, if_neg (by decide)]
    have n58 : nv u.1 246 58 = nv s.1 246 58 := by unfold nv; rw [e246, r8 246 (by decide) (by decide) (by decide) (by decide)]
    rw [n58]
    have s0 : s.1 274 (6 * h + (g + 1)) = nI 0 := by
      rcases r5 (6 * h + (g + 1)) with e | e
      · rw [← e]; exact q.1
      · exact absurd q.1 e.2
    have t1 : (drS t h g).1 274 (6 * h + (g + 1)) = nI 1 := by rw [drS_274, if_pos rfl]
    have tk : ∀ k, k ≠ 6 * h + (g + 1) → (drS t h g).1 274 k = t.1 274 k := fun k p => by rw [drS_274, if_neg p]
    have nf : NF s (drS t h g) (6 * h + (g + 1)) := ⟨s0, by rw [t1]; decide⟩
    have nf0 : ¬ NF s t (6 * h + (g + 1)) := fun v => v.2 q.1
    have nfk : ∀ k, k ≠ 6 * h + (g + 1) → (NF s (drS t h g) k ↔ NF s t k) := fun k p => by unfold NF; rw [tk k p]
    have po : ∀ d, d ≠ 263 → d ≠ 272 → (plS (drS u h g) h (g + 1)).1 d = (drS u h g).1 d := fun d p p' => by unfold plS; rw [wr_n p', wr_n p]
    have pc : ∀ d, 286 ≤ d → d ≤ 291 → (plS (drS u h g) h (g + 1)).1 d = u.1 d := fun d p p' => by rw [po d (by omega) (by omega), drS_o (by omega) (by omega) (by omega)]
    have p280 : (plS (drS u h g) h (g + 1)).1 280 = s.1 280 := by rw [po 280 (by omega) (by omega), drS_o (by omega) (by omega) (by omega), r1 280 (by unfold cs; omega), r8 280 (by decide) (by decide) (by decide) (by decide)]
    have d272 : (drS u h g).1 272 = u.1 272 := drS_o (by decide) (by decide) (by decide)
    have d263 : (drS u h g).1 263 = u.1 263 := drS_o (by decide) (by decide) (by decide)
    obtain ⟨ha, hb⟩ := hr_i (s := plS (drS u h g) h (g + 1)) (h := h) (f := g + 1) (nv s.1 246 58)
    refine ⟨fun c hc => ?_, ?_, fun k => ⟨fun v => ?_, fun v => ?_⟩, fun h' => ?_, fun k => ?_, fun i hi d p p' => ?_, fun i hi => ?_, fun c a1 a2 a3 a4 => by rw [drS_o a1 a2 a4]; exact r8 c a1 a2 a3 a4⟩
    · unfold cs at hc
      rw [hrS_o (by omega), po c (by omega) (by omega)]
      exact drS_c e266 e267 e274 e257 (r1 c (by unfold cs; omega))
    · rw [hrS_2]
      show u.2 = t.2
      exact r2
    · rw [hrS_o (by decide)]
      unfold plS
      by_cases e : k = 6 * h + (g + 1)
      · subst e; rw [wr_e]
      · rw [wr_ne (by omega), wr_n (by decide), d272]
        exact (r3 k).1 ((nfk k e).mp v)
    · have e : k ≠ 6 * h + (g + 1) := fun e => v (by rw [e]; exact nf)
      rw [hrS_o (by decide)]
      unfold plS
      rw [wr_ne (by omega), wr_n (by decide), d272]
      exact (r3 k).2 (fun v' => v ((nfk k e).mpr v'))
    · rw [hrS_o (by decide)]
      unfold plS
      rw [wr_n (by decide), d263, d272]
      by_cases e : h' = h
      · subst e
        rw [wr_e, r4, (r3 _).2 nf0, b272 _ (by omega), lsF_a (g := g + 1) 6 hg (fun f hf p => tk _ (by omega)) nf0 nf, ← nI_add, Int32.add_assoc]
      · rw [wr_ne (by omega), d263, r4, lsF_c 6 (fun f hf => tk _ (by omega))]
    · by_cases e : k = 6 * h + (g + 1)
      · rw [e]; exact Or.inr nf
      · rw [tk k e]
        rcases r5 k with v | v
        · exact Or.inl v
        · exact Or.inr ((nfk k e).mpr v)
    · rcases ha i hi d with v | v
      · rw [v, pc d p p']; exact r6 i hi d p p'
      · omega
    · obtain ⟨b1, b2⟩ := hb i hi
      obtain ⟨c1, c2⟩ := r7 i hi
      rw [pc 286 (by decide) (by decide), pc 290 (by decide) (by decide), pc 291 (by decide) (by decide), p280] at b1
      rw [pc 286 (by decide) (by decide), pc 290 (by decide) (by decide), pc 291 (by decide) (by decide)] at b2
      refine ⟨fun v => ?_, fun v d p p' => ?_⟩
      · by_cases o : HB s t i
        · obtain ⟨o1, o2, o3, o4, o5⟩ := c1 o
          have nn : ¬ (u.1 286 i = nI 2 ∧ u.1 290 i = nI h ∧ u.1 291 i = nI (g + 1)) := fun z => by rw [o1] at z; exact absurd z.1 (by decide)
          have b2 := b2 nn
          rw [b2 286 (by decide) (by decide), b2 287 (by decide) (by decide), b2 288 (by decide) (by decide), b2 290 (by decide) (by decide), b2 291 (by decide) (by decide), pc 286 (by decide) (by decide), pc 287 (by decide) (by decide), pc 288 (by decide) (by decide), pc 290 (by decide) (by decide), pc 291 (by decide) (by decide)]
          exact ⟨o1, o2, o3, o4, o5⟩
        · obtain ⟨v1, h', f', l1, l2, v2, v3, v4⟩ := v
          have e : 6 * h' + f' = 6 * h + (g + 1) := by
            by_cases e : 6 * h' + f' = 6 * h + (g + 1)
            · exact e
            · exact absurd ⟨v1, h', f', l1, l2, v2, v3, (nfk _ e).mp v4⟩ o
          have eh : h' = h := by omega
          have ef : f' = g + 1 := by omega
          subst eh ef
          have c2 := c2 o
          refine b1 ⟨?_, ?_, ?_⟩
          · rw [c2 286 (by decide) (by decide)]; exact v1
          · rw [c2 290 (by decide) (by decide)]; exact v2
          · rw [c2 291 (by decide) (by decide)]; exact v3
      · have o : ¬ HB s t i := by
          rintro ⟨v1, h', f', l1, l2, v2, v3, v4⟩
          refine v ⟨v1, h', f', l1, l2, v2, v3, ?_⟩
          by_cases e : 6 * h' + f' = 6 * h + (g + 1)
          · rw [e]; exact nf
          · exact (nfk _ e).mpr v4
        have c2 := c2 o
        have nn : ¬ (u.1 286 i = nI 2 ∧ u.1 290 i = nI h ∧ u.1 291 i = nI (g + 1)) := fun z => by
          rw [c2 286 (by decide) (by decide), c2 290 (by decide) (by decide), c2 291 (by decide) (by decide)] at z
          exact v ⟨z.1, h, g + 1, hh, hg, z.2.1, z.2.2, nf⟩
        rw [b2 nn d p p', pc d p p']; exact c2 d p p'
  · rw [if_neg q, if_neg q]; exact r
theorem FR_D {s : ab_X} {h : Nat} (hh : h < 12) (b272 : ∀ k, k < 72 → s.1 272 k = nI (nv s.1 272 k)) : ∀ (j : Nat) (t u : ab_X), j < 6 → FR s t u → FR s (flD (nI 0) h j t) (flD (nI 1) h j u)
  | 0, _, _, _, r => r
  | j + 1, t, u, hj, r => FR_D hh b272 j _ _ (by omega) (FR_F r hh hj b272)
theorem FR_A {s : ab_X} (b272 : ∀ k, k < 72 → s.1 272 k = nI (nv s.1 272 k)) : ∀ (m h : Nat) (t u : ab_X), h + m ≤ 12 → (∀ i, h ≤ i → i < h + m → nv s.1 256 i ≤ 6) → FR s t u → FR s (flA (nI 0) m h t) (flA (nI 1) m h u)
  | 0, _, _, _, _, _, r => r
  | m + 1, h, t, u, hm, b, r => by
    have e1 : nv t.1 256 h = nv s.1 256 h := by unfold nv; rw [r.2.2.2.2.2.2.2 256 (by decide) (by decide) (by decide) (by decide)]
    have e2 : nv u.1 256 h = nv s.1 256 h := by rw [← e1]; unfold nv; rw [r.1 256 (by unfold cs; omega)]
    show FR s (flA (nI 0) m (h + 1) (flD (nI 0) h (nv t.1 256 h - 1) t)) (flA (nI 1) m (h + 1) (flD (nI 1) h (nv u.1 256 h - 1) u))
    rw [e1, e2]
    have := b h (by omega) (by omega)
    exact FR_A b272 m (h + 1) _ _ (by omega) (fun i p q => b i (by omega) (by omega)) (FR_D (by omega) b272 _ _ _ (by omega) r)
