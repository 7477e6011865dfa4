/-! A MINUTE, 26: what holds after the fire, the groups. -/
theorem bu_FR {s : ab_X} (w : WW s.1) (Wa : Nat → Int32) : FR (fs1 s Wa) (stS s Wa) (buU s Wa) := by
  have tw := w.tw
  have b := tw.b
  have wz := fs1_tw (Wa := Wa) tw
  have n31 : nv (fs1 s Wa).1 246 31 = nv s.1 246 31 := fs1_n
  unfold stS buU
  refine FR_A (fun k hk => (wz.2.1.2.2 k hk).1.1) _ 0 _ _ (by omega) (fun i p q => (wz.2.1.1 i (by rw [n31]; omega)).2.2.1.2) (FR_0 _)
theorem bu_o {s : ab_X} (w : WW s.1) (Wa : Nat → Int32) : (∀ c, ¬ cs c → (buS s Wa).1 c = (stS s Wa).1 c) ∧ (buS s Wa).2 = s.2 ∧ (∀ c, c ≠ 263 → ¬ (266 ≤ c ∧ c ≤ 267) → c ≠ 271 → c ≠ 272 → c ≠ 274 → ¬ (286 ≤ c ∧ c ≤ 288) → c ≠ 290 → c ≠ 291 → (buS s Wa).1 c = s.1 c) := by
  have r := bu_FR w Wa
  have so := stS_o (Wa := Wa) w.tw
  have a : ∀ c, ¬ cs c → (buS s Wa).1 c = (stS s Wa).1 c := fun c hc => by
    unfold buS
    rw [(peS_o _).1 c (by unfold cs at hc; omega) (by unfold cs at hc; omega)]
    exact r.1 c hc
  refine ⟨a, ?_, fun c h1 h2 h3 h4 h5 h6 h7 h8 => ?_⟩
  · unfold buS
    rw [(peS_o _).2, r.2.1, so.2.2.2]
  · rw [a c (by unfold cs; omega)]
    exact so.1 c (by omega) (by omega) (by omega) (by omega)
theorem bu_cr {s : ab_X} (w : WW s.1) (Wa : Nat → Int32) {i : Nat} (hi : i < nv s.1 246 58) : (HB (fs1 s Wa) (stS s Wa) i → (buS s Wa).1 286 i = nI 4 ∧ (buS s Wa).1 287 i = s.1 280 i ∧ (buS s Wa).1 288 i = -nI 1 ∧ (buS s Wa).1 290 i = -nI 1 ∧ (buS s Wa).1 291 i = -nI 1) ∧ (¬ HB (fs1 s Wa) (stS s Wa) i → ∀ d, 286 ≤ d → d ≤ 291 → (buS s Wa).1 d i = s.1 d i) := by
  have r := bu_FR w Wa
  have n58 : nv (fs1 s Wa).1 246 58 = nv s.1 246 58 := fs1_nv (by decide) (by decide) (by decide)
  obtain ⟨a, b⟩ := r.2.2.2.2.2.2.1 i (by rw [n58]; exact hi)
  have o : ∀ d, 286 ≤ d → d ≤ 291 → (buS s Wa).1 d = (buU s Wa).1 d := fun d p q => by unfold buS; exact (peS_o _).1 d (by omega) (by omega)
  have e280 : (fs1 s Wa).1 280 = s.1 280 := fs1_o (by decide) (by decide) (by decide)
  rw [e280] at a
  refine ⟨fun v => ?_, fun v d p q => ?_⟩
  · rw [o 286 (by decide) (by decide), o 287 (by decide) (by decide), o 288 (by decide) (by decide), o 290 (by decide) (by decide), o 291 (by decide) (by decide)]; exact a v
  · rw [o d p q, b v d p q, fs1_o (by omega) (by omega) (by omega)]
theorem bu_cr2 {s : ab_X} (w : WW s.1) (Wa : Nat → Int32) {i : Nat} (hi : nv s.1 246 58 ≤ i) {d : Nat} (p : 286 ≤ d) (q : d ≤ 291) : (buS s Wa).1 d i = s.1 d i := by
  have r := bu_FR w Wa
  have n58 : nv (fs1 s Wa).1 246 58 = nv s.1 246 58 := fs1_nv (by decide) (by decide) (by decide)
  have := r.2.2.2.2.2.1 i (by rw [n58]; exact hi) d p q
  unfold buS
  rw [(peS_o _).1 d (by omega) (by omega), this, fs1_o (by omega) (by omega) (by omega)]
/-- the bounds on crews -/
theorem bu_wcr {s : ab_X} (w : WW s.1) (Wa : Nat → Int32) : Wcr (buS s Wa).1 := by
  have o := (bu_o w Wa).2.2
  obtain ⟨c1, c2, c3, c4⟩ := w.cr
  have e : ∀ c k, c ≠ 263 → ¬ (266 ≤ c ∧ c ≤ 267) → c ≠ 271 → c ≠ 272 → c ≠ 274 → ¬ (286 ≤ c ∧ c ≤ 288) → c ≠ 290 → c ≠ 291 → nv (buS s Wa).1 c k = nv s.1 c k := fun c k a b d e f g h i => by unfold nv; rw [o c a b d e f g h i]
  have n58 : nv (buS s Wa).1 246 58 = nv s.1 246 58 := e _ _ (by decide) (by decide) (by decide) (by decide) (by decide) (by decide) (by decide) (by decide)
  have nb : ∀ c k b, c ≠ 263 → ¬ (266 ≤ c ∧ c ≤ 267) → c ≠ 271 → c ≠ 272 → c ≠ 274 → ¬ (286 ≤ c ∧ c ≤ 288) → c ≠ 290 → c ≠ 291 → nbd s.1 c k b → nbd (buS s Wa).1 c k b := fun c k b a b' d e' f g h i v => by unfold nbd at v ⊢; rw [e c k a b' d e' f g h i, o c a b' d e' f g h i]; exact v
  refine ⟨fun i hi => ?_, fun i hi => ?_, fun i hi => ?_, fun i p q => ?_⟩
  · rw [n58] at hi
    obtain ⟨v0, v1, v2, v3, v3', v4, v5, v6, v7, v8, v9, v10, v11, v12⟩ := c1 i hi
    refine ⟨nb _ _ _ (by decide) (by decide) (by decide) (by decide) (by decide) (by decide) (by decide) (by decide) v0, nb _ _ _ (by decide) (by decide) (by decide) (by decide) (by decide) (by decide) (by decide) (by decide) v1, by rw [o 298 (by decide) (by decide) (by decide) (by decide) (by decide) (by decide) (by decide) (by decide)]; exact v2, nb _ _ _ (by decide) (by decide) (by decide) (by decide) (by decide) (by decide) (by decide) (by decide) v3, by rw [e 281 i (by decide) (by decide) (by decide) (by decide) (by decide) (by decide) (by decide) (by decide)]; exact v3', nb _ _ _ (by decide) (by decide) (by decide) (by decide) (by decide) (by decide) (by decide) (by decide) v4, nb _ _ _ (by decide) (by decide) (by decide) (by decide) (by decide) (by decide) (by decide) (by decide) v5, nb _ _ _ (by decide) (by decide) (by decide) (by decide) (by decide) (by decide) (by decide) (by decide) v6, nb _ _ _ (by decide) (by decide) (by decide) (by decide) (by decide) (by decide) (by decide) (by decide) v7, ?_, ?_, nb _ _ _ (by decide) (by decide) (by decide) (by decide) (by decide) (by decide) (by decide) (by decide) v10, nb _ _ _ (by decide) (by decide) (by decide) (by decide) (by decide) (by decide) (by decide) (by decide) v11, by rw [e 293 i (by decide) (by decide) (by decide) (by decide) (by decide) (by decide) (by decide) (by decide), e 246 1 (by decide) (by decide) (by decide) (by decide) (by decide) (by decide) (by decide) (by decide)]; exact v12⟩
    · by_cases v : HB (fs1 s Wa) (stS s Wa) i
      · have g := ((bu_cr w Wa hi).1 v).1
        unfold nbd; rw [nv_of g (by decide)]; exact ⟨g, by decide⟩
      · have g := (bu_cr w Wa hi).2 v 286 (by decide) (by decide)
        unfold nbd nv at v8 ⊢; rw [g]; exact v8
    · by_cases v : HB (fs1 s Wa) (stS s Wa) i
      · have g := ((bu_cr w Wa hi).1 v).2.1
        unfold nbd nv at v1 ⊢; rw [g]; exact v1
      · have g := (bu_cr w Wa hi).2 v 287 (by decide) (by decide)
        unfold nbd nv at v9 ⊢; rw [g]; exact v9
  · rw [n58] at hi
    simp (disch := decide) only [e]
    exact c2 i hi
  · rw [n58] at hi
    obtain ⟨t0, t1, t2, t3⟩ := c3 i hi
    by_cases v : HB (fs1 s Wa) (stS s Wa) i
    · obtain ⟨g1, g2, g3, g4, g5⟩ := (bu_cr w Wa hi).1 v
      rw [nv_of g1 (by decide)]
      exact ⟨fun q => absurd q (by decide), fun q => absurd q (by decide), fun _ => ⟨g4, g5⟩, fun q => by omega⟩
    · have g := (bu_cr w Wa hi).2 v
      have n286 : nv (buS s Wa).1 286 i = nv s.1 286 i := by unfold nv; rw [g 286 (by decide) (by decide)]
      have n289 : nv (buS s Wa).1 289 i = nv s.1 289 i := by unfold nv; rw [g 289 (by decide) (by decide)]
      have n290 : nv (buS s Wa).1 290 i = nv s.1 290 i := by unfold nv; rw [g 290 (by decide) (by decide)]
      unfold nbd at t0 t1 ⊢
      rw [n286, n289, n290, g 287 (by decide) (by decide), g 288 (by decide) (by decide), g 289 (by decide) (by decide), g 290 (by decide) (by decide), g 291 (by decide) (by decide), e 246 92 (by decide) (by decide) (by decide) (by decide) (by decide) (by decide) (by decide) (by decide), e 246 31 (by decide) (by decide) (by decide) (by decide) (by decide) (by decide) (by decide) (by decide), o 254 (by decide) (by decide) (by decide) (by decide) (by decide) (by decide) (by decide) (by decide)]
      exact ⟨t0, t1, t2, t3⟩
  · rw [n58] at p
    rw [bu_cr2 w Wa p (by decide) (by decide), o 292 (by decide) (by decide) (by decide) (by decide) (by decide) (by decide) (by decide) (by decide), o 293 (by decide) (by decide) (by decide) (by decide) (by decide) (by decide) (by decide) (by decide), o 295 (by decide) (by decide) (by decide) (by decide) (by decide) (by decide) (by decide) (by decide)]
    exact c4 i p q
