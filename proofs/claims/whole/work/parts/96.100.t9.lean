/-! A MINUTE, 27: the fire of a minute, the program. -/
theorem t_out {s : ab_X} (w : WW s.1) (Wa : Nat → Int32) (k : Nat) (q : ¬ (k / 6 < nv (stS s Wa).1 246 31 ∧ k % 6 < nv (stS s Wa).1 256 (k / 6))) : (stS s Wa).1 274 k = (fs1 s Wa).1 274 k := by
  have so := stS_o (Wa := Wa) w.tw
  have n31 : nv (stS s Wa).1 246 31 = nv (fs1 s Wa).1 246 31 := by unfold nv; rw [so.1 246 (by decide) (by decide) (by decide) (by decide), fs1_o (by decide) (by decide) (by decide)]
  have n256 : nv (stS s Wa).1 256 (k / 6) = nv (fs1 s Wa).1 256 (k / 6) := by unfold nv; rw [so.1 256 (by decide) (by decide) (by decide) (by decide), fs1_o (by decide) (by decide) (by decide)]
  rw [n31, n256] at q
  unfold stS
  refine flA_out _ 0 _ (fs1_tw w.tw) ?_ q
  rw [fs1_n]; omega
theorem bu_272 {s : ab_X} (w : WW s.1) (Wa : Nat → Int32) : (∀ k, k < 72 → nbd (buS s Wa).1 272 k 20) ∧ (∀ k, k < 72 → ¬ (stS s Wa).1 274 k = nI 0 → (buS s Wa).1 272 k = nI 0) := by
  have r := bu_FR w Wa
  have s272 : (fs1 s Wa).1 272 = s.1 272 := fs1_o (by decide) (by decide) (by decide)
  have s274 : (fs1 s Wa).1 274 = s.1 274 := fs1_o (by decide) (by decide) (by decide)
  have ub : ∀ k, k < 72 → nbd (buU s Wa).1 272 k 20 := fun k hk => by
    have b := (w.ho.2.2 k hk).1
    by_cases v : NF (fs1 s Wa) (stS s Wa) k
    · have g := (r.2.2.1 k).1 v
      unfold nbd; rw [nv_of g (by decide)]; exact ⟨g, by decide⟩
    · have g := (r.2.2.1 k).2 v
      rw [s272] at g
      unfold nbd nv at b ⊢; rw [g]; exact b
  have ev : ∀ k, (buS s Wa).1 272 k = (if k / 6 < nv (buU s Wa).1 246 31 ∧ k % 6 < nv (buU s Wa).1 256 (k / 6) then nI (nv (buU s Wa).1 272 k - lo (buU s Wa).1 (k / 6) (rmsN (buU s Wa).1 (k / 6)) (k % 6)) else (buU s Wa).1 272 k) := fun k => by
    unfold buS peS
    rw [wrT_n (by decide), wrT_e]
  refine ⟨fun k hk => ?_, fun k hk u => ?_⟩
  · have b := ub k hk
    have l := b.2
    rw [show nbd (buS s Wa).1 272 k 20 = ((buS s Wa).1 272 k = nI (nv (buS s Wa).1 272 k) ∧ nv (buS s Wa).1 272 k ≤ 20) from rfl]
    unfold nv
    rw [ev k]
    split
    · rw [cl_nI (by omega)]; exact ⟨rfl, by omega⟩
    · exact b
  · have z : (buU s Wa).1 272 k = nI 0 := by
      by_cases v : NF (fs1 s Wa) (stS s Wa) k
      · exact (r.2.2.1 k).1 v
      · rw [(r.2.2.1 k).2 v, s272]
        refine w.fi.2.2.2.2.1 k hk (fun e => v ⟨?_, u⟩)
        rw [s274]; exact e
    rw [ev k, z, nv_of z (by decide), Nat.zero_sub]
    split <;> rfl
theorem bu_who {s : ab_X} (w : WW s.1) (Wa : Nat → Int32) : Who (buS s Wa).1 := by
  have o := (bu_o w Wa).2.2
  have e : ∀ c k, c ≠ 263 → ¬ (266 ≤ c ∧ c ≤ 267) → c ≠ 271 → c ≠ 272 → c ≠ 274 → ¬ (286 ≤ c ∧ c ≤ 288) → c ≠ 290 → c ≠ 291 → nv (buS s Wa).1 c k = nv s.1 c k := fun c k a b d e f g h i => by unfold nv; rw [o c a b d e f g h i]
  obtain ⟨a1, a2, a3⟩ := w.ho
  have g := (bu_272 w Wa).1
  refine ⟨?_, ?_, fun k hk => ⟨g k hk, ?_⟩⟩
  · unfold nbd at a1 ⊢
    simp (disch := decide) only [e, o]
    exact a1
  · unfold nbd at a2 ⊢
    simp (disch := decide) only [e, o]
    exact a2
  · have := (a3 k hk).2
    unfold nbd at this ⊢
    simp (disch := decide) only [e, o]
    exact this
theorem bu_wfi {s : ab_X} (w : WW s.1) (Wa : Nat → Int32) : Wfi (buS s Wa).1 := by
  have o := (bu_o w Wa).1
  have so := (stS_o (Wa := Wa) w.tw).1
  have wt := stS_tw (Wa := Wa) w.tw
  have e : ∀ c k, ¬ cs c → nv (buS s Wa).1 c k = nv (stS s Wa).1 c k := fun c k p => by unfold nv; rw [o c p]
  obtain ⟨-, -, f1, f2, f3, f4⟩ := wt
  have L := stS_L (Wa := Wa) w.tw
  have d : ∀ c, (c < 263 ∨ (264 ≤ c ∧ c ≤ 271) ∨ (273 ≤ c ∧ c ≤ 285)) → ¬ cs c := fun c p => by unfold cs; omega
  refine ⟨?_, ?_, ?_, ?_, fun k hk u => ?_, ?_, fun h f p p' q => ?_⟩
  · unfold nbd at f1 ⊢
    simp only [e _ _ (d 266 (by decide)), e _ _ (d 267 (by decide)), o _ (d 266 (by decide)), o _ (d 267 (by decide))]
    exact f1
  · simp only [o _ (d 274 (by decide))]; exact f2
  · simp only [e _ _ (d 246 (by decide)), e _ _ (d 256 (by decide)), e _ _ (d 257 (by decide)), o _ (d 266 (by decide))]; exact f3
  · simp only [e _ _ (d 246 (by decide)), e _ _ (d 256 (by decide)), e _ _ (d 257 (by decide)), o _ (d 266 (by decide)), o _ (d 274 (by decide))]; exact f4
  · rw [o 274 (d 274 (by decide))] at u
    exact (bu_272 w Wa).2 k hk u
  · unfold WLd ld brN at L ⊢
    simp only [e _ _ (d 246 (by decide)), e _ _ (d 256 (by decide)), e _ _ (d 257 (by decide)), e _ _ (d 255 (by decide)), o _ (d 271 (by decide)), o _ (d 274 (by decide))]; exact L
  · rw [e _ _ (d 246 (by decide)), show nv (stS s Wa).1 246 31 = nv s.1 246 31 by unfold nv; rw [so 246 (by decide) (by decide) (by decide) (by decide)]] at p
    rw [o 271 (d 271 (by decide))]
    unfold stS
    rw [(flA_k _ _ _).1 271 (by decide) (by decide), fs1_271]
    unfold fb1
    rw [if_neg (by omega)]
    exact w.fi.2.2.2.2.2.2 h f p p' q
theorem fire_inv {x s z y a : ab_X} {Wa : Nat → Int32} (i : Inv2 x s) (tz : TR 11 z.1 (stS s Wa).1) (z1 : ∀ c, c < 11 ∨ 18 < c → z.1 c = x.1 c) (py : PQ (fs1 s Wa) (stS s Wa) z (nv (stS s Wa).1 246 31) 0 y) (ha : HC (fs1 s Wa) (stS s Wa) y a (nv s.1 246 58)) : Inv2P a (buS s Wa) := by
  have w := i.w
  have b58 := w.b58
  have b31 := w.b31
  obtain ⟨o1, o2, o3⟩ := bu_o w Wa
  have so := (stS_o (Wa := Wa) w.tw).1
  have wt := stS_tw (Wa := Wa) w.tw
  have n31 : nv (stS s Wa).1 246 31 = nv s.1 246 31 := by unfold nv; rw [so 246 (by decide) (by decide) (by decide) (by decide)]
  have v31 : nv (buS s Wa).1 246 31 = nv s.1 246 31 := by unfold nv; rw [o3 246 (by decide) (by decide) (by decide) (by decide) (by decide) (by decide) (by decide) (by decide)]
  have v58 : nv (buS s Wa).1 246 58 = nv s.1 246 58 := by unfold nv; rw [o3 246 (by decide) (by decide) (by decide) (by decide) (by decide) (by decide) (by decide) (by decide)]
  obtain ⟨p1, p2⟩ := vK (bu_FR w Wa) wt (t_out w Wa) py (fun k hk => by rw [fs1_nv (by decide) (by decide) (by decide), fs1_o (by decide) (by decide) (by decide)]; exact (w.ho.2.2 k hk).1.1)
  have ay : ∀ c, c < 82 ∨ 82 + nv s.1 246 58 ≤ c → a.1 c = y.1 c := ha.1
  have yz := py.1.1
  have ax : ∀ c, (18 < c ∧ c < 30) ∨ c < 11 ∨ (65 < c ∧ c < 82) ∨ 82 + nv s.1 246 58 ≤ c → a.1 c = x.1 c := fun c p => by
    rw [ay c (by omega), yz c (by omega), z1 c (by omega)]
  have yx : ∀ c, 65 < c → y.1 c = x.1 c := fun c p => by rw [yz c (by omega), z1 c (by omega)]
  have d : ∀ c, (c < 263 ∨ (264 ≤ c ∧ c ≤ 271) ∨ (273 ≤ c ∧ c ≤ 285)) → (buS s Wa).1 c = (stS s Wa).1 c := fun c p => o1 c (by unfold cs; omega)
  have yo : ∀ c, (c < 263 ∨ (264 ≤ c ∧ c ≤ 271) ∨ (273 ≤ c ∧ c ≤ 285)) → (Yp (stS s Wa) y).1 c = (buS s Wa).1 c := fun c p => by rw [Yp_o (by omega) (by omega), d c p]
  have rho := (TR_p tz (by omega) py.1).2.1
  have rr := RR_fire (X := x.1) (Y := s.1) (X' := a.1) (Y' := (buS s Wa).1) (D := s.2.1 329) w i.r (fun c p => ax c (by omega)) (fun c p q1 q2 q3 q4 q5 q6 => o3 c q1 q2 q3 q4 q5 (by omega) (by omega) (by omega)) ?_ ?_ ?_ (bu_who w Wa) (bu_wfi w Wa) (bu_wcr w Wa)
  · refine Inv2P_of ?_ rr.2
    rw [o2]; exact rr.1
  · obtain ⟨h1, h2, h3, h4⟩ := rho
    have e31 : nv (Yp (stS s Wa) y).1 246 31 = nv (buS s Wa).1 246 31 := by unfold nv; rw [yo 246 (by decide)]
    refine ⟨fun h p => ?_, fun h f p p' => ?_, fun h p => ?_, fun h p p' => ?_⟩
    · obtain ⟨a0, a1, a2, a3, a4, a5, a6⟩ := h1 h p
      rw [yo 265 (by decide)] at a1
      rw [yo 259 (by decide)] at a2
      rw [yo 261 (by decide)] at a3
      rw [yo 262 (by decide)] at a4
      rw [yo 264 (by decide)] at a6
      rw [ay _ (by omega)]
      exact ⟨a0, a1, a2, a3, a4, p2 h p, a6⟩
    · obtain ⟨a0, a1⟩ := h2 h f p p'
      rw [yo 273 (by decide)] at a0
      rw [ay _ (by omega), ay _ (by omega)]
      exact ⟨a0, p1 h f p p'⟩
    · have p' : h < 12 := by omega
      have g := h3 h (by rw [e31]; exact p)
      have epr : prv (Yp (stS s Wa) y).1 h = prv (buS s Wa).1 h := by unfold prv; rw [yo 254 (by decide)]
      have enx : ∀ n, nxt (Yp (stS s Wa) y).1 n h = nxt (buS s Wa).1 n h := fun n => by unfold nxt; rw [yo 254 (by decide)]
      rw [epr, enx, e31, yo 254 (by decide), yo 255 (by decide), yo 256 (by decide), yo 257 (by decide), yo 258 (by decide), yo 260 (by decide)] at g
      rw [ay _ (by omega)]
      exact g
    · rw [ay _ (by omega)]
      exact h4 h (by rw [e31]; exact p) p'
  · obtain ⟨f1, f2, f3, f4⟩ := tz.2.2
    obtain ⟨q1, q2, q3, q4⟩ := i.r.fi
    refine ⟨fun k p => ?_, fun k p => ?_, ?_, fun u k p => ?_⟩
    · rw [ay 12 (by omega), ay 13 (by omega), ay 17 (by omega), yz 12 (by omega), yz 13 (by omega), yz 17 (by omega), ax 25 (by omega), d 266 (by decide), d 267 (by decide)]
      exact ⟨(f1 k p).1, (f1 k p).2.1, (f1 k p).2.2, (q1 k p).2.2.2⟩
    · rw [ay 15 (by omega), ay 16 (by omega), yz 15 (by omega), yz 16 (by omega), ax 24 (by omega), d 271 (by decide), d 274 (by decide)]
      exact ⟨(f2 k p).1, (f2 k p).2, (q2 k p).2.2⟩
    · rw [ay 11 (by omega), yz 11 (by omega)]; exact f3
    · rw [ay 11 (by omega), yz 11 (by omega)] at u
      rw [d 266 (by decide)]; exact f4 u k p
  · obtain ⟨q1, q2⟩ := i.r.cr
    refine ⟨fun j hj => ?_, fun j p p' => ?_⟩
    · rw [v58] at hj
      obtain ⟨r0, r1, r2, r3, r4, r5, r6, r7, r8, r9, r10, r11, r12, r13, r14, r15, r16⟩ := q1 j hj
      obtain ⟨g1, g2⟩ := ha.2.2 j hj
      obtain ⟨c1, c2⟩ := bu_cr w Wa hj
      have ev : ∀ c, c ≠ 263 → ¬ (266 ≤ c ∧ c ≤ 267) → c ≠ 271 → c ≠ 272 → c ≠ 274 → ¬ (286 ≤ c ∧ c ≤ 288) → c ≠ 290 → c ≠ 291 → (buS s Wa).1 c j = s.1 c j := fun c a b c' d e f g h => by rw [o3 c a b c' d e f g h]
      rw [yx (82 + j) (by omega)] at g1 g2
      by_cases v : HB (fs1 s Wa) (stS s Wa) j
      · obtain ⟨a1, a2, a3, a4, a5, a6⟩ := g1 v
        obtain ⟨b1, b2, b3, b4, b5⟩ := c1 v
        rw [b1, b2, b3, b4, b5]
        simp (disch := decide) only [ev]
        rw [a1, a2, a3, a4, a5, a6 0 (by decide) (by decide) (by decide) (by decide) (by decide), a6 1 (by decide) (by decide) (by decide) (by decide) (by decide), a6 2 (by decide) (by decide) (by decide) (by decide) (by decide), a6 3 (by decide) (by decide) (by decide) (by decide) (by decide), a6 4 (by decide) (by decide) (by decide) (by decide) (by decide), a6 5 (by decide) (by decide) (by decide) (by decide) (by decide), a6 6 (by decide) (by decide) (by decide) (by decide) (by decide), a6 7 (by decide) (by decide) (by decide) (by decide) (by decide), a6 11 (by decide) (by decide) (by decide) (by decide) (by decide), a6 14 (by decide) (by decide) (by decide) (by decide) (by decide), a6 15 (by decide) (by decide) (by decide) (by decide) (by decide), a6 16 (by decide) (by decide) (by decide) (by decide) (by decide)]
        exact ⟨r0, r1, r2, r3, r4, r5, r6, r7, rfl, r1, rfl, r11, rfl, rfl, r14, r15, r16⟩
      · have c2 := c2 v
        rw [g2 v, c2 286 (by decide) (by decide), c2 287 (by decide) (by decide), c2 288 (by decide) (by decide), c2 290 (by decide) (by decide), c2 291 (by decide) (by decide)]
        simp (disch := decide) only [ev]
        exact ⟨r0, r1, r2, r3, r4, r5, r6, r7, r8, r9, r10, r11, r12, r13, r14, r15, r16⟩
    · rw [v58] at p
      rw [ax (82 + j) (by omega)]; exact q2 j p p'
