/-! A MINUTE, 9: all crews at work, the program. -/
theorem tkS_o (s : ab_X) (j : Nat) : (∀ d, d ≠ 262 → d ≠ 272 → (tkS s j).1 d = s.1 d) ∧ (tkS s j).2 = s.2 := by
  unfold tkS tkA
  split
  · exact ⟨fun d p q => by rw [wr_n p, wr_n q], rfl⟩
  · exact ⟨fun _ _ _ => rfl, rfl⟩
theorem wk1_o (q : WS) (j : Nat) : (∀ d, d ≠ 262 → d ≠ 272 → d ≠ 291 → (wk1 q j).1.1 d = q.1.1 d) ∧ (wk1 q j).1.2 = q.1.2 := by
  unfold wk1
  split
  · exact ⟨fun d p p' p'' => wr_n p'', rfl⟩
  · exact ⟨fun d p p' p'' => (tkS_o q.1 j).1 d p p', (tkS_o q.1 j).2⟩
theorem wkN_o (s : ab_X) : ∀ j, (∀ d, d ≠ 262 → d ≠ 272 → d ≠ 291 → d ≠ 295 → (wkN s j).1.1 d = s.1 d) ∧ (wkN s j).1.2 = s.2
  | 0 => ⟨fun d _ _ p q => (rsN_o s _).1 d p q, (rsN_o s _).2⟩
  | j + 1 => by
    obtain ⟨a, b⟩ := wkN_o s j
    obtain ⟨a', b'⟩ := wk1_o (wkN s j) j
    exact ⟨fun d p p' p'' p3 => (a' d p p' p'').trans (a d p p' p'' p3), b'.trans b⟩
theorem wkN_t (s : ab_X) (j : Nat) : keepT s.1 (wkN s j).1.1 := fun c k q => by unfold tk at q; rw [(wkN_o s j).1 c (by omega) (by omega) (by omega) (by omega)]
theorem wkN_w {s : ab_X} (w : WW s.1) (ht : InvT s.1) (j : Nat) : InvT (wkN s j).1.1 := InvT_keep ht (by have := w.b72; exact this) (wkN_t s j)
theorem c_workB {x s : ab_X} (i : Inv2 x s) {K : ab_X → Prop} (k : ∀ y, CW (nv s.1 246 58) y (wkN s 0) → keepT x.1 y.1 → smM x y → y.1 11 7 = x.1 11 7 → Lp2 (lX0_workAll_37 K) 0 y) : wX0_workAll x K := by
  have b58 := i.w.b58
  have go : ∀ x1 : ab_X, Inv2 x1 s → (x1.1 11 7 = nI 0 → ∀ k, k < 288 → x1.1 14 k = nI 0) → keepT x.1 x1.1 → smM x x1 → x1.1 11 7 = x.1 11 7 → Lp2 (lX0_workAll_12 K) 0 x1 := by
    intro x1 i1 c1 kt1 sm1 e1
    refine Lp2.ind (fun ii a y => ∃ j, j ≤ nv s.1 246 58 ∧ ii = nv s.1 246 58 - j ∧ a = nI j ∧ Inv2 y (rsN s j) ∧ (y.1 11 7 = nI 0 → ∀ k, k < 288 → y.1 14 k = nI 0) ∧ (∀ i, i < j → cR y i none) ∧ keepT x.1 y.1 ∧ smM x y ∧ y.1 11 7 = x.1 11 7) (nv s.1 246 58) ⟨0, Nat.zero_le _, rfl, rfl, i1, c1, fun i hi => by omega, kt1, sm1, e1⟩ ?_
    rintro ii a y ⟨j, hj, hii, rfl, hy, cw, cr, kt, sm, e7⟩ L hL
    have n58 : nv (rsN s j).1 246 58 = nv s.1 246 58 := by unfold nv; rw [(rsN_o s j).1 246 (by decide) (by decide)]
    have w := hy.w
    unfold lX0_workAll_12
    have ej : nI j + 1 = nI (j + 1) := nI_add j 1
    rw [hy.r.s58, w.v58, n58, q_le (by omega) (by omega), ej]
    refine ⟨fun q => ?_, fun q => ⟨(vpi (by omega) (by decide)).mpr trivial, ?_⟩⟩
    · have : j = nv s.1 246 58 := by omega
      subst this
      exact k y ⟨hy, cw, cr⟩ kt sm e7
    unfold wX2_beginMinute
    rw [cl_nI (by omega)]
    have ez : ∀ d, d ≠ 82 + j → (wr (wr (wr (wr (wr y (82 + j) 16 0) (82 + j) 17 0) (82 + j) 13 (-1)) (82 + j) 18 (-1)) (82 + j) 19 (-1)).1 d = y.1 d := fun d p => by simp (disch := omega) only [wr_n]
    refine hL _ _ _ (by omega) ⟨j + 1, by omega, rfl, rfl, ?_, ?_, fun i' hi => ?_, kt.tr (fun d i' q' => ?_), sm.tr ⟨fun d p => ez d (by omega), rfl⟩, by rw [ez 11 (by omega)]; exact e7⟩
    · have i1 : Inv2 (wr (wr y (82 + j) 16 (nI 0)) (82 + j) 13 (-nI 1)) (rsO (rsN s j) j) := by
        unfold Inv2 rsO
        rw [mg_wm (by omega), mg_wm (by omega), mg_wc (by omega), mg_wc (by omega)]
        refine i_reset hy (j := j) ?_ rfl
        unfold nv; rw [mg_m (by decide)]
        have : j < nv (rsN s j).1 246 58 := by omega
        exact this
      refine i1.kc ⟨fun d p => ?_, ?_, fun cc f p p' => ?_⟩
      · have : d ≠ 82 + j := by unfold kC at p; omega
        rw [ez d this, wr_n this, wr_n this]
      · rw [ez 158 (by omega), wr_n (by omega), wr_n (by omega)]
      · by_cases e : cc = j
        · subst e
          by_cases e' : f = 13
          · subst e'; simp (disch := omega) only [wr_ne, wr_e]; rfl
          · by_cases e3 : f = 16
            · subst e3; simp (disch := omega) only [wr_ne, wr_e]; rfl
            · simp (disch := omega) only [wr_ne]
        · rw [ez _ (by omega), wr_n (by omega), wr_n (by omega)]
    · intro u kk hk
      rw [ez 14 (by omega)]
      rw [ez 11 (by omega)] at u
      exact cw u kk hk
    · by_cases e : i' = j
      · subst e
        refine ⟨?_, ?_⟩ <;> simp (disch := omega) only [wr_ne, wr_e] <;> rfl
      · have := cr i' (by omega)
        unfold cR at this ⊢
        rw [ez _ (by omega)]; exact this
    · unfold tk at q'
      rw [ez d (by omega)]
  unfold wX0_workAll wX3_dry
  refine ⟨fun q => go x i (fun u => absurd u q) keepT.rfl' smM.rfl' rfl, fun q => ?_⟩
  refine c_fill (by decide) (fun y y1 y2 y3 y4 => go y (i.kc ⟨fun c p => y1 c (by unfold kC at p; omega), by rw [y1 158 (by omega)], fun c f p p' => by rw [y1 _ (by omega)]⟩) (fun _ kk hk => y3 kk hk) (fun c kk p => by unfold tk at p; rw [y1 c (by omega)]) ⟨fun c p => y1 c (by omega), y2⟩ (by rw [y1 11 (by omega)]))
theorem c_workAll {x s : ab_X} (i : Inv2 x s) (ht : InvT s.1) (kt : keepT s.1 x.1) {K : ab_X → Prop} (k : ∀ y, CW (nv s.1 246 58) y (wkN s (nv s.1 246 58)) → keepT x.1 y.1 → smM x y → y.1 11 7 = x.1 11 7 → K y) : wX0_workAll x K := by
  have b58 := i.w.b58
  refine c_workB i (fun xb c1 kt1 sm1 e1 => ?_)
  refine Lp2.ind (fun ii a y => ∃ j, j ≤ nv s.1 246 58 ∧ ii = nv s.1 246 58 - j ∧ a = nI j ∧ CW (nv s.1 246 58) y (wkN s j) ∧ keepT x.1 y.1 ∧ smM x y ∧ y.1 11 7 = x.1 11 7) (nv s.1 246 58) ⟨0, Nat.zero_le _, rfl, rfl, c1, kt1, sm1, e1⟩ ?_
  rintro ii a y ⟨j, hj, hii, rfl, cy, kty, sm, e7⟩ L hL
  have n58 : nv (wkN s j).1.1 246 58 = nv s.1 246 58 := by unfold nv; rw [(wkN_o s j).1 246 (by decide) (by decide) (by decide) (by decide)]
  have hy := cy.1
  have w := hy.w
  have b31 := w.b31
  have ht' := wkN_w i.w ht j
  have kt' : keepT (wkN s j).1.1 y.1 := fun c kk p => by rw [kty c kk p, kt c kk p, wkN_t s j c kk p]
  unfold lX0_workAll_37
  have ej : nI j + 1 = nI (j + 1) := nI_add j 1
  rw [hy.r.s58, w.v58, n58, q_le (by omega) (by omega), ej]
  refine ⟨fun q => ?_, fun q => ⟨(vpi (by omega) (by decide)).mpr trivial, ?_⟩⟩
  · have : j = nv s.1 246 58 := by omega
    subst this
    exact k y cy kty sm e7
  have hj' : j < nv (wkN s j).1.1 246 58 := by omega
  have next : ∀ z, CW (nv s.1 246 58) z (wk1 (wkN s j) j) → keepT y.1 z.1 → smM y z → z.1 11 7 = y.1 11 7 → L (nI (j + 1)) z := fun z a b c d => hL _ _ _ (by omega) ⟨j + 1, by omega, rfl, rfl, a, kty.tr b, sm.tr c, d.trans e7⟩
  generalize wkN s j = q at *
  obtain ⟨v0, v1, v2, v3, v3', v4, v5, v6, v7, v8, v9, v10, -⟩ := w.cr.1 j hj'
  have l0 := v0.2
  have l8 := v8.2
  obtain ⟨r0, r1, r2, r3, r4, r5, r6, r7, r8, r9, r10, r11, r12, -⟩ := hy.r.cr.1 j hj'
  have no : ¬ (nv q.1.1 286 j = 2 ∧ nv q.1.1 279 j < 3) → wk1 q j = q := by
    intro u
    have e0 : aimO q.1.1 q.2.1 j = none := by
      unfold aimO; rw [if_neg (fun u' => u ⟨u'.1, by have := u'.2.1; omega⟩)]
    unfold wk1; rw [e0]
    show (tkS q.1 j, q.2.1, q.2.2) = q
    unfold tkS; rw [if_neg (fun u' => u ⟨u'.1, by have := u'.2.1; omega⟩)]
  have skip : ¬ (nv q.1.1 286 j = 2 ∧ nv q.1.1 279 j < 3) → L (nI (j + 1)) y := fun u => next y (by rw [no u]; exact cy) keepT.rfl' smM.rfl' rfl
  rw [cl_nI (by omega), r8, v8.1, r12, r0, v0.1]
  have e2 : (nI (nv q.1.1 286 j) = 2) ↔ nv q.1.1 286 j = 2 := q_eq (by omega) (by decide)
  have e2' : (nI (nv q.1.1 279 j) = 2) ↔ nv q.1.1 279 j = 2 := q_eq (by omega) (by decide)
  rw [e2, e2']
  refine ⟨fun u => skip (fun u' => u u'.1), fun u => ?_⟩
  obtain ⟨m0, m1, m2⟩ := (w.cr.2.2.1 j hj').2.1 u
  have lm := m0.2
  have vm : vp_in (nI (nv q.1.1 290 j)) 12 := (vpi (by omega) (by decide)).mpr trivial
  rw [f_has10, hy.r.s31, w.v31, m0.1, jx_I m1 (by omega), cl_nI (by omega)]
  refine ⟨fun u1 => absurd u1 (by decide), fun _ => ⟨fun u1 => ?_, fun u1 => ⟨vm, ?_⟩⟩⟩
  · have hose : nv q.1.1 279 j < 2 → vp_in (nI (nv q.1.1 290 j)) 12 ∧ wX0_aim (82 + j) (30 + 3 * nv q.1.1 290 j) y (fun x8 => L (nI (j + 1)) x8) := fun u2 => ⟨vm, c_aim cy b58 ht' kt' hj' u u2 next⟩
    unfold wX2_hasHose
    rw [r0, v0.1]
    have f0 : (nI (nv q.1.1 279 j) = 0) ↔ nv q.1.1 279 j = 0 := q_eq (by omega) (by decide)
    have f1 : (nI (nv q.1.1 279 j) = 1) ↔ nv q.1.1 279 j = 1 := q_eq (by omega) (by decide)
    rw [f0, f1]
    refine ⟨fun u2 => ⟨fun u3 => absurd u3 (by decide), fun _ => hose (by omega)⟩, fun u2 => ⟨fun u3 => ⟨fun _ => skip (fun u' => by have := u'.2; omega), fun u4 => absurd rfl u4⟩, fun u3 => ⟨fun u4 => absurd u4 (by decide), fun _ => hose (by omega)⟩⟩⟩
  · refine c_takeOut hy hj' u u1 (fun z z1 z2 z3 z4 => next z ?_ z2 z3 (by rw [z4 11 (by omega)]))
    have e0 : aimO q.1.1 q.2.1 j = none := by
      unfold aimO; rw [if_neg (fun u' => by have := u'.2.1; omega)]
    unfold wk1; rw [e0]
    refine ⟨z1, fun u' kk hk => ?_, fun i' hi => ?_⟩
    · rw [z4 11 (by omega)] at u'
      rw [z4 14 (by omega)]; exact cy.2.1 u' kk hk
    · have := cy.2.2 i' hi
      unfold cR at this ⊢
      rw [z4 _ (by omega)]; exact this
