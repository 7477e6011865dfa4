/-! A MINUTE, 31: crews are sent home, all tire. -/
theorem tn_IP {x s : ab_X} {j : Nat} (h : Inv2P x s) (hj : j < nv s.1 246 58) : ∃ y, Inv2P y (tnS s j) := by
  have w := h.w
  have b1 := w.b1
  obtain ⟨v0, v1, -⟩ := w.cr.1 j hj
  have u1 := v1.2
  have n58 : nv (mg x s).1 246 58 = nv s.1 246 58 := by unfold nv; rw [mg_m (by decide)]
  have b58 := w.b58
  unfold tnS
  rcases cmr_d (Y := s.1) (nv s.1 287 j) (nv s.1 280 j) (nv s.1 246 1) (slN s.1 j) with e | ⟨t, ht, e⟩
  · have e : tnA s j = -nI 1 := e
    rw [if_pos (Or.inl e)]
    refine ⟨wr (wr (wr (wr (wr x (82 + j) 12 (-nI 1)) (82 + j) 13 (-nI 1)) (82 + j) 8 (nI 0)) (82 + j) 9 (nI (nv s.1 280 j))) (82 + j) 10 (-nI 1), ?_⟩
    unfold Inv2P rsS
    rw [v1.1]
    simp (disch := omega) only [mg_wc, mg_wm]
    exact i_restP (j := j) h (by omega) (show nv s.1 280 j < 20 by omega) rfl
  · have e : tnA s j = nI (nv s.1 246 1 + t) := e
    by_cases q : tnA s j = -nI 1 ∨ tnA s j = nI (nv s.1 246 1)
    · rw [if_pos q]
      refine ⟨wr (wr (wr (wr (wr x (82 + j) 12 (-nI 1)) (82 + j) 13 (-nI 1)) (82 + j) 8 (nI 0)) (82 + j) 9 (nI (nv s.1 280 j))) (82 + j) 10 (-nI 1), ?_⟩
      unfold Inv2P rsS
      rw [v1.1]
      simp (disch := omega) only [mg_wc, mg_wm]
      exact i_restP (j := j) h (by omega) (show nv s.1 280 j < 20 by omega) rfl
    · rw [if_neg q, e]
      refine ⟨wr (wr (wr (wr (wr x (82 + j) 12 (-nI 1)) (82 + j) 13 (-nI 1)) (82 + j) 8 (nI 3)) (82 + j) 9 (nI (nv s.1 280 j))) (82 + j) 10 (nI (nv s.1 246 1 + t)), ?_⟩
      unfold Inv2P rsS
      rw [v1.1]
      simp (disch := omega) only [mg_wc, mg_wm]
      exact i_wayP (j := j) h (by omega) (show nv s.1 280 j < 20 by omega) rfl
def homC (s : ab_X) (j : Nat) : Prop := s.1 286 j = nI 2 ∧ wor s.1 (s.1 287 j) = -nI 1
noncomputable def homS (s : ab_X) (j : Nat) : ab_X := @ite _ (homC s j) (Classical.propDecidable _) (tnS s j) s
noncomputable def homN (s : ab_X) : Nat → ab_X
  | 0 => s
  | j + 1 => homS (homN s j) j
theorem tnS_o (s : ab_X) (j : Nat) : (∀ d, ¬ (286 ≤ d ∧ d ≤ 291) → (tnS s j).1 d = s.1 d) ∧ (tnS s j).2 = s.2 := by
  unfold tnS rsS
  split
  · exact ⟨fun d p => by simp (disch := omega) only [wr_n], rfl⟩
  · exact ⟨fun d p => by simp (disch := omega) only [wr_n], rfl⟩
theorem homN_o (s : ab_X) : ∀ j, (∀ d, ¬ (286 ≤ d ∧ d ≤ 291) → (homN s j).1 d = s.1 d) ∧ (homN s j).2 = s.2
  | 0 => ⟨fun _ _ => rfl, rfl⟩
  | j + 1 => by
    obtain ⟨a, b⟩ := homN_o s j
    show (∀ d, ¬ (286 ≤ d ∧ d ≤ 291) → (homS (homN s j) j).1 d = s.1 d) ∧ (homS (homN s j) j).2 = s.2
    unfold homS
    split
    · obtain ⟨a', b'⟩ := tnS_o (homN s j) j
      exact ⟨fun d p => (a' d p).trans (a d p), b'.trans b⟩
    · exact ⟨a, b⟩
theorem homN_I {x s : ab_X} (h : Inv2P x s) : ∀ j, j ≤ nv s.1 246 58 → ∃ y, Inv2P y (homN s j)
  | 0, _ => ⟨x, h⟩
  | j + 1, hj => by
    obtain ⟨y, hy⟩ := homN_I h j (by omega)
    have n58 : nv (homN s j).1 246 58 = nv s.1 246 58 := by unfold nv; rw [(homN_o s j).1 246 (by decide)]
    show ∃ y, Inv2P y (homS (homN s j) j)
    unfold homS
    split
    · exact tn_IP hy (by omega)
    · exact ⟨y, hy⟩
theorem c_home {x s : ab_X} (h : Inv2P x s) {K : ab_X → Prop} (k : ∀ y, Inv2P y (homN s (nv s.1 246 58)) → keepT x.1 y.1 → smM x y → K y) : wX0_sendHome x K := by
  have b58 := h.w.b58
  unfold wX0_sendHome
  refine Lp2.ind (fun ii a y => ∃ j, j ≤ nv s.1 246 58 ∧ ii = nv s.1 246 58 - j ∧ a = nI j ∧ Inv2P y (homN s j) ∧ keepT x.1 y.1 ∧ smM x y) (nv s.1 246 58) ⟨0, Nat.zero_le _, rfl, rfl, h, keepT.rfl', smM.rfl'⟩ ?_
  rintro ii a y ⟨j, hj, hii, rfl, hy, kt, sm⟩ L hL
  have n58 : nv (homN s j).1 246 58 = nv s.1 246 58 := by unfold nv; rw [(homN_o s j).1 246 (by decide)]
  have w := hy.w
  unfold lX0_sendHome_2
  have ej : nI j + 1 = nI (j + 1) := nI_add j 1
  rw [hy.r.s58, w.v58, n58, q_le (by omega) (by omega), ej]
  have vj : j < nv s.1 246 58 → vp_in (nI j) 16 := fun u => (vpi (by omega) (by decide)).mpr trivial
  refine ⟨fun q => ?_, fun q => ⟨vj (by omega), ?_⟩⟩
  · have : j = nv s.1 246 58 := by omega
    subst this
    exact k y hy kt sm
  have vj := vj (by omega)
  have hj' : j < nv (homN s j).1 246 58 := by omega
  obtain ⟨r0, r1, r2, r3, r4, r5, r6, r7, r8, r9, -⟩ := hy.r.cr.1 j hj'
  have st : homN s (j + 1) = homS (homN s j) j := rfl
  have skip : ¬ homC (homN s j) j → L (nI (j + 1)) y := fun u => hL _ _ _ (by omega) ⟨j + 1, by omega, rfl, rfl, by rw [st]; unfold homS; rw [if_neg u]; exact hy, kt, sm⟩
  rw [cl_nI (by omega), r8, r9]
  refine ⟨fun u => skip (fun v => u v.1), fun u => ⟨vj, c_worst hy.r.tr w.tw ⟨fun v => skip (fun v' => v v'.2), fun v => ⟨vj, ?_⟩⟩⟩⟩
  refine c_turnP hy hj' (fun z hz z1 z2 => hL _ _ _ (by omega) ⟨j + 1, by omega, rfl, rfl, ?_, kt.tr z1, sm.tr z2⟩)
  rw [st]; unfold homS; rw [if_pos ⟨u, v⟩]; exact hz
theorem m_home {x s xa : ab_X} (i : Inv2P xa s) (m : keepM s.1 x.1) {K : ab_X → Prop} (k : ∀ y, keepM (homN s (nv s.1 246 58)).1 y.1 → keepT x.1 y.1 → smC x y → (∀ c, c ≠ 253 → ¬ (286 ≤ c ∧ c ≤ 291) → y.1 c = x.1 c) → Lp2 (lX12_minute_321 K) 0 y) : Lp2 (lX12_minute_271 K) 0 x := by
  have b58 := i.w.b58
  refine Lp2.ind (fun ii a y => ∃ j, j ≤ nv s.1 246 58 ∧ ii = nv s.1 246 58 - j ∧ a = nI j ∧ keepM (homN s j).1 y.1 ∧ keepT x.1 y.1 ∧ smC x y ∧ (∀ c, c ≠ 253 → ¬ (286 ≤ c ∧ c ≤ 291) → y.1 c = x.1 c)) (nv s.1 246 58) ⟨0, Nat.zero_le _, rfl, rfl, m, keepT.rfl', smC.rfl', fun _ _ _ => rfl⟩ ?_
  rintro ii a y ⟨j, hj, hii, rfl, my, kt, sm, yo⟩ L hL
  obtain ⟨xb, hy⟩ := homN_I i j hj
  have n58 : nv (homN s j).1 246 58 = nv s.1 246 58 := by unfold nv; rw [(homN_o s j).1 246 (by decide)]
  have w := hy.w
  unfold lX12_minute_271
  have ej : nI j + 1 = nI (j + 1) := nI_add j 1
  rw [my.s58, w.v58, n58, q_le (by omega) (by omega), ej]
  have vj : j < nv s.1 246 58 → vp_in (nI j) 16 := fun u => (vpi (by omega) (by decide)).mpr trivial
  refine ⟨fun q => ?_, fun q => ⟨vj (by omega), ?_⟩⟩
  · have : j = nv s.1 246 58 := by omega
    subst this
    exact k y my kt sm yo
  have vj := vj (by omega)
  have hj' : j < nv (homN s j).1 246 58 := by omega
  have st : homN s (j + 1) = homS (homN s j) j := rfl
  have skip : ¬ homC (homN s j) j → L (nI (j + 1)) y := fun u => hL _ _ _ (by omega) ⟨j + 1, by omega, rfl, rfl, by rw [st]; unfold homS; rw [if_neg u]; exact my, kt, sm, yo⟩
  have e287 := (w.cr.1 j hj').2.2.2.2.2.2.2.2.2.2.1.1
  rw [cl_nI (by omega), my.c286, my.c287]
  refine ⟨fun u => skip (fun v => u v.1), fun u => ⟨vj, m_burnsAt my.f w.tw ?_⟩⟩
  by_cases v : wor (homN s j).1 ((homN s j).1 287 j) = -nI 1
  · rw [decide_eq_false (fun t => t v)]
    refine ⟨fun t => absurd rfl t, fun _ => ⟨vj, ?_⟩⟩
    rw [e287]
    refine m_turnP my w hj' (fun z mz z1 z2 z3 => hL _ _ _ (by omega) ⟨j + 1, by omega, rfl, rfl, ?_, kt.tr z1, sm.tr z2, fun c p q => (z3 c p q).trans (yo c p q)⟩)
    rw [st]; unfold homS; rw [if_pos ⟨u, v⟩]; exact mz
  · rw [decide_eq_true v]
    exact ⟨fun _ => skip (fun t => v t.2), fun t => absurd t (by decide)⟩
