/-! TEXTS, 16: the calls orders, leaving, act. -/
theorem rg_fr {z w : ab_X} (g : rgA (wr z 246 0 0) w) (c k : Nat) (a : ¬ (c = 246 ∧ (k = 0 ∨ k = 74 ∨ k = 75 ∨ (78 ≤ k ∧ k ≤ 82)))) (b : c ≠ 308) (d : c ≠ 309) : w.1 c k = z.1 c k := by
  rw [g.1 c k (by omega) b d, wr_ne (by omega)]
theorem p_orders {x : ab_X} (h : InvA x) (ht : InvT x.1) {K : ab_X → Prop} (hk : ∀ z, InvA z → InvT z.1 → K z) : wX11_orders x (fun r y => wX12_orders y (fun r' z => r = r' ∧ K z)) := by
  have t := tape_TX h (s := 0) (by omega)
  have ob := h.2.b71
  have b70 := h.2.b70
  have b72 := h.2.b72
  have fin : ∀ z w, pfA x z → rgA (wr z 246 0 0) w → K w := fun z w f g => hk w (rd_keep h f g).1 (InvT_keep ht b72 (rd_keep h f g).2)
  have hl : ∀ z, pfA x z → z.1 246 70 = nI (nv x.1 246 70) := fun z f => by rw [f.1 246 70 (by omega) (by omega) (by omega)]; exact h.2.v70
  have hb : ∀ z, pfA x z → ∀ i, i < nv x.1 246 70 → z.1 299 i = s8 (nv x.1 159 i) := fun z f i hi => by rw [f.1 299 i (by omega) (by omega) (by omega)]; exact tape_Y h i hi
  unfold wX11_orders
  rw [h.1.s71, h.2.v71]
  simp only [nI_lit]
  rw [q_le (by omega) (by omega)]
  refine ⟨fun full => ?_, fun nf => ?_⟩
  · unfold wX12_orders
    refine m_faultS t (hl x pfA.rfl') (hb x pfA.rfl') (fun q hq ql w g => ?_) (fun q c hq w g => ?_)
    · exact ⟨fun _ => ⟨rfl, fin x w pfA.rfl' g⟩, fun u => absurd u (by simp only [nI_lit]; rw [n1_eq' (by omega)]; exact id)⟩
    · refine ⟨fun u => absurd rfl u, fun _ => ⟨fun u => absurd ?_ u, fun _ => ⟨rfl, fin x w pfA.rfl' g⟩⟩⟩
      rw [rg_fr g 246 71 (by omega) (by decide) (by decide), h.2.v71, show nv x.1 246 71 = 20 by omega]; rfl
  · refine c_parse t (by rw [h.1.s70]; exact h.2.v70) (tape_X h) (fun q hq z f az => x0 ?_) (fun q c hq z f e1 e2 e3 => x1 ?_)
    · unfold wX12_orders
      refine m_faultS t (hl z f) (hb z f) (fun q' hq' ql w g => ?_) (fun q' c hq' w g => ?_)
      · exact ⟨fun _ => ⟨rfl, fin z w f g⟩, fun u => absurd u (by simp only [nI_lit]; rw [n1_eq' (by omega)]; exact id)⟩
      · rw [hq] at hq'
        injection hq' with u1 u2
        cases u2
    · refine c_hand e1 e2 (by omega) (by omega) (fun g0 g1 g2 g3 g4 g5 => ?_)
      have o0 : g0.1 66 7 = nI (nv x.1 246 71) := by rw [g1 _ _ (by omega) (by omega) (by omega), f.1 _ _ (by omega) (by omega) (by omega), h.1.s71]; exact h.2.v71
      rw [o0, nI_add, wr_e, pk_sub (by omega), Nat.add_sub_cancel]
      have gf : ∀ c k, ¬ (c = 69 ∧ k = 1) → c ≠ 70 → ¬ (c = 158 ∧ (k = 1 ∨ k = 2)) → ¬ (c = 66 ∧ k = 7) → ¬ (c = 160 ∧ k = 1) → c ≠ 161 → (wr g0 66 7 (nI (nv x.1 246 71 + 1))).1 c k = x.1 c k := by
        intro c k a1 a2 a3 a4 a5 a6
        rw [wr_ne (by omega), g1 c k a1 (by omega) (by omega), f.1 c k (by omega) a5 a6]
      unfold wX12_orders
      refine m_faultS t (by rw [gf _ _ (by omega) (by omega) (by omega) (by omega) (by omega) (by omega)]; exact h.2.v70) (fun i hi => by rw [gf _ _ (by omega) (by omega) (by omega) (by omega) (by omega) (by omega)]; exact tape_Y h i hi) (fun q' hq' ql w g => ?_) (fun q' c' hq' w g => ?_)
      · rw [hq] at hq'
        injection hq' with u1 u2
        cases u2
      have wf : ∀ c k, ¬ (c = 69 ∧ k = 1) → c ≠ 70 → ¬ (c = 158 ∧ (k = 1 ∨ k = 2)) → ¬ (c = 66 ∧ k = 7) → ¬ (c = 160 ∧ k = 1) → c ≠ 161 → ¬ (c = 246 ∧ (k = 0 ∨ k = 74 ∨ k = 75 ∨ (78 ≤ k ∧ k ≤ 82))) → c ≠ 308 → c ≠ 309 → w.1 c k = x.1 c k := by
        intro c k a1 a2 a3 a4 a5 a6 a7 a8 a9
        rw [rg_fr g c k a7 a8 a9, gf c k a1 a2 a3 a4 a5 a6]
      have w71 : w.1 246 71 = nI (nv x.1 246 71) := by rw [wf _ _ (by omega) (by omega) (by omega) (by omega) (by omega) (by omega) (by omega) (by omega) (by omega)]; exact h.2.v71
      have w70 : w.1 246 70 = nI (nv x.1 246 70) := by rw [wf _ _ (by omega) (by omega) (by omega) (by omega) (by omega) (by omega) (by omega) (by omega) (by omega)]; exact h.2.v70
      have n20 : ¬ w.1 246 71 = 20 := by rw [w71]; simp only [nI_lit]; rw [q_eq (by omega) (by omega)]; omega
      refine ⟨fun u => absurd rfl u, fun _ => ⟨fun _ => ?_, fun u => absurd u n20⟩⟩
      refine m_cpO (by omega) b70 (fun i hi => t.2.2 i hi) w70 w71 (fun i hi => by rw [wf _ _ (by omega) (by omega) (by omega) (by omega) (by omega) (by omega) (by omega) (by omega) (by omega)]; exact tape_Y h i hi) (fun y hy => ⟨rfl, ?_⟩)
      obtain ⟨y1, y2, y3⟩ := hy
      generalize hz : wr (wr (wr y 303 (nv x.1 246 71) (nI (nv x.1 246 70))) 246 71 (nI (nv x.1 246 71 + 1))) 246 70 (nI 0) = z'
      have zf : ∀ c k, ¬ (c = 246 ∧ (k = 70 ∨ k = 71)) → ¬ (c = 303 ∧ k = nv x.1 246 71) → z'.1 c k = y.1 c k := by
        intro c k a1 a2
        rw [← hz]; simp (disch := omega) only [wr_ne]
      have z70 : z'.1 246 70 = nI 0 := by rw [← hz, wr_e]
      have z71 : z'.1 246 71 = nI (nv x.1 246 71 + 1) := by rw [← hz, wr_k (by decide), wr_e]
      have z303 : z'.1 303 (nv x.1 246 71) = nI (nv x.1 246 70) := by rw [← hz, wr_n (by decide), wr_n (by decide), wr_e]
      have xf : ∀ c k, ¬ (c = 69 ∧ k = 1) → c ≠ 70 → ¬ (c = 158 ∧ (k = 1 ∨ k = 2)) → ¬ (c = 66 ∧ k = 7) → ¬ (c = 160 ∧ k = 1) → c ≠ 161 → ¬ (c = 246 ∧ (k = 0 ∨ k = 70 ∨ k = 71 ∨ k = 74 ∨ k = 75 ∨ (78 ≤ k ∧ k ≤ 82))) → c ≠ 308 → c ≠ 309 → c ≠ 303 → c ≠ 300 → z'.1 c k = x.1 c k := by
        intro c k a1 a2 a3 a4 a5 a6 a7 a8 a9 a10 a11
        rw [zf c k (by omega) (by omega), y1 c k (by omega), wf c k a1 a2 a3 a4 a5 a6 (by omega) a8 a9]
      have exf : ∀ c k, ¬ exA c k → z'.1 c k = x.1 c k := by
        intro c k a
        unfold exA at a
        exact xf c k (by omega) (by omega) (by omega) (by omega) (by omega) (by omega) (by omega) (by omega) (by omega) (by omega) (by omega)
      have evs := ev_same h exf (fun c k a => xf c k (by omega) (by omega) (by omega) (by omega) (by omega) (by omega) (by omega) (by omega) (by omega) (by omega) (by omega))
      have zg : ∀ c k, c ≤ 245 → z'.1 c k = (wr g0 66 7 (nI (nv x.1 246 71 + 1))).1 c k := by
        intro c k a
        rw [zf c k (by omega) (by omega), y1 c k (by omega), rg_fr g c k (by omega) (by omega) (by omega)]
      refine hk z' (fin_T h exf ?_ (o := nv x.1 246 71 + 1) (a := nv x.1 246 72) ?_ z71 (by omega) ?_ ?_ b72 ?_ z70 evs.1 evs.2) ?_
      · rw [← hz]
        show y.2.1 329 = _
        rw [y3, g.2.1]
        show g0.2.1 329 = _
        rw [g2, f.2.1]
      · rw [zg _ _ (by decide), wr_e]
      · rw [xf _ _ (by omega) (by omega) (by omega) (by omega) (by omega) (by omega) (by omega) (by omega) (by omega) (by omega) (by omega), h.1.s72]; exact h.2.v72
      · rw [xf _ _ (by omega) (by omega) (by omega) (by omega) (by omega) (by omega) (by omega) (by omega) (by omega) (by omega) (by omega)]; exact h.2.v72
      · rw [zg _ _ (by decide), wr_n (by decide)]; exact g5
      · have n71 : nv z'.1 246 71 = nv x.1 246 71 + 1 := nv_of z71 (by omega)
        have n72 : nv z'.1 246 72 = nv x.1 246 72 := by unfold nv; rw [xf _ _ (by omega) (by omega) (by omega) (by omega) (by omega) (by omega) (by omega) (by omega) (by omega) (by omega) (by omega)]
        refine ⟨fun u => by omega, fun _ => ?_, ?_, fun j hj => ?_⟩
        · rw [n71, Nat.add_sub_cancel]
          refine ⟨_, _, q, c, t, z303, fun i hi => ?_, hq, ?_, fun i hi => ?_, by omega⟩
          · rw [zf _ _ (by omega) (by omega)]; exact y2 i hi
          · rw [zg _ _ (by decide), wr_n (by decide)]; exact g3
          · rw [zg _ _ (by decide), wr_n (by decide)]; exact g4 i hi
        · rcases ht.2.2.1 with ⟨a, b⟩ | a
          · exact Or.inl ⟨by rw [xf _ _ (by omega) (by omega) (by omega) (by omega) (by omega) (by omega) (by omega) (by omega) (by omega) (by omega) (by omega)]; exact a, by rw [xf _ _ (by omega) (by omega) (by omega) (by omega) (by omega) (by omega) (by omega) (by omega) (by omega) (by omega) (by omega)]; exact b⟩
          · exact Or.inr (txAt_keep a (xf _ _ (by omega) (by omega) (by omega) (by omega) (by omega) (by omega) (by omega) (by omega) (by omega) (by omega) (by omega)) (fun i _ => xf _ _ (by omega) (by omega) (by omega) (by omega) (by omega) (by omega) (by omega) (by omega) (by omega) (by omega) (by omega)) (xf _ _ (by omega) (by omega) (by omega) (by omega) (by omega) (by omega) (by omega) (by omega) (by omega) (by omega) (by omega)) (fun i => xf _ _ (by omega) (by omega) (by omega) (by omega) (by omega) (by omega) (by omega) (by omega) (by omega) (by omega) (by omega)))
        · rw [n72] at hj
          exact txAt_keep (ht.2.2.2 j hj) (xf _ _ (by omega) (by omega) (by omega) (by omega) (by omega) (by omega) (by omega) (by omega) (by omega) (by omega) (by omega)) (fun i _ => xf _ _ (by omega) (by omega) (by omega) (by omega) (by omega) (by omega) (by omega) (by omega) (by omega) (by omega) (by omega)) (xf _ _ (by omega) (by omega) (by omega) (by omega) (by omega) (by omega) (by omega) (by omega) (by omega) (by omega) (by omega)) (fun i => xf _ _ (by omega) (by omega) (by omega) (by omega) (by omega) (by omega) (by omega) (by omega) (by omega) (by omega) (by omega))
def exL (c k : Nat) : Prop := (c = 74 ∧ k = 1) ∨ c = 75 ∨ (c = 158 ∧ (k = 1 ∨ k = 2)) ∨ (c = 160 ∧ k = 1) ∨ c = 161 ∨ (c = 246 ∧ (k = 0 ∨ k = 70 ∨ k = 73 ∨ k = 74 ∨ k = 75 ∨ (78 ≤ k ∧ k ≤ 82))) ∨ c = 308 ∨ c = 309 ∨ c = 302
theorem p_leaving {x : ab_X} (h : InvA x) (ht : InvT x.1) {K : ab_X → Prop} (hk : ∀ z, InvA z → InvT z.1 → K z) : wX11_leaving x (fun r y => wX12_leaving y (fun r' z => r = r' ∧ K z)) := by
  have t := tape_TX h (s := 1) (by omega)
  have ob := h.2.b71
  have b70 := h.2.b70
  have b72 := h.2.b72
  have fin : ∀ z w, pfA x z → rgA (wr z 246 0 0) w → K w := fun z w f g => hk w (rd_keep h f g).1 (InvT_keep ht b72 (rd_keep h f g).2)
  have hl : ∀ z, pfA x z → z.1 246 70 = nI (nv x.1 246 70) := fun z f => by rw [f.1 246 70 (by omega) (by omega) (by omega)]; exact h.2.v70
  have hb : ∀ z, pfA x z → ∀ i, i < nv x.1 246 70 → z.1 299 i = s8 (nv x.1 159 i) := fun z f i hi => by rw [f.1 299 i (by omega) (by omega) (by omega)]; exact tape_Y h i hi
  unfold wX11_leaving
  refine c_parse t (by rw [h.1.s70]; exact h.2.v70) (tape_X h) (fun q hq z f az => x0 ?_) (fun q c hq z f e1 e2 e3 => x1 ?_)
  · unfold wX12_leaving
    refine m_faultS t (hl z f) (hb z f) (fun q' hq' ql w g => ?_) (fun q' c hq' w g => ?_)
    · exact ⟨fun u => absurd u (by simp only [nI_lit]; rw [n1_eq' (by omega)]; exact id), fun _ => ⟨rfl, fin z w f g⟩⟩
    · rw [hq] at hq'
      injection hq' with u1 u2
      cases u2
  · refine c_hand e1 e2 (by omega) (by omega) (fun g0 g1 g2 g3 g4 g5 => ?_)
    have gf : ∀ c k, ¬ exL c k → g0.1 c k = x.1 c k := by
      intro c k a
      unfold exL at a
      rw [g1 c k (by omega) (by omega) (by omega), f.1 c k (by omega) (by omega) (by omega)]
    unfold wX12_leaving
    refine m_faultS t ?_ (fun i hi => by rw [gf _ _ (by unfold exL; omega)]; exact tape_Y h i hi) (fun q' hq' ql w g => ?_) (fun q' c' hq' w g => ?_)
    · rw [g1 _ _ (by omega) (by omega) (by omega)]; exact hl z f
    · rw [hq] at hq'
      injection hq' with u1 u2
      cases u2
    have w70 : w.1 246 70 = nI (nv x.1 246 70) := by
      rw [rg_fr g _ _ (by omega) (by omega) (by omega), g1 _ _ (by omega) (by omega) (by omega)]; exact hl z f
    refine ⟨fun _ => ?_, fun u => absurd rfl u⟩
    refine m_cpL b70 (fun i hi => t.2.2 i hi) w70 (fun i hi => by rw [rg_fr g _ _ (by omega) (by omega) (by omega), gf _ _ (by unfold exL; omega)]; exact tape_Y h i hi) (fun y hy => ⟨rfl, ?_⟩)
    obtain ⟨y1, y2, y3⟩ := hy
    generalize hz : wr (wr y 246 73 (nI (nv x.1 246 70))) 246 70 (nI 0) = z'
    have zf : ∀ c k, ¬ (c = 246 ∧ (k = 70 ∨ k = 73)) → z'.1 c k = y.1 c k := by
      intro c k a1
      rw [← hz]; simp (disch := omega) only [wr_ne]
    have z70 : z'.1 246 70 = nI 0 := by rw [← hz, wr_e]
    have z73 : z'.1 246 73 = nI (nv x.1 246 70) := by rw [← hz, wr_k (by decide), wr_e]
    have xf : ∀ c k, ¬ exL c k → z'.1 c k = x.1 c k := by
      intro c k a
      have a' := a
      unfold exL at a'
      rw [zf c k (by omega), y1 c k (by omega), rg_fr g c k (by omega) (by omega) (by omega), gf c k a]
    have exf : ∀ c k, ¬ exA c k → z'.1 c k = x.1 c k := by
      intro c k a
      unfold exA at a
      exact xf c k (by unfold exL; omega)
    have evs := ev_same h exf (fun c k a => xf c k (by unfold exL; omega))
    have zg : ∀ c k, c ≤ 245 → z'.1 c k = g0.1 c k := by
      intro c k a
      rw [zf c k (by omega), y1 c k (by omega), rg_fr g c k (by omega) (by omega) (by omega)]
    refine hk z' (fin_T h exf ?_ (o := nv x.1 246 71) (a := nv x.1 246 72) ?_ ?_ ob ?_ ?_ b72 ?_ z70 evs.1 evs.2) ?_
    · rw [← hz]
      show y.2.1 329 = _
      rw [y3, g.2.1]
      show g0.2.1 329 = _
      rw [g2, f.2.1]
    · rw [xf _ _ (by unfold exL; omega), h.1.s71]; exact h.2.v71
    · rw [xf _ _ (by unfold exL; omega)]; exact h.2.v71
    · rw [xf _ _ (by unfold exL; omega), h.1.s72]; exact h.2.v72
    · rw [xf _ _ (by unfold exL; omega)]; exact h.2.v72
    · rw [zg _ _ (by decide)]; exact g5
    · have n71 : nv z'.1 246 71 = nv x.1 246 71 := by unfold nv; rw [xf _ _ (by unfold exL; omega)]
      have n72 : nv z'.1 246 72 = nv x.1 246 72 := by unfold nv; rw [xf _ _ (by unfold exL; omega)]
      refine ⟨fun u => ?_, fun u => ?_, Or.inr ?_, fun j hj => ?_⟩
      · rw [xf _ _ (by unfold exL; omega)]; exact ht.1 (by omega)
      · rw [n71] at u ⊢
        exact txAt_keep (ht.2.1 u) (xf _ _ (by unfold exL; omega)) (fun i _ => xf _ _ (by unfold exL; omega)) (xf _ _ (by unfold exL; omega)) (fun i => xf _ _ (by unfold exL; omega))
      · refine ⟨_, _, q, c, t, z73, fun i hi => ?_, hq, ?_, fun i hi => ?_, by omega⟩
        · rw [zf _ _ (by omega)]; exact y2 i hi
        · rw [zg _ _ (by decide)]; exact g3
        · rw [zg _ _ (by decide)]; exact g4 i hi
      · rw [n72] at hj
        exact txAt_keep (ht.2.2.2 j hj) (xf _ _ (by unfold exL; omega)) (fun i _ => xf _ _ (by unfold exL; omega)) (xf _ _ (by unfold exL; omega)) (fun i => xf _ _ (by unfold exL; omega))
