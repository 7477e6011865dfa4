/-! TICK. -/
theorem p_tick {x : ab_X} (h : InvA x) (ht : InvT x.1) {v : Int32} {K : ab_X → Prop} (hk : ∀ z, InvA z → keepT x.1 z.1 → K z) : wX11_tick v x (fun r y => wX12_tick v y (fun r' z => r = r' ∧ K z)) := by
  have w := h.2
  have b1 := w.b1
  have i0 := Inv2.id h
  have km : ∀ y : ab_X, keepM y.1 (wr y 246 0 0).1 := fun y => ⟨fun c p => wr_n (by unfold kM at p; omega), fun f p => wr_ne (by unfold kS at p; omega)⟩
  have ktw : ∀ y : ab_X, keepT y.1 (wr y 246 0 0).1 := fun y c k q => by unfold tk at q; rw [wr_ne (by omega)]
  have kz : K (wr x 246 0 0) := hk _ (i0.fin (fun c p => wr_n (by omega)) (km x) (fun k p => by rw [wr_n (by decide)]; exact h.1.wa k p) rfl) (ktw x)
  unfold wX11_tick
  rw [f_within]
  rcases jr_d v (lo := 0) (hi := 300) (by decide) (by decide) with e | ⟨n, -, hn, rfl⟩
  · have e : jr v 0 300 = nI 0 := e
    rw [e]
    refine ⟨fun _ => ?_, fun u => absurd rfl u⟩
    show wX12_tick v x (fun r' z => -1 = r' ∧ K z)
    unfold wX12_tick
    rw [f_isIn, e]
    exact ⟨fun _ => ⟨rfl, kz⟩, fun u => absurd rfl u⟩
  have e1 : jr (nI n) 0 300 = nI 1 := jr_I (Nat.zero_le _) hn (by decide)
  rw [e1, h.1.s1, w.v1]
  have e20 : (nI (nv x.1 246 1) + nI n ≤ 20000) ↔ nv x.1 246 1 + n ≤ 20000 := by
    rw [nI_add]; exact q_le (by omega) (by decide)
  rw [e20]
  refine ⟨fun u => absurd u (by decide), fun _ => ⟨fun q => ?_, fun q => ?_⟩⟩
  · have al := mnI_a i0 q
    refine Lp2.ind (fun ii a y => ∃ j, j ≤ n ∧ ii = n - j ∧ a = nI j ∧ Inv2 y (mnI x j) ∧ keepT x.1 y.1 ∧ smM x y) n ⟨0, Nat.zero_le _, rfl, rfl, i0, keepT.rfl', smM.rfl'⟩ ?_
    rintro ii a y ⟨j, hj, hii, rfl, hy, kt, sm⟩ L hL
    obtain ⟨-, a1, a2, a3⟩ := al j hj
    have ej : nI j + 1 = nI (j + 1) := nI_add j 1
    unfold lX11_tick_30
    rw [q_le (by omega) (by omega), ej]
    refine ⟨fun t => ?_, fun t => ?_⟩
    · have : j = n := by omega
      subst this
      have m0 : keepM x.1 (wr y 246 0 0).1 := (sm.m keepM.rfl').tr (km y)
      have w0 : ∀ k, k < 288 → (wr y 246 0 0).1 268 k = nI 0 := fun k p => by rw [wr_n (by decide), sm.1 268 (by decide)]; exact h.1.wa k p
      show wX12_tick (nI j) y (fun r' z => y.1 66 12 = r' ∧ K z)
      unfold wX12_tick
      have e246 : (wr y 246 0 0).1 246 1 = nI (nv x.1 246 1) := by rw [wr_ne (by omega), sm.1 246 (by decide)]; exact w.v1
      rw [f_isIn, e1, e246, e20]
      refine ⟨fun u => absurd u (by decide), fun _ => ⟨fun _ => ?_, fun u => absurd q u⟩⟩
      refine Lp2.ind (fun ii a z => ∃ i, i ≤ j ∧ ii = j - i ∧ a = nI i ∧ keepM (mnI x i).1 z.1 ∧ keepT (wr y 246 0 0).1 z.1 ∧ smC (wr y 246 0 0) z ∧ ∀ k, k < 288 → z.1 268 k = nI 0) j ⟨0, Nat.zero_le _, rfl, rfl, m0, keepT.rfl', smC.rfl', w0⟩ ?_
      rintro ii' a z ⟨i, hi, hii', rfl, mz, tz, sz, wz⟩ L2 hL2
      obtain ⟨⟨xb, hb⟩, c1, c2, c3⟩ := al i hi
      have ei : nI i + 1 = nI (i + 1) := nI_add i 1
      unfold lX12_tick_32
      rw [q_le (by omega) (by omega), ei]
      refine ⟨fun t => ?_, fun t => ?_⟩
      · have : i = j := by omega
        subst this
        refine ⟨by rw [hy.r.s1, mz.s1], hk z (hy.fin (fun c p => ?_) mz wz ?_) ((kt.tr (ktw y)).tr tz)⟩
        · rw [sz.1 c p, wr_n (by omega)]
        · rw [sz.2, a2]
          show y.2.1 329 = x.2.1 329
          rw [sm.2]
      · refine m_minute hb (by omega) (InvT_keep ht (by have := w.b72; exact this) c1) mz (fun c k p => ?_) wz (fun z' m' t' s' w' => hL2 _ _ _ (by omega) ⟨i + 1, by omega, rfl, rfl, m', tz.tr t', sz.tr s', w'⟩)
        rw [tz c k p, ktw y c k p, kt c k p, c1 c k p]
    · refine c_minute hy (by omega) (InvT_keep ht (by have := w.b72; exact this) a1) (fun c k p => ?_) (fun z hz tz mz => hL _ _ _ (by omega) ⟨j + 1, by omega, rfl, rfl, hz, kt.tr tz, sm.tr mz⟩)
      rw [kt c k p, a1 c k p]
  · show wX12_tick (nI n) x (fun r' z => -1 = r' ∧ K z)
    unfold wX12_tick
    have e246 : (wr x 246 0 0).1 246 1 = nI (nv x.1 246 1) := by rw [wr_ne (by omega)]; exact w.v1
    rw [f_isIn, e1, e246, e20]
    exact ⟨fun u => absurd u (by decide), fun _ => ⟨fun u => absurd u q, fun _ => ⟨rfl, kz⟩⟩⟩
