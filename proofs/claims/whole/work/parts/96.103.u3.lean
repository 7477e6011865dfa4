/-! A MINUTE, 30: calls are closed where nothing burns any more, the loops. -/
def hwP (Y : Nat → Nat → Int32) (c : Int32) (i : Nat) : Bool := decide (Y 286 i = nI 2 ∧ Y 287 i = c)
def hwB (Y : Nat → Nat → Int32) (c : Int32) : Bool := anB (hwP Y c) (nv Y 246 58)
theorem hwP_t {Y : Nat → Nat → Int32} {c : Int32} {i : Nat} : hwP Y c i = true ↔ (Y 286 i = nI 2 ∧ Y 287 i = c) := by unfold hwP; rw [decide_eq_true_eq]
theorem hw_no {Y : Nat → Nat → Int32} {c : Int32} (z : ∀ o, o < nv Y 246 58 → hwP Y c o = false) : hwB Y c = false := by
  unfold hwB anB
  rw [cn_0 z]; rfl
theorem hw_yes {Y : Nat → Nat → Int32} {c : Int32} {i : Nat} (hi : i < nv Y 246 58) (o : hwP Y c i = true) : hwB Y c = true := by
  unfold hwB anB
  exact decide_eq_true (cn_pos.mpr ⟨i, hi, o⟩)
theorem c_hasWP {x s : ab_X} (h : Inv2P x s) {c : Int32} {K : Int32 → Prop} (k : K (bb (hwB s.1 c))) : wX0_hasWorker c x K := by
  have r := h.r
  have w := h.w
  have bn := w.b58
  unfold wX0_hasWorker
  refine Lp1.ind (fun ii b => ∃ i, i ≤ nv s.1 246 58 ∧ ii = nv s.1 246 58 - i ∧ b = nI i ∧ ∀ o, o < i → hwP s.1 c o = false) (nv s.1 246 58) ⟨0, Nat.zero_le _, rfl, rfl, fun o ho => absurd ho (Nat.not_lt_zero o)⟩ ?_
  rintro ii b ⟨i, hi, hii, rfl, z⟩ L hL
  unfold lX0_hasWorker_2
  have ei : nI i + 1 = nI (i + 1) := nI_add i 1
  rw [r.s58, w.v58, q_le (by omega) (by omega), ei]
  refine ⟨fun q => ?_, fun q => ?_⟩
  · rw [hw_no (fun o ho => z o (by omega))] at k; exact k
  have next : ¬ hwP s.1 c i = true → L (nI (i + 1)) := fun e0 => hL _ _ (by omega) ⟨i + 1, by omega, rfl, rfl, fun o ho => by
    by_cases e : o = i
    · rw [e]; exact Bool.eq_false_iff.mpr e0
    · exact z o (by omega)⟩
  obtain ⟨r0, r1, r2, r3, r4, r5, r6, r7, r8, r9, -⟩ := r.cr.1 i (by omega)
  have vi : vp_in (nI i) 16 := (vpi (by omega) (by decide)).mpr trivial
  rw [cl_nI (by omega), r8, r9]
  refine ⟨vi, fun q1 => next (fun u => q1 (hwP_t.mp u).1), fun q1 => ⟨vi, fun q2 => next (fun u => q2 (hwP_t.mp u).2), fun q2 => ?_⟩⟩
  rw [hw_yes (by omega) (hwP_t.mpr ⟨q1, q2⟩)] at k; exact k
def coC (s : ab_X) (k : Nat) : Prop := s.1 312 k = nI 0 ∧ hwB s.1 (s.1 310 k) = true ∧ wor s.1 (s.1 310 k) = -nI 1
noncomputable def coS (s : ab_X) (k : Nat) : ab_X := @ite _ (coC s k) (Classical.propDecidable _) (clS s k (nI 1)) s
noncomputable def coN (s : ab_X) : Nat → ab_X
  | 0 => s
  | k + 1 => coS (coN s k) k
theorem coS_o (s : ab_X) (k : Nat) : (∀ d, d ≠ 312 → d ≠ 314 → (coS s k).1 d = s.1 d) ∧ (coS s k).2 = s.2 := by
  unfold coS clS
  split
  · exact ⟨fun d p q => by rw [wr_n q, wr_n p], rfl⟩
  · exact ⟨fun _ _ _ => rfl, rfl⟩
theorem coN_o (s : ab_X) : ∀ k, (∀ d, d ≠ 312 → d ≠ 314 → (coN s k).1 d = s.1 d) ∧ (coN s k).2 = s.2
  | 0 => ⟨fun _ _ _ => rfl, rfl⟩
  | k + 1 => by
    obtain ⟨a, b⟩ := coN_o s k
    obtain ⟨a', b'⟩ := coS_o (coN s k) k
    exact ⟨fun d p q => (a' d p q).trans (a d p q), b'.trans b⟩
theorem cl_IP {x s : ab_X} {k v : Nat} (h : Inv2P x s) (hk : k < nv s.1 246 92) (hv : v = 1 ∨ v = 2) : Inv2P (wr (wr x (98 + k) 2 (nI v)) (98 + k) 4 (nI (nv s.1 246 1))) (clS s k (nI v)) := by
  have b92 := h.w.b92
  unfold clS Inv2P
  simp (disch := omega) only [mg_wc, mg_wm]
  refine i_closeP (k := k) h ?_ hv rfl
  unfold nv; rw [mg_m (by decide)]; exact hk
theorem coN_I {x s : ab_X} (h : Inv2P x s) : ∀ k, k ≤ nv s.1 246 92 → ∃ y, Inv2P y (coN s k)
  | 0, _ => ⟨x, h⟩
  | k + 1, hk => by
    obtain ⟨y, hy⟩ := coN_I h k (by omega)
    have n92 : nv (coN s k).1 246 92 = nv s.1 246 92 := by unfold nv; rw [(coN_o s k).1 246 (by decide) (by decide)]
    show ∃ y, Inv2P y (coS (coN s k) k)
    unfold coS
    by_cases c : coC (coN s k) k
    · rw [if_pos c]; exact ⟨_, cl_IP hy (by omega) (Or.inl rfl)⟩
    · rw [if_neg c]; exact ⟨y, hy⟩
theorem c_closeOut {x s : ab_X} (h : Inv2P x s) {K : ab_X → Prop} (k : ∀ y, Inv2P y (coN s (nv s.1 246 92)) → keepT x.1 y.1 → smM x y → K y) : wX0_closeOut x K := by
  have b92 := h.w.b92
  unfold wX0_closeOut
  refine Lp2.ind (fun ii a y => ∃ j, j ≤ nv s.1 246 92 ∧ ii = nv s.1 246 92 - j ∧ a = nI j ∧ Inv2P y (coN s j) ∧ keepT x.1 y.1 ∧ smM x y) (nv s.1 246 92) ⟨0, Nat.zero_le _, rfl, rfl, h, keepT.rfl', smM.rfl'⟩ ?_
  rintro ii a y ⟨j, hj, hii, rfl, hy, kt, sm⟩ L hL
  have n92 : nv (coN s j).1 246 92 = nv s.1 246 92 := by unfold nv; rw [(coN_o s j).1 246 (by decide) (by decide)]
  have w := hy.w
  unfold lX0_closeOut_2
  have ej : nI j + 1 = nI (j + 1) := nI_add j 1
  rw [hy.r.s92, w.v92, n92, q_le (by omega) (by omega), ej]
  refine ⟨fun q => ?_, fun q => ⟨(vpi (by omega) (by decide)).mpr trivial, ?_⟩⟩
  · have : j = nv s.1 246 92 := by omega
    subst this
    exact k y hy kt sm
  have hj' : j < nv (coN s j).1 246 92 := by omega
  obtain ⟨c0, c1, c2, -⟩ := hy.r.ca.1 j hj'
  have st : coN s (j + 1) = coS (coN s j) j := rfl
  have skip : ¬ coC (coN s j) j → L (nI (j + 1)) y := fun u => hL _ _ _ (by omega) ⟨j + 1, by omega, rfl, rfl, by rw [st]; unfold coS; rw [if_neg u]; exact hy, kt, sm⟩
  rw [cl_nI (by omega), c2, c0]
  refine ⟨fun u => skip (fun v => u v.1), fun u => c_hasWP hy ?_⟩
  cases eb : hwB (coN s j).1 ((coN s j).1 310 j) with
  | false => exact ⟨fun _ => skip (fun v => by have := v.2.1; rw [eb] at this; exact absurd this (by decide)), fun v => absurd rfl v⟩
  | true =>
    refine ⟨fun v => absurd v (by decide), fun _ => c_worst hy.r.tr w.tw ⟨fun v => skip (fun v' => v v'.2.2), fun v => ?_⟩⟩
    unfold wX1_close
    rw [hy.r.s1, w.v1]
    refine hL _ _ _ (by omega) ⟨j + 1, by omega, rfl, rfl, ?_, kt.tr (fun c i q => by unfold tk at q; rw [wr_n (by omega), wr_n (by omega)]), sm.tr ⟨fun c q => by rw [wr_n (by omega), wr_n (by omega)], rfl⟩⟩
    rw [st]; unfold coS; rw [if_pos ⟨u, eb, v⟩]
    exact cl_IP hy hj' (Or.inl rfl)
theorem m_closeOut {x s xa : ab_X} (i : Inv2P xa s) (m : keepM s.1 x.1) {K : ab_X → Prop} (k : ∀ y, keepM (coN s (nv s.1 246 92)).1 y.1 → (∀ d, d ≠ 312 → d ≠ 314 → y.1 d = x.1 d) → y.2 = x.2 → Lp2 (lX12_minute_271 K) 0 y) : Lp2 (lX12_minute_167 K) 0 x := by
  have b92 := i.w.b92
  have b58 := i.w.b58
  refine Lp2.ind (fun ii a y => ∃ j, j ≤ nv s.1 246 92 ∧ ii = nv s.1 246 92 - j ∧ a = nI j ∧ keepM (coN s j).1 y.1 ∧ (∀ d, d ≠ 312 → d ≠ 314 → y.1 d = x.1 d) ∧ y.2 = x.2) (nv s.1 246 92) ⟨0, Nat.zero_le _, rfl, rfl, m, fun _ _ _ => rfl, rfl⟩ ?_
  rintro ii a y ⟨j, hj, hii, rfl, my, y1, y2⟩ L hL
  obtain ⟨xb, hy⟩ := coN_I i j hj
  have n92 : nv (coN s j).1 246 92 = nv s.1 246 92 := by unfold nv; rw [(coN_o s j).1 246 (by decide) (by decide)]
  have n58 : nv (coN s j).1 246 58 = nv s.1 246 58 := by unfold nv; rw [(coN_o s j).1 246 (by decide) (by decide)]
  have w := hy.w
  unfold lX12_minute_167
  have ej : nI j + 1 = nI (j + 1) := nI_add j 1
  rw [my.s92, w.v92, n92, q_le (by omega) (by omega), ej]
  have vj : j < nv s.1 246 92 → vp_in (nI j) 60 := fun u => (vpi (by omega) (by decide)).mpr trivial
  refine ⟨fun q => ?_, fun q => ⟨vj (by omega), ?_⟩⟩
  · have : j = nv s.1 246 92 := by omega
    subst this
    exact k y my y1 y2
  have vj := vj (by omega)
  have st : coN s (j + 1) = coS (coN s j) j := rfl
  have skip : ¬ coC (coN s j) j → L (nI (j + 1)) y := fun u => hL _ _ _ (by omega) ⟨j + 1, by omega, rfl, rfl, by rw [st]; unfold coS; rw [if_neg u]; exact my, y1, y2⟩
  rw [cl_nI (by omega), my.c312, my.c310]
  refine ⟨fun u => skip (fun v => u v.1), fun u => ⟨vj, m_burnsAt my.f w.tw ?_⟩⟩
  by_cases v : wor (coN s j).1 ((coN s j).1 310 j) = -nI 1
  · rw [decide_eq_false (fun t => t v)]
    refine ⟨fun _ => ?_, fun t => absurd rfl t⟩
    have fin : ∀ b : Bool, b = hwB (coN s j).1 ((coN s j).1 310 j) → ((bb b = 0 → L (nI (j + 1)) y) ∧ (¬ bb b = 0 → wX12_close (nI j) 0 y (fun x31 => L (nI (j + 1)) x31))) := by
      intro b eb
      cases b with
      | false => exact ⟨fun _ => skip (fun t => by have := t.2.1; rw [← eb] at this; exact absurd this (by decide)), fun t => absurd rfl t⟩
      | true =>
        refine ⟨fun t => absurd t (by decide), fun _ => ?_⟩
        unfold wX12_close wX12_close_14
        rw [cl_nI (by omega)]
        have e1 : (wr y 312 j 1).1 246 1 = nI (nv (coN s j).1 246 1) := by rw [wr_n (by decide), my.s1]; exact w.v1
        rw [e1]
        refine ⟨fun _ => ⟨vj, vj, hL _ _ _ (by omega) ⟨j + 1, by omega, rfl, rfl, ?_, fun d p q => by rw [wr_n q, wr_n p]; exact y1 d p q, y2⟩⟩, fun t => absurd rfl t⟩
        rw [st]; unfold coS; rw [if_pos ⟨u, eb.symm, v⟩]
        unfold clS
        exact keepM_wr (keepM_wr my)
    refine Lp2.ind (fun ii a c => ∃ q, q ≤ nv s.1 246 58 ∧ ii = nv s.1 246 58 - q ∧ a = bb (anB (hwP (coN s j).1 ((coN s j).1 310 j)) q) ∧ c = nI q) (nv s.1 246 58) ⟨0, Nat.zero_le _, rfl, rfl, rfl⟩ ?_
    rintro ii' a c ⟨q, hq, hii', rfl, rfl⟩ L2 hL2
    unfold lX12_minute_204 wX12_minute_241 wX12_minute_245
    have eq1 : nI q + 1 = nI (q + 1) := nI_add q 1
    rw [my.s58, w.v58, n58, q_le (by omega) (by omega), eq1, ej]
    refine ⟨fun t => ?_, fun t => ?_⟩
    · have : q = nv s.1 246 58 := by omega
      subst this
      exact fin _ (by unfold hwB; rw [n58])
    have vq : vp_in (nI q) 16 := (vpi (by omega) (by decide)).mpr trivial
    have sa := anB_s (hwP (coN s j).1 ((coN s j).1 310 j)) q
    have go : ∀ (b : Bool), anB (hwP (coN s j).1 ((coN s j).1 310 j)) (q + 1) = b → L2 (bb b) (nI (q + 1)) := fun b e => hL2 _ _ _ (by omega) ⟨q + 1, by omega, rfl, by rw [e], rfl⟩
    rw [cl_nI (by omega), cl_nI (by omega), my.c286, my.c287, my.c310]
    cases eb : anB (hwP (coN s j).1 ((coN s j).1 310 j)) q with
    | true =>
      rw [eb] at sa
      exact ⟨fun _ => go true (by rw [sa]; rfl), fun t => absurd t (by decide)⟩
    | false =>
      rw [eb] at sa
      refine ⟨fun t => absurd rfl t, fun _ => ⟨vq, fun t1 => go false ?_, fun t1 => ⟨vq, vj, fun t2 => go false ?_, fun t2 => go true ?_⟩⟩⟩
      · rw [sa, Bool.false_or]; exact Bool.eq_false_iff.mpr (fun e => t1 (hwP_t.mp e).1)
      · rw [sa, Bool.false_or]; exact Bool.eq_false_iff.mpr (fun e => t2 (hwP_t.mp e).2)
      · rw [sa, Bool.false_or]; exact hwP_t.mpr ⟨t1, t2⟩
  · rw [decide_eq_true v]
    exact ⟨fun t => absurd t (by decide), fun _ => skip (fun t => v t.2.2)⟩
