/-! CALLS: the call call. -/
def cnS (s : ab_X) (k : Nat) : ab_X := wr s 317 k (s.1 317 k + nI 1)
def wdS (s : ab_X) (k : Nat) : ab_X := wr (cnS s k) 311 k (nI (nv s.1 311 k + 1))
noncomputable def wnt (s : ab_X) (k : Nat) (o : Nat) : Nat := ((oS (wdS s k).1 ((wdS s k).1 310 k) ((wdS s k).1 311 k)).2.1 o).toNatClampNeg
theorem wnt_e (s : ab_X) (k o : Nat) : wnt s k o ≤ 9 ∧ (oS (wdS s k).1 ((wdS s k).1 310 k) ((wdS s k).1 311 k)).2.1 o = nI (wnt s k o) := by
  obtain ⟨v, hv, e⟩ := oS_9 (Y := (wdS s k).1) (c := (wdS s k).1 310 k) (wd' := (wdS s k).1 311 k) o
  have : wnt s k o = v := by unfold wnt; rw [e, cl_nI (by omega)]
  rw [this]; exact ⟨hv, e⟩
noncomputable def anS (s : ab_X) (k : Nat) : ab_X := mvN (wnt s k 4) (sAll (wdS s k) k (wnt s k) 4)
theorem cn_I {y s : ab_X} {k : Nat} (h : Inv2 y s) (hk : k < nv s.1 246 92) : Inv2 (wr y (98 + k) 7 (s.1 317 k + nI 1)) (cnS s k) := by
  have b92 := h.w.b92
  unfold cnS Inv2
  rw [mg_wm (by decide), mg_wc (by omega)]
  refine i_cnt (f := 7) h ?_ (by decide) rfl
  unfold nv; rw [mg_m (by decide)]; exact hk
theorem wd_I {y s : ab_X} {k : Nat} (h : Inv2 y s) (hk : k < nv s.1 246 92) (hw : nv s.1 311 k < 3) : Inv2 (wr (wr y (98 + k) 7 (s.1 317 k + nI 1)) (98 + k) 1 (nI (nv s.1 311 k + 1))) (wdS s k) := by
  have b92 := h.w.b92
  have g := cn_I h hk
  unfold wdS Inv2
  rw [mg_wm (by decide), mg_wc (by omega)]
  refine i_word (v := nv s.1 311 k + 1) g ?_ (by omega) rfl
  unfold nv cnS
  rw [mg_m (by decide), wr_n (by decide)]; exact hk
theorem wd_n (s : ab_X) (k : Nat) : nv (wdS s k).1 246 92 = nv s.1 246 92 ∧ (wdS s k).1 310 k = s.1 310 k ∧ (wdS s k).1 311 k = nI (nv s.1 311 k + 1) ∧ keepT s.1 (wdS s k).1 := by
  refine ⟨?_, ?_, ?_, fun c i q => ?_⟩
  · unfold nv wdS cnS; rw [wr_n (by decide), wr_n (by decide)]
  · unfold wdS cnS; rw [wr_n (by decide), wr_n (by decide)]
  · unfold wdS; rw [wr_e]
  · unfold tk at q; unfold wdS cnS; rw [wr_ne (by omega), wr_ne (by omega)]
theorem c_ans20 {y s : ab_X} {c k : Nat} (h : Inv2 y s) (ht : InvT s.1) (kt : keepT s.1 y.1) (hk : k < nv s.1 246 92) (hc : s.1 310 k = nI c) {K : Int32 → ab_X → Prop} (kA : nv s.1 311 k = 3 → ∀ u, Inv2 u (cnS s k) → keepT y.1 u.1 → smM y u → K (nI k) u) (kB : nv s.1 311 k < 3 → ∀ u, Inv2 u (anS s k) → keepT y.1 u.1 → smM y u → K (nI k) u) : wX0_answer_20 (nI c) (nI k) y K := by
  have w := h.w
  have b92 := w.b92
  obtain ⟨c0, c1, c2, c3, c4, c5, c6, c7, c8⟩ := h.r.ca.1 k hk
  obtain ⟨a1, a2, a3, a4, a5, a6⟩ := w.ca.1 k hk
  have l2 := a2.2
  unfold wX0_answer_20
  rw [f_below, h.r.s92, w.v92, jx_I hk (by omega), cl_nI (by omega)]
  refine x1 ⟨(vpi (by omega) (by decide)).mpr trivial, ?_⟩
  have e7 : y.1 (98 + k) 7 + 1 = s.1 317 k + nI 1 := by rw [c7]; rfl
  rw [e7]
  have e1 : (wr y (98 + k) 7 (s.1 317 k + nI 1)).1 (98 + k) 1 = nI (nv s.1 311 k) := by rw [wr_k (by decide), c1]; exact a2.1
  rw [e1, wr_e]
  simp only [nI_lit]
  rw [q_le (by omega) (by omega), nI_add]
  refine ⟨fun q => kA (by omega) _ (cn_I h hk) (fun c i q => by unfold tk at q; rw [wr_ne (by omega)]) (smM.wr (by omega)), fun q => ?_⟩
  have g := wd_I h hk (by omega)
  obtain ⟨n1, n2, n3, n4⟩ := wd_n s k
  have kty : keepT y.1 (wr (wr y (98 + k) 7 (s.1 317 k + nI 1)) (98 + k) 1 (nI (nv s.1 311 k + 1))).1 := fun c i q => by unfold tk at q; rw [wr_ne (by omega), wr_ne (by omega)]
  have smy : smM y (wr (wr y (98 + k) 7 (s.1 317 k + nI 1)) (98 + k) 1 (nI (nv s.1 311 k + 1))) := ⟨fun d q => by rw [wr_n (by omega), wr_n (by omega)], rfl⟩
  have kt2 : keepT (wdS s k).1 (wr (wr y (98 + k) 7 (s.1 317 k + nI 1)) (98 + k) 1 (nI (nv s.1 311 k + 1))).1 := fun c i q => by rw [kty c i q, kt c i q, n4 c i q]
  refine c_readOrders (c := nI c) (wd' := nI (nv s.1 311 k + 1)) g.r g.w (InvT_keep ht (by have := w.b72; omega) n4) kt2 (fun z kc ktz smz z6 z72 => ?_)
  have eo : oS (wdS s k).1 (nI c) (nI (nv s.1 311 k + 1)) = oS (wdS s k).1 ((wdS s k).1 310 k) ((wdS s k).1 311 k) := by rw [n2, n3, hc]
  rw [eo] at z72
  have z72' : ∀ o, o < 5 → z.1 72 o = nI (wnt s k o) := fun o ho => by rw [z72 o ho, (wnt_e s k o).2]
  refine c_sendAll (g.kc kc) (by omega) (fun o => (wnt_e s k o).1) z72' (fun v iv ktv smv ev => ⟨(vpi (by decide) (by decide)).mpr trivial, ?_⟩)
  rw [cl_nI (by decide), ev, z72' 4 (by decide)]
  exact c_moveAll iv (wnt_e s k 4).1 (fun u iu ktu smu => kB (by omega) u iu (((kty.tr ktz).tr ktv).tr ktu) (((smy.tr smz).tr smv).tr smu))
def rW (z u : ab_X) : Prop := (∀ d, d < 246 → u.1 d = z.1 d) ∧ u.1 268 = z.1 268 ∧ u.2.1 = z.2.1 ∧ keepT z.1 u.1
theorem rW.tr {x y z : ab_X} (h : rW x y) (g : rW y z) : rW x z := ⟨fun d p => (g.1 d p).trans (h.1 d p), g.2.1.trans h.2.1, g.2.2.1.trans h.2.2.1, h.2.2.2.tr g.2.2.2⟩
theorem rW_wr {z : ab_X} {c k : Nat} {v : Int32} (hc : 246 ≤ c) (h2 : c ≠ 268) (h3 : ¬ tk c k) : rW z (wr z c k v) := ⟨fun d p => wr_n (by omega), wr_n (fun e => h2 e.symm), rfl, fun d i q => wr_ne (by
  by_cases e1 : d = c
  · by_cases e2 : i = k
    · rw [e1, e2] at q; exact absurd q h3
    · exact Or.inr e2
  · exact Or.inl e1)⟩
theorem rU.w {x y : ab_X} (h : rU x y) : rW x y := ⟨fun d p => h.1 d (by omega) (by omega) (by omega) (by omega) (by omega) (by omega) (by omega), h.1 268 (by decide) (by decide) (by decide) (by decide) (by decide) (by decide) (by decide), h.2.2, fun c k q => by
  unfold tk at q
  by_cases e : c = 246
  · subst e; exact h.2.1 k (by omega) (by omega) (by omega) (by omega)
  · rw [h.1 c (by omega) (by omega) (by omega) (by omega) e (by omega) (by omega)]⟩
theorem m_c93 {z s xa : ab_X} {k : Nat} (i : Inv2 xa s) (ht : InvT s.1) (m : keepM s.1 z.1) (kt : keepT s.1 z.1) (hk : k < nv s.1 246 92) {K : Int32 → ab_X → Prop} (kA : nv s.1 311 k = 3 → ∀ u, keepM (cnS s k).1 u.1 → rW z u → K (nI k) u) (kB : nv s.1 311 k < 3 → ∀ u, keepM (anS s k).1 u.1 → rW z u → K (nI k) u) : wX12_call_93 (nI k) z K := by
  have w := i.w
  have b92 := w.b92
  obtain ⟨a1, a2, a3, a4, a5, a6⟩ := w.ca.1 k hk
  have l2 := a2.2
  have vk : vp_in (nI k) 60 := (vpi (by omega) (by decide)).mpr trivial
  unfold wX12_call_93
  rw [cl_nI (by omega)]
  have e7 : z.1 317 k + 1 = s.1 317 k + nI 1 := by rw [m.c317]; rfl
  rw [e7]
  have e1 : (wr z 317 k (s.1 317 k + nI 1)).1 311 k = nI (nv s.1 311 k) := by rw [wr_n (by decide), m.c311]; exact a2.1
  rw [e1]
  simp only [nI_lit]
  rw [q_eq (by omega) (by omega), nI_add]
  have m1 : keepM (cnS s k).1 (wr z 317 k (s.1 317 k + nI 1)).1 := keepM_wr m
  have f1 : rW z (wr z 317 k (s.1 317 k + nI 1)) := rW_wr (by decide) (by decide) (by unfold tk; omega)
  refine ⟨vk, vk, vk, fun q => ⟨vk, vk, ?_⟩, fun q => kA q _ m1 f1⟩
  obtain ⟨n1, n2, n3, n4⟩ := wd_n s k
  have m2 : keepM (wdS s k).1 (wr (wr z 317 k (s.1 317 k + nI 1)) 311 k (nI (nv s.1 311 k + 1))).1 := keepM_wr m1
  have f2 : rW z (wr (wr z 317 k (s.1 317 k + nI 1)) 311 k (nI (nv s.1 311 k + 1))) := f1.tr (rW_wr (by decide) (by decide) (by unfold tk; omega))
  have kt2 : keepT (wdS s k).1 (wr (wr z 317 k (s.1 317 k + nI 1)) 311 k (nI (nv s.1 311 k + 1))).1 := fun c i q => by rw [f2.2.2.2 c i q, kt c i q, n4 c i q]
  exact m_answer (wd_I i hk (by omega)) (InvT_keep ht (by have := w.b72; omega) n4) m2 kt2 (by omega) (fun o => (wnt_e s k o).1) (fun o _ => (wnt_e s k o).2) (fun u mu fu => kB (by omega) u mu (f2.tr fu.w))
theorem p_call {x : ab_X} {a : Int32} (ht : InvT x.1) (h : InvA x) {K : ab_X → Prop} (hk : ∀ z, InvA z → keepT x.1 z.1 → K z) : wX11_call a x (fun r y => wX12_call a y (fun r' z => r = r' ∧ K z)) := by
  have b92 := h.2.b92
  have b1 := h.2.b1
  unfold wX11_call
  rcases jx_d a (n := 20) (by omega) with e | ⟨c, hc, rfl⟩
  · unfold wX12_call
    simp (disch := first | assumption | omega) only [prv_n, nxt_n, q_sw, mc4, mc6, mc8, mc20, mc24, mc100, nv_rd, nb_rd, wr_rd, nI_lit, nI_add, pk_mul, pk_sub, q_div, cl_nI, vpi, q_eq, q_le, q_lt, n1_eq, n1_eq', n1_le, n1_lt, n1_ge, n1_gt, i_0m1, nlt_t, nlt_f, nle_t, nle_f, neq_f, f_below, f_within, f_isCorner, f_isIn, f_isCornerM, f_isStreet, f_isHouse, f_isCrew, f_isRow, f_has10, f_has0, jx_I, jx_N, jx_m1, jr_I, jr_N1, jr_N2, wr_2, isB_0, isB_1, true_and, and_true, and_self, false_and, and_false, true_or, or_true, false_or, or_false, not_true_eq_false, not_false_eq_true, forall_const, implies_true, false_implies, ne_eq, eq_self, if_true, if_false, Nat.zero_add, Nat.add_zero, Nat.mul_zero, Nat.zero_mul, Nat.mul_one, Nat.one_mul, Nat.add_sub_cancel, Nat.reduceEqDiff, Nat.reduceAdd, Nat.reduceMul, Nat.reduceSub, Nat.reduceLeDiff, Nat.reduceLT, Nat.reduceDiv, Nat.reduceMod, e]
    exact hk _ (InvA_th h) keepT_th
  simp only [nI_lit]
  rw [f_isCorner]
  have c20 : (20 : Int32) = nI 20 := rfl
  rw [c20, jx_I hc (by decide)]
  refine y1 ?_
  unfold wX0_answer
  refine c_openAt h.1 h.2 ?_
  have fin : ∀ u s z, Inv2 u s → keepT x.1 u.1 → smM x u → s.2.1 = x.2.1 → keepM s.1 z.1 → rW (wr u 246 0 0) z → K z := by
    intro u s z iu ktu smu es mz fz
    refine hk z (iu.fin (fun d p => by rw [fz.1 d p, wr_n (by omega)]) mz (fun k p => ?_) ?_) ((ktu.tr keepT_th).tr fz.2.2.2)
    · rw [fz.2.1, wr_n (by decide), smu.1 268 (by decide)]; exact h.1.wa k p
    · rw [fz.2.2.1, es]
      show u.2.1 329 = _
      rw [smu.2]
  have s2 : ∀ s k, (cnS s k).2 = s.2 ∧ (anS s k).2 = s.2 := by
    intro s k
    refine ⟨rfl, ?_⟩
    have e1 : ∀ s k a n, (sdN s k a n).2 = s.2 := by
      intro s k a n
      induction n with
      | zero => rfl
      | succ n ih => exact ((sdS_o _ k a).2).trans ih
    have e2 : ∀ s k W n, (sAll s k W n).2 = s.2 := by
      intro s k W n
      induction n with
      | zero => rfl
      | succ n ih => exact (e1 _ _ _ _).trans ih
    have e3 : ∀ n s, (mvN n s).2 = s.2 := by
      intro n
      induction n with
      | zero => exact fun s => rfl
      | succ n ih =>
        intro s
        show (match mv1 s with | none => s | some s' => mvN n s').2 = s.2
        cases em : mv1 s with
        | none => rfl
        | some s' =>
          have : s'.2 = s.2 := by
            unfold mv1 at em
            split at em
            · cases em
            · split at em
              · cases em
              · injection em with em; rw [← em]; rfl
          exact (ih s').trans this
    exact (e3 _ _).trans (e2 _ _ _ _)
  -- one run of both, from a state at hand
  have ref : ∀ u, smM x u → ∀ (G : Int32 → ab_X → Prop), (oaI x.1 (nI c) = -nI 1 → nv x.1 246 92 = 60 → G (-1) (wr u 246 0 0)) → (oaI x.1 (nI c) = -nI 1 → nv x.1 246 92 < 60 → ∀ z, keepM (beS x (nI c)).1 z.1 → rW (wr u 246 0 0) z → wX12_call_93 (nI (nv x.1 246 92)) z G) → (∀ k, oaI x.1 (nI c) = nI k → k < 60 → wX12_call_93 (nI k) (wr u 246 0 0) G) → wX12_call (nI c) u G := by
    intro u smu G g0 g1 g2
    have mu : keepM x.1 (wr u 246 0 0).1 := (smu.m keepM.rfl').tr keepM_th
    unfold wX12_call
    simp only [nI_lit]
    rw [f_isCornerM, c20, jx_I hc (by decide)]
    refine x1 ?_
    refine m_openAt mu h.2.v92 b92 ?_
    rcases oa_d x.1 (nI c) with ⟨e, -⟩ | ⟨k, hk', e, -⟩
    · rw [e]
      refine ⟨fun u => absurd rfl u, fun _ => ?_⟩
      have e92 : (wr u 246 0 (nI 0)).1 246 92 = nI (nv x.1 246 92) := by have := mu.s92; rw [h.2.v92] at this; exact this
      have m0 : keepM x.1 (wr u 246 0 (nI 0)).1 := mu
      rw [e92, q_eq (by omega) (by omega), cl_nI (by omega)]
      have f0 : rW (wr u 246 0 0) (wr u 246 0 (nI 0)) := ⟨fun _ _ => rfl, rfl, rfl, keepT.rfl'⟩
      refine ⟨fun q => ?_, fun q => g0 e q⟩
      have vn : vp_in (nI (nv x.1 246 92)) 60 := (vpi (by omega) (by decide)).mpr trivial
      refine ⟨vn, vn, vn, vn, ?_⟩
      have en : (wr (wr (wr u 246 0 (nI 0)) 310 (nv x.1 246 92) (nI c)) 311 (nv x.1 246 92) (nI 0)).1 246 1 = nI (nv x.1 246 1) := by rw [wr_n (by decide), wr_n (by decide), m0.s1]; exact h.2.v1
      rw [en]
      have e9 : (wr (wr (wr (wr (wr u 246 0 (nI 0)) 310 (nv x.1 246 92) (nI c)) 311 (nv x.1 246 92) (nI 0)) 313 (nv x.1 246 92) (nI (nv x.1 246 1))) 314 (nv x.1 246 92) (-nI 1)).1 246 92 + nI 1 = nI (nv x.1 246 92 + 1) := by
        simp (disch := omega) only [wr_n]
        have e92' : (wr u 246 0 (nI 0)).1 246 92 = nI (nv x.1 246 92) := e92
        rw [e92', nI_add]
      rw [e9]
      have m5 := keepM_wr (c := 246) (k := 92) (v := nI (nv x.1 246 92 + 1)) (keepM_wr (c := 314) (k := nv x.1 246 92) (v := -nI 1) (keepM_wr (c := 313) (k := nv x.1 246 92) (v := nI (nv x.1 246 1)) (keepM_wr (c := 311) (k := nv x.1 246 92) (v := nI 0) (keepM_wr (c := 310) (k := nv x.1 246 92) (v := nI c) m0))))
      have kf : keepF x.1 (wr (wr (wr (wr (wr (wr u 246 0 (nI 0)) 310 (nv x.1 246 92) (nI c)) 311 (nv x.1 246 92) (nI 0)) 313 (nv x.1 246 92) (nI (nv x.1 246 1))) 314 (nv x.1 246 92) (-nI 1)) 246 92 (nI (nv x.1 246 92 + 1))).1 := by
        refine ⟨fun d q => ?_, ?_⟩
        · have q' := q
          unfold kF at q'
          simp (disch := omega) only [wr_n]
          exact smu.1 d (by omega)
        · simp (disch := omega) only [wr_ne]
          rw [smu.1 246 (by decide)]
      refine m_burnsAt kf h.2.tw ⟨vn, bb_isB _, ?_⟩
      refine g1 e (by omega) _ (keepM_wr m5) (f0.tr ?_)
      exact (((((rW_wr (by decide) (by decide) (by unfold tk; omega)).tr (rW_wr (by decide) (by decide) (by unfold tk; omega))).tr (rW_wr (by decide) (by decide) (by unfold tk; omega))).tr (rW_wr (by decide) (by decide) (by unfold tk; omega))).tr (rW_wr (by decide) (by decide) (by unfold tk; omega))).tr (rW_wr (by decide) (by decide) (by unfold tk; omega))
    · rw [e]
      exact ⟨fun _ => g2 k e (by omega), fun u => absurd u (n1_eq' (by omega)).mp⟩
  rcases oa_d x.1 (nI c) with ⟨e, zo⟩ | ⟨k, hk', e, o⟩
  · rw [e]
    refine ⟨fun u => absurd rfl u, fun _ => ?_⟩
    unfold wX0_begin
    rw [h.1.s92, h.2.v92]
    simp only [nI_lit]
    rw [q_lt (by omega) (by omega)]
    refine ⟨fun q => ?_, fun q => ?_⟩
    · rw [cl_nI (by omega)]
      generalize hn : nv x.1 246 92 = n at q b92
      have en : (wr x (98 + n) 0 (nI c)).1 66 12 = nI (nv x.1 246 1) := by rw [wr_n (by omega), h.1.s1]; exact h.2.v1
      rw [en]
      refine ⟨(vpi (by omega) (by decide)).mpr trivial, ?_⟩
      have kc1 : TR 11 (wr (wr x (98 + n) 0 (nI c)) (98 + n) 3 (nI (nv x.1 246 1))).1 x.1 := by
        have t := h.1.tr
        refine ⟨by rw [wr_n (by omega), wr_n (by omega)]; exact t.1, Rho_fr t.2.1 (fun i p q => by rw [wr_n (by omega), wr_n (by omega)]) (fun i p q => rfl) (fun i p q => rfl) rfl (fun i p => by have := h.2.b31; omega), ?_⟩
        have t3 := t.2.2
        unfold Fi at t3 ⊢
        simp (disch := omega) only [wr_n]
        exact t3
      refine c_worst kc1 h.2.tw ?_
      have beg : ∀ bv, bv = bb (decide (¬ wor x.1 (nI c) = -nI 1)) → wX0_begin_52 (98 + n) bv (wr (wr x (98 + n) 0 (nI c)) (98 + n) 3 (nI (nv x.1 246 1))) (fun r2 x3 => wX0_answer_20 (nI c) r2 x3 (fun r y => wX12_call (nI c) y (fun r' z => r = r' ∧ K z))) := by
        intro bv hb
        unfold wX0_begin_52
        have e5 : (wr (wr (wr x (98 + n) 0 (nI c)) (98 + n) 3 (nI (nv x.1 246 1))) (98 + n) 8 bv).1 66 5 + 1 = nI (n + 1) := by
          simp (disch := omega) only [wr_n]
          rw [h.1.s92, h.2.v92, hn]; exact nI_add n 1
        rw [e5, wr_e]
        have e6 : nI (n + 1) - 1 = nI n := by
          have : nI (n + 1) - nI 1 = nI (n + 1 - 1) := pk_sub (by omega)
          rw [Nat.add_sub_cancel] at this; exact this
        rw [e6]
        refine ⟨by rw [hb]; exact bb_isB _, ?_⟩
        have ib : Inv2 (wr (wr (wr (wr x (98 + n) 0 (nI c)) (98 + n) 3 (nI (nv x.1 246 1))) (98 + n) 8 bv) 66 5 (nI (n + 1))) (beS x (nI c)) := by
          unfold Inv2 beS
          rw [hn, ← hb]
          simp (disch := omega) only [mg_wc, mg_wm]
          have emg : mg x x = x := Prod.ext (funext (fun d => by show (if d < 246 then x.1 d else x.1 d) = x.1 d; split <;> rfl)) rfl
          rw [emg]
          exact i_begin h hn q hc (fun i hi => zo i (by omega)) hb rfl
        have kty : keepT x.1 (wr (wr (wr (wr x (98 + n) 0 (nI c)) (98 + n) 3 (nI (nv x.1 246 1))) (98 + n) 8 bv) 66 5 (nI (n + 1))).1 := fun d i q => by unfold tk at q; simp (disch := omega) only [wr_ne]
        have smy : smM x (wr (wr (wr (wr x (98 + n) 0 (nI c)) (98 + n) 3 (nI (nv x.1 246 1))) (98 + n) 8 bv) 66 5 (nI (n + 1))) := ⟨fun d q => by simp (disch := omega) only [wr_n], rfl⟩
        have ktb : keepT x.1 (beS x (nI c)).1 := fun d i q => by unfold tk at q; unfold beS; simp (disch := omega) only [wr_ne]
        have tb : InvT (beS x (nI c)).1 := InvT_keep ht h.2.b72 ktb
        have nb : nv (beS x (nI c)).1 246 92 = n + 1 := by
          unfold beS
          refine nv_of ?_ (by omega)
          rw [wr_n (by decide), wr_e, hn]
        have cb : (beS x (nI c)).1 310 n = nI c := by
          unfold beS
          rw [hn]
          simp (disch := omega) only [wr_ne, wr_e]
        generalize wr (wr (wr (wr x (98 + n) 0 (nI c)) (98 + n) 3 (nI (nv x.1 246 1))) (98 + n) 8 bv) 66 5 (nI (n + 1)) = y at ib kty smy
        have kty2 : keepT (beS x (nI c)).1 y.1 := fun d i q => by rw [kty d i q, ktb d i q]
        have rest : ∀ u s' r, Inv2 u s' → keepT y.1 u.1 → smM y u → (s' = cnS (beS x (nI c)) n ∨ s' = anS (beS x (nI c)) n) → (s' = cnS (beS x (nI c)) n ↔ nv (beS x (nI c)).1 311 n = 3 ∨ s' = cnS (beS x (nI c)) n) → r = nI n → (nv (beS x (nI c)).1 311 n = 3 → s' = cnS (beS x (nI c)) n) → (nv (beS x (nI c)).1 311 n < 3 → s' = anS (beS x (nI c)) n) → wX12_call (nI c) u (fun r' z => r = r' ∧ K z) := by
          intro u s' r iu ktu smu es _ er w3 w2
          have smx := smy.tr smu
          have es2 : s'.2.1 = x.2.1 := by
            have b2 : (beS x (nI c)).2 = x.2 := rfl
            rcases es with es | es
            · rw [es, (s2 _ _).1, b2]
            · rw [es, (s2 _ _).2, b2]
          refine ref u smx _ (fun _ u60 => by omega) (fun _ _ z mz fz => ?_) (fun k ek hk60 => ?_)
          · rw [hn]
            have ktz : keepT (beS x (nI c)).1 z.1 := fun d i q => by rw [fz.2.2.2 d i q, keepT_th d i q, ktu d i q, kty2 d i q]
            refine m_c93 ib tb mz ktz (by omega) (fun w v mv fv => ⟨er, ?_⟩) (fun w v mv fv => ⟨er, ?_⟩)
            · rw [← w3 w] at mv
              exact fin u s' v iu (kty.tr ktu) smx es2 mv (fz.tr fv)
            · rw [← w2 w] at mv
              exact fin u s' v iu (kty.tr ktu) smx es2 mv (fz.tr fv)
          · rw [e] at ek
            exact absurd ek (n1_eq (by omega)).mp
        refine c_ans20 ib tb kty2 (by omega) cb (fun w u iu ktu smu => ?_) (fun w u iu ktu smu => ?_)
        · exact rest u _ _ iu ktu smu (Or.inl rfl) ⟨fun _ => Or.inr rfl, fun _ => rfl⟩ rfl (fun _ => rfl) (fun w' => by omega)
        · exact rest u _ _ iu ktu smu (Or.inr rfl) ⟨fun q => Or.inr q, fun q => q.elim (fun w' => by omega) id⟩ rfl (fun w' => by omega) (fun _ => rfl)
      refine ⟨fun u => beg _ ?_, fun u => beg _ ?_⟩
      · rw [decide_eq_false (fun g => g u)]; rfl
      · rw [decide_eq_true u]; rfl
    · unfold wX0_answer_20
      rw [f_below, jx_m1]
      refine x0 ?_
      refine ref x smM.rfl' _ (fun _ _ => ⟨rfl, hk _ (InvA_th h) keepT_th⟩) (fun _ q' => by omega) (fun k ek hk60 => ?_)
      rw [e] at ek
      exact absurd ek (n1_eq (by omega)).mp
  · rw [e]
    refine ⟨fun _ => ?_, fun u => absurd u (n1_eq' (by omega)).mp⟩
    have ix := Inv2.id h
    have co := (opB_t.mp o).1
    have rest : ∀ u s', Inv2 u s' → keepT x.1 u.1 → smM x u → s'.2.1 = x.2.1 → (nv x.1 311 k = 3 → s' = cnS x k) → (nv x.1 311 k < 3 → s' = anS x k) → wX12_call (nI c) u (fun r' z => nI k = r' ∧ K z) := by
      intro u s' iu ktu smu es2 w3 w2
      refine ref u smu _ (fun e' => ?_) (fun e' => ?_) (fun k' ek hk60 => ?_)
      · rw [e] at e'; exact absurd e' (n1_eq' (by omega)).mp
      · rw [e] at e'; exact absurd e' (n1_eq' (by omega)).mp
      · rw [e] at ek
        have ek := (q_eq (by omega) (by omega)).mp ek
        subst ek
        have mu : keepM x.1 (wr u 246 0 0).1 := (smu.m keepM.rfl').tr keepM_th
        refine m_c93 ix ht mu (ktu.tr keepT_th) hk' (fun w v mv fv => ⟨rfl, ?_⟩) (fun w v mv fv => ⟨rfl, ?_⟩)
        · rw [← w3 w] at mv
          exact fin u s' v iu ktu smu es2 mv fv
        · rw [← w2 w] at mv
          exact fin u s' v iu ktu smu es2 mv fv
    refine c_ans20 ix ht keepT.rfl' hk' co (fun w u iu ktu smu => ?_) (fun w u iu ktu smu => ?_)
    · exact rest u _ iu ktu smu (by rw [(s2 _ _).1]) (fun _ => rfl) (fun w' => by omega)
    · exact rest u _ iu ktu smu (by rw [(s2 _ _).2]) (fun w' => by omega) (fun _ => rfl)
