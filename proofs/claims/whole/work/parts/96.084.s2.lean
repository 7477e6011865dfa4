/-! A MINUTE, 11: crews at work, the reference. -/
theorem m_save {y : ab_X} {Y : Nat → Nat → Int32} {j : Nat} (w : WW Y) (m : keepM Y y.1) (hj : j < nv Y 246 58) (h1 : nv Y 286 j = 2) (h2 : nv Y 279 j = 2) {K : ab_X → Prop} (k0 : tkO Y j = -nI 1 → K y) (k1 : ∀ f, f < 6 → tkO Y j = nI f → K (wr (wr y 272 (6 * nv Y 290 j + f) (nI (nv Y 272 (6 * nv Y 290 j + f) - min 2 (nv Y 272 (6 * nv Y 290 j + f))))) 262 (nv Y 290 j) (Y 262 (nv Y 290 j) + nI (min 2 (nv Y 272 (6 * nv Y 290 j + f)))))) : wX12_save (nI j) (nI (nv Y 290 j)) y K := by
  have b31 := w.b31
  have b58 := w.b58
  obtain ⟨m0, m1, m2⟩ := (w.cr.2.2.1 j hj).2.1 h1
  obtain ⟨v1, v2, v3, v3', v4, v4', -⟩ := w.ho.1 _ m1
  have l3 := v3.2
  have g5 := (w.cr.1 j hj).2.2.2.2.2.2.1
  have l5 := g5.2
  generalize hh : nv Y 290 j = h at m1 m2 v3 v3' l3 k1
  generalize hM : min (nv Y 256 h) (nv Y 283 j) = M
  have lM : M ≤ nv Y 256 h := by rw [← hM]; exact Nat.min_le_left _ _
  have eO : tkO Y j = lastB (tkP Y h) M := by unfold tkO; rw [hh, hM]
  unfold wX12_save
  rw [cl_nI (by omega), cl_nI (by omega), m.c283, m.c256, v3.1, g5.1, imin_I (by omega) (by omega), Nat.min_comm, hM]
  have e1 : nI M - 1 = dn M := dn_m
  rw [e1]
  refine ⟨(vpi (by omega) (by decide)).mpr trivial, (vpi (by omega) (by decide)).mpr trivial, ?_⟩
  refine Lp1.ind (fun ii v => ∃ q, q ≤ M ∧ ii = q ∧ v = dn q ∧ ∀ f, q ≤ f → f < M → tkP Y h f = false) M ⟨M, Nat.le_refl _, rfl, rfl, fun f a b => by omega⟩ ?_
  rintro ii v ⟨q, hq, rfl, rfl, z⟩ L hL
  unfold lX12_save_18
  by_cases e0 : ii = 0
  · have ed : dn ii = -nI 1 := by unfold dn; rw [if_pos e0]
    rw [ed]
    refine ⟨fun _ => ?_, fun u => absurd (by decide) u⟩
    unfold wX12_save_56
    refine ⟨fun u => absurd u (by decide), fun _ => k0 ?_⟩
    rw [eO]; exact lastB_no (fun f hf => z f (by omega) hf)
  obtain ⟨f, rfl⟩ : ∃ f, ii = f + 1 := ⟨ii - 1, by omega⟩
  have ed : dn (f + 1) = nI f := by unfold dn; rw [if_neg e0, Nat.add_sub_cancel]
  rw [ed]
  have f6 : f < 6 := by omega
  have e6 : 6 * nI h + nI f = nI (6 * h + f) := by
    have : 6 * nI h = nI (6 * h) := pk_mul 6 h
    rw [this, nI_add]
  have vf : vp_in (nI (6 * h + f)) 72 := (vpi (by omega) (by decide)).mpr trivial
  have p272 := (w.ho.2.2 (6 * h + f) (by omega)).1
  have l272 := p272.2
  have next : tkP Y h f = false → L (nI f + (-1)) := by
    intro u
    have e2 : nI f + (-1) = dn f := dn_s f
    rw [e2]
    exact hL _ _ (by omega) ⟨f, by omega, rfl, rfl, fun g a b => by
      by_cases e : g = f
      · rw [e]; exact u
      · exact z g (by omega) b⟩
  rw [e6, cl_nI (by omega), m.c274, m.c272, p272.1]
  refine ⟨fun u => absurd u (nI_pos (by omega)), fun _ => ⟨vf, fun q2 => next ?_, fun q2 => ⟨vf, fun q1 => ?_, fun q1 => next ?_⟩⟩⟩
  · have q2 : ¬ Y 274 (6 * h + f) = nI 0 := q2
    unfold tkP
    rw [decide_eq_false q2, Bool.false_and]
  · have q2 : Y 274 (6 * h + f) = nI 0 := q2
    have q1 : ¬ nI (nv Y 272 (6 * h + f)) = nI 0 := q1
    have ptk : tkP Y h f = true := by
      unfold tkP
      rw [decide_eq_true q2, decide_eq_true (p := ¬ Y 272 (6 * h + f) = nI 0) (fun u => q1 (by rw [← p272.1]; exact u))]; rfl
    have eL : lastB (tkP Y h) M = nI f := by
      rw [lastB_cut (m := f + 1) hq (fun g a b => z g a b)]
      show (if tkP Y h f then nI f else lastB (tkP Y h) f) = nI f
      rw [ptk]; rfl
    have kk := k1 f f6 (eO.trans eL)
    unfold wX12_save_56
    have e2 : imin 2 (nI (nv Y 272 (6 * h + f))) = nI (min 2 (nv Y 272 (6 * h + f))) := imin_I (by decide) (by omega)
    have vh : vp_in (nI h) 12 := (vpi (by omega) (by decide)).mpr trivial
    rw [e6, cl_nI (by omega), cl_nI (by omega), m.c272, p272.1, e2, pk_sub (Nat.min_le_right _ _), wr_n (by decide), m.c262]
    exact ⟨fun _ => ⟨vf, vf, vf, vh, vh, kk⟩, fun u => absurd (nI_pos' (by omega)) u⟩
  · have q1 : nI (nv Y 272 (6 * h + f)) = nI 0 := q1
    unfold tkP
    rw [decide_eq_false (p := ¬ Y 272 (6 * h + f) = nI 0) (fun u => u (by rw [p272.1]; exact q1)), Bool.and_false]
theorem rsN_I {x s : ab_X} (h : Inv2 x s) : ∀ j, j ≤ nv s.1 246 58 → ∃ y, Inv2 y (rsN s j)
  | 0, _ => ⟨x, h⟩
  | j + 1, hj => by
    have b58 := h.w.b58
    obtain ⟨y, hy⟩ := rsN_I h j (by omega)
    refine ⟨wr (wr y (82 + j) 16 (nI 0)) (82 + j) 13 (-nI 1), ?_⟩
    show Inv2 _ (rsO (rsN s j) j)
    unfold Inv2 rsO
    rw [mg_wm (by omega), mg_wm (by omega), mg_wc (by omega), mg_wc (by omega)]
    refine i_reset hy (j := j) ?_ rfl
    unfold nv; rw [mg_m (by decide), (rsN_o s j).1 246 (by decide) (by decide)]
    exact hj
theorem wk1_I {x : ab_X} {q : WS} {j : Nat} (i : Inv2 x q.1) (hj : j < nv q.1.1 246 58) : ∃ y, Inv2 y (wk1 q j).1 := by
  have w := i.w
  have b58 := w.b58
  have b31 := w.b31
  rcases aim_d (W := q.2.1) w hj with ⟨e0, -⟩ | ⟨r, m, a, fl, e0, c, -⟩
  · unfold wk1; rw [e0]
    show ∃ y, Inv2 y (tkS q.1 j)
    by_cases u : nv q.1.1 286 j = 2 ∧ nv q.1.1 279 j = 2 ∧ ¬ tkO q.1.1 j = -nI 1
    · obtain ⟨m0, m1, m2⟩ := (w.cr.2.2.1 j hj).2.1 u.1
      obtain ⟨v1, v2, v3, v3', v4, v4', -⟩ := w.ho.1 _ m1
      have l3 := v3.2
      rcases lastB_d (tkP q.1.1 (nv q.1.1 290 j)) (min (nv q.1.1 256 (nv q.1.1 290 j)) (nv q.1.1 283 j)) with e | ⟨f, hf, e, p, -⟩
      · exact absurd e.1 u.2.2
      · have eT : tkO q.1.1 j = nI f := e
        have f6 : f < 6 := by have := Nat.min_le_left (nv q.1.1 256 (nv q.1.1 290 j)) (nv q.1.1 283 j); omega
        unfold tkP at p
        rw [Bool.and_eq_true, decide_eq_true_eq] at p
        unfold tkS
        rw [if_pos u, eT, cl_nI (by omega)]
        exact ⟨_, tk_I i m1 f6 p.1⟩
    · unfold tkS; rw [if_neg u]; exact ⟨x, i⟩
  · unfold wk1; rw [e0]
    refine ⟨wr x (82 + j) 13 fl, ?_⟩
    show Inv2 _ (wr q.1 291 j fl)
    unfold Inv2
    rw [mg_wm (by omega), mg_wc (by omega)]
    refine i_floor i (j := j) ?_ ?_ rfl
    · unfold nv; rw [mg_m (by decide)]; exact hj
    · unfold nv; rw [mg_m (by decide)]; exact c.1
theorem wkN_I {x s : ab_X} (h : Inv2 x s) : ∀ j, j ≤ nv s.1 246 58 → ∃ y, Inv2 y (wkN s j).1
  | 0, _ => rsN_I h _ (Nat.le_refl _)
  | j + 1, hj => by
    obtain ⟨y, hy⟩ := wkN_I h j (by omega)
    refine wk1_I hy ?_
    unfold nv; rw [(wkN_o s j).1 246 (by decide) (by decide) (by decide) (by decide)]
    exact hj
def mR (y : ab_X) (h : Nat) (i : Nat) : AR → Prop
  | none => y.1 294 i = nI 0
  | some (r, m, a, _) => y.1 294 i = nI a ∧ y.1 296 i = nI (24 * h + r) ∧ y.1 297 i = nI m
theorem mR_c {y z : ab_X} {h i : Nat} {o : AR} (m : mR y h i o) (e1 : z.1 294 i = y.1 294 i) (e2 : z.1 296 i = y.1 296 i) (e3 : z.1 297 i = y.1 297 i) : mR z h i o := by
  unfold mR at m ⊢
  rw [e1, e2, e3]; exact m
def MW (s x : ab_X) (j : Nat) (y : ab_X) : Prop := (∀ c, kM c → c ≠ 291 → c ≠ 295 → y.1 c = (wkN s j).1.1 c) ∧ (∀ f, kS f → y.1 246 f = s.1 246 f) ∧ (∀ i, i < j → y.1 291 i = (wkN s j).1.1 291 i ∧ y.1 295 i = nI 0) ∧ (∀ i, j ≤ i → y.1 291 i = s.1 291 i ∧ y.1 295 i = s.1 295 i) ∧ (∀ k, k < 288 → y.1 268 k = (wkN s j).2.1 k) ∧ (∀ m, m < nv s.1 246 56 → y.1 278 m = nI (asum (wkN s j).2.2 m j)) ∧ (∀ i, i < j → mR y (nv s.1 290 i) i ((wkN s j).2.2 i)) ∧ keepT x.1 y.1 ∧ smC x y
theorem MW_next {s x y z : ab_X} {j : Nat} (c : MW s x j y) (a1 : ∀ c, kM c → c ≠ 291 → c ≠ 295 → z.1 c = (wk1 (wkN s j) j).1.1 c) (a2 : ∀ f, kS f → z.1 246 f = y.1 246 f) (a3 : z.1 291 j = (wk1 (wkN s j) j).1.1 291 j ∧ z.1 295 j = nI 0) (a4 : ∀ i, i ≠ j → z.1 291 i = y.1 291 i ∧ z.1 295 i = y.1 295 i ∧ z.1 294 i = y.1 294 i ∧ z.1 296 i = y.1 296 i ∧ z.1 297 i = y.1 297 i) (a5 : ∀ k, k < 288 → z.1 268 k = (wk1 (wkN s j) j).2.1 k) (a6 : ∀ m, m < nv s.1 246 56 → z.1 278 m = y.1 278 m + nI (aOf m (aimO (wkN s j).1.1 (wkN s j).2.1 j))) (a7 : mR z (nv s.1 290 j) j (aimO (wkN s j).1.1 (wkN s j).2.1 j)) (a8 : keepT y.1 z.1) (a9 : smC y z) : MW s x (j + 1) z := by
  obtain ⟨c1, c2, c3, c4, c5, c6, c7, c8, c9⟩ := c
  obtain ⟨w1, w2, w3, w4⟩ := wk1_r (wkN s j) j
  have nj := ((wkN_v s j).1 j (Nat.le_refl _)).1
  have st : wkN s (j + 1) = wk1 (wkN s j) j := rfl
  unfold MW
  rw [st]
  refine ⟨a1, fun f q => (a2 f q).trans (c2 f q), fun i hi => ?_, fun i hi => ?_, a5, fun m hm => ?_, fun i hi => ?_, c8.tr a8, c9.tr a9⟩
  · by_cases e : i = j
    · rw [e]; exact a3
    · obtain ⟨p1, p2, -⟩ := a4 i e
      rw [p1, p2, w3 i e]; exact c3 i (by omega)
  · obtain ⟨p1, p2, -⟩ := a4 i (by omega)
    rw [p1, p2]; exact c4 i (by omega)
  · rw [a6 m hm, c6 m hm, nI_add]
    show _ = nI (asum (wk1 (wkN s j) j).2.2 m j + aOf m ((wk1 (wkN s j) j).2.2 j))
    rw [asum_c (fun i hi => w1 i (by omega)), w2 nj]
  · by_cases e : i = j
    · rw [e, w2 nj]; exact a7
    · obtain ⟨-, -, p3, p4, p5⟩ := a4 i e
      rw [w1 i e]
      exact mR_c (c7 i (by omega)) p3 p4 p5
