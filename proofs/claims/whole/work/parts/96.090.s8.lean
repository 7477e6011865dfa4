/-! A MINUTE, 17: the water is shared, the reference. -/
theorem MW_m {s x y : ab_X} (c : MW s x (nv s.1 246 58) y) : keepM (wkN s (nv s.1 246 58)).1.1 y.1 := by
  obtain ⟨c1, c2, c3, c4, c5, c6, c7, c8, c9⟩ := c
  obtain ⟨v1, v2, v3⟩ := wkN_v s (nv s.1 246 58)
  refine ⟨fun d p => ?_, fun f p => ?_⟩
  · by_cases e : d = 291
    · subst e
      funext i
      by_cases u : i < nv s.1 246 58
      · exact (c3 i u).1
      · rw [(c4 i (by omega)).1, (v1 i (by omega)).2.2 (by omega)]
    by_cases e' : d = 295
    · subst e'
      funext i
      by_cases u : i < nv s.1 246 58
      · rw [(c3 i u).2, v2 i u]
      · rw [(c4 i (by omega)).2, v3 i (by omega)]
    exact c1 d p e e'
  · rw [c2 f p, (wkN_o s _).1 246 (by decide) (by decide) (by decide) (by decide)]
theorem m_373 {X : ab_X} {j p h : Nat} {g : Int32} (hj : j < 16) (hp : p < 288) (hh : p / 24 = h) (e296 : X.1 296 j = nI p) {K : ab_X → Prop} {L : Int32 → ab_X → Prop} (k : L (nI (j + 1)) (wr (wr (wr X 295 j g) 268 p (X.1 268 p + g)) 264 h (X.1 264 h + g))) : wX12_work_373 (nI j) (nI j) g X K L := by
  have vj : vp_in (nI j) 16 := (vpi hj (by decide)).mpr trivial
  have vp : vp_in (nI p) 288 := (vpi hp (by decide)).mpr trivial
  have vh : vp_in (nI h) 12 := (vpi (by omega) (by decide)).mpr trivial
  have ej : nI j + 1 = nI (j + 1) := nI_add j 1
  unfold wX12_work_373
  rw [cl_nI (n := j) (by omega)]
  have f1 : (wr X 295 j g).1 296 j = nI p := by rw [wr_n (by decide)]; exact e296
  have f2 : (wr X 295 j g).1 268 p = X.1 268 p := by rw [wr_n (by decide)]
  have f3 : (wr X 295 j g).1 295 j = g := wr_e
  rw [f1, cl_nI (by omega), f2, f3]
  have g1 : (wr (wr X 295 j g) 268 p (X.1 268 p + g)).1 296 j = nI p := by rw [wr_n (by decide)]; exact f1
  have g2 : (wr (wr X 295 j g) 268 p (X.1 268 p + g)).1 264 h = X.1 264 h := by rw [wr_n (by decide), wr_n (by decide)]
  have g3 : (wr (wr X 295 j g) 268 p (X.1 268 p + g)).1 295 j = g := by rw [wr_n (by decide)]; exact f3
  have e24 : nI p / 24 = nI h := by rw [← hh]; exact q_div (by omega) (by decide) (by decide)
  rw [g1, e24, cl_nI (by omega), g2, g3, ej]
  exact ⟨vj, vj, vp, vj, vp, vj, vh, vj, vh, k⟩
theorem m_share {s x y xs : ab_X} (is : Inv2 xs s) (c : MW s x (nv s.1 246 58) y) {K : ab_X → Prop} (k : ∀ z, keepM (shN (wkN s (nv s.1 246 58)).1 (nv s.1 246 58) (wkN s (nv s.1 246 58)).2.2 (nv s.1 246 58)).1.1 z.1 → (∀ k, k < 288 → z.1 268 k = (shN (wkN s (nv s.1 246 58)).1 (nv s.1 246 58) (wkN s (nv s.1 246 58)).2.2 (nv s.1 246 58)).2 k) → keepT x.1 z.1 → smC x z → K z) : Lp2 (lX12_work_278 K) 0 y := by
  have mq := MW_m c
  obtain ⟨c1, c2, c3, c4, c5, c6, c7, c8, c9⟩ := c
  have rok := wkN_R is (nv s.1 246 58) (Nat.le_refl _)
  obtain ⟨xa, ia⟩ := wkN_I is (nv s.1 246 58) (Nat.le_refl _)
  have qo : ∀ d k, d ≠ 262 → d ≠ 272 → d ≠ 291 → d ≠ 295 → nv (wkN s (nv s.1 246 58)).1.1 d k = nv s.1 d k := fun d k a b c e => by unfold nv; rw [(wkN_o s _).1 d a b c e]
  have b58 := is.w.b58
  have b56 := is.w.b56
  have b31 := is.w.b31
  have al : ∀ m, asum (wkN s (nv s.1 246 58)).2.2 m (nv s.1 246 58) ≤ 8000 := fun m => by have := asum_le (m := m) rok; omega
  have mh : ∀ m, m < nv s.1 246 56 → (wkN s (nv s.1 246 58)).1.1 275 m = nI (nv (wkN s (nv s.1 246 58)).1.1 275 m) ∧ nv (wkN s (nv s.1 246 58)).1.1 275 m ≤ 2000 := fun m hm => (ia.w.mh.1 m (by rw [qo 246 56 (by decide) (by decide) (by decide) (by decide)]; exact hm)).1
  have rl : ∀ h, h < nv s.1 246 31 → nv s.1 256 h * nv s.1 257 h ≤ 24 := fun h hh => rm_le is.w.tw hh
  have q290 : ∀ i, nv (wkN s (nv s.1 246 58)).1.1 290 i = nv s.1 290 i := fun i => qo 290 i (by decide) (by decide) (by decide) (by decide)
  have phB : ∀ x2 : ab_X, (∀ d, d ≠ 268 → x2.1 d = y.1 d) → x2.2 = y.2 → (∀ k, k < 288 → x2.1 268 k = nI 0) → Lp2 (lX12_work_300 K) 0 x2 := by
    intro x2 h1 h2 h3
    generalize hn : nv s.1 246 58 = n at *
    generalize hq : wkN s n = q at *
    refine Lp2.ind (fun ii a z => ∃ j, j ≤ n ∧ ii = n - j ∧ a = nI j ∧ keepM (shN q.1 n q.2.2 j).1.1 z.1 ∧ (∀ k, k < 288 → z.1 268 k = (shN q.1 n q.2.2 j).2 k) ∧ (∀ i, i < n → mR z (nv s.1 290 i) i (q.2.2 i)) ∧ (∀ m, m < nv s.1 246 56 → z.1 278 m = nI (asum q.2.2 m n)) ∧ keepT x.1 z.1 ∧ smC x z) n ⟨0, Nat.zero_le _, rfl, rfl, ?_, h3, fun i hi => ?_, fun m hm => ?_, c8.tr (fun d kk p => ?_), c9.tr ⟨fun d p => h1 d (by omega), by rw [h2]⟩⟩ ?_
    · exact mq.tr ⟨fun d p => h1 d (by unfold kM at p; omega), fun f p => by rw [h1 246 (by decide)]⟩
    · exact mR_c (c7 i hi) (by rw [h1 294 (by decide)]) (by rw [h1 296 (by decide)]) (by rw [h1 297 (by decide)])
    · rw [h1 278 (by decide)]; exact c6 m hm
    · unfold tk at p; rw [h1 d (by omega)]
    rintro ii a z ⟨j, hj, hii, rfl, mz, z1, z2, z3, z4, z5⟩ L hL
    have so := shN_o q.1 n q.2.2 j
    have e58 : z.1 246 58 = nI n := by
      rw [mz.2 58 (by unfold kS; omega), so.1 246 (by decide) (by decide), ia.w.v58, qo 246 58 (by decide) (by decide) (by decide) (by decide), hn]
    have ej : nI j + 1 = nI (j + 1) := nI_add j 1
    unfold lX12_work_300
    rw [e58, q_le (by omega) (by omega), ej, cl_nI (by omega)]
    refine ⟨fun u => ?_, fun u => ?_⟩
    · have : j = n := by omega
      subst this
      exact k z mz z1 z4 z5
    have vj : vp_in (nI j) 16 := (vpi (by omega) (by decide)).mpr trivial
    have g := z2 j (by omega)
    have o := rok j (by omega)
    have st : shN q.1 n q.2.2 (j + 1) = sh1 (shN q.1 n q.2.2 j) n q.2.2 j := rfl
    cases e0 : q.2.2 j with
    | none =>
      rw [e0] at g
      have g : z.1 294 j = nI 0 := g
      rw [g]
      refine ⟨vj, fun u => absurd rfl u, fun _ => hL _ _ _ (by omega) ⟨j + 1, by omega, rfl, rfl, ?_⟩⟩
      have : shN q.1 n q.2.2 (j + 1) = shN q.1 n q.2.2 j := by rw [st]; unfold sh1; rw [e0]
      rw [this]
      exact ⟨mz, z1, z2, z3, z4, z5⟩
    | some u =>
      obtain ⟨r, m, a, fl⟩ := u
      rw [e0] at g o
      obtain ⟨g1, g2, g3⟩ := g
      obtain ⟨o1, o2, o3, o4, o5, o6⟩ := o
      have rl := rl _ o2
      obtain ⟨m1, m2⟩ := mh m o4
      have vm : vp_in (nI m) 6 := (vpi (by omega) (by decide)).mpr trivial
      have e275 : z.1 275 m = nI (nv q.1.1 275 m) := by rw [mz.c275, so.1 275 (by decide) (by decide)]; exact m1
      have n275 : nv (shN q.1 n q.2.2 j).1.1 275 m = nv q.1.1 275 m := by unfold nv; rw [so.1 275 (by decide) (by decide)]
      have n290 : nv (shN q.1 n q.2.2 j).1.1 290 j = nv s.1 290 j := by
        rw [← q290 j]; unfold nv; rw [so.1 290 (by decide) (by decide)]
      have age := asum_ge e0 (n := n) (by omega)
      have alm := al m
      have pr : a * nv q.1.1 275 m ≤ 500 * 2000 := Nat.mul_le_mul o6 m2
      rw [g1, g3, cl_nI (by omega), e275, z3 m o4, q_lt (by omega) (by omega)]
      have last : ∀ G, G = nI (gtN (shN q.1 n q.2.2 j).1.1 (asum q.2.2 m n) m a) → wX12_work_373 (nI j) (nI j) G z K L := by
        intro G eG
        generalize hh : nv s.1 290 j = h at *
        refine m_373 (p := 24 * h + r) (h := h) (by omega) (by omega) (by omega) g2 (hL _ _ _ (by omega) ⟨j + 1, by omega, rfl, rfl, ?_, fun kk hk => ?_, fun i hi => ?_, fun m' hm' => ?_, z4.tr (fun d kk p => ?_), z5.tr ⟨fun d p => by simp (disch := omega) only [wr_n], rfl⟩⟩)
        · rw [st]
          unfold sh1
          rw [e0]
          show keepM (wr (wr (shN q.1 n q.2.2 j).1 295 j (nI (gtN (shN q.1 n q.2.2 j).1.1 (asum q.2.2 m n) m a))) 264 (nv (shN q.1 n q.2.2 j).1.1 290 j) ((shN q.1 n q.2.2 j).1.1 264 (nv (shN q.1 n q.2.2 j).1.1 290 j) + nI (gtN (shN q.1 n q.2.2 j).1.1 (asum q.2.2 m n) m a))).1 _
          rw [n290, ← eG, ← mz.c264]
          exact keepM_wr (keepM_off (keepM_wr mz) (by unfold kM; omega) (by omega))
        · rw [st]
          unfold sh1
          rw [e0]
          show _ = updI (shN q.1 n q.2.2 j).2 (24 * nv (shN q.1 n q.2.2 j).1.1 290 j + r) ((shN q.1 n q.2.2 j).2 (24 * nv (shN q.1 n q.2.2 j).1.1 290 j + r) + nI (gtN (shN q.1 n q.2.2 j).1.1 (asum q.2.2 m n) m a)) kk
          rw [n290, ← eG]
          unfold updI
          by_cases e : kk = 24 * h + r
          · subst e; rw [if_pos rfl, wr_ne (by omega), wr_e, z1 _ hk]
          · rw [if_neg e]; simp (disch := omega) only [wr_ne]; exact z1 kk hk
        · exact mR_c (z2 i hi) (by simp (disch := omega) only [wr_n]) (by simp (disch := omega) only [wr_n]) (by simp (disch := omega) only [wr_n])
        · simp (disch := omega) only [wr_n]; exact z3 m' hm'
        · unfold tk at p; simp (disch := omega) only [wr_n]
      refine ⟨vj, fun _ => ⟨vj, vm, vj, vm, fun u => ⟨vj, nI_ne0 (by omega) (by omega), last _ ?_⟩, fun u => ⟨vj, last _ ?_⟩⟩, fun u => absurd u (nI_ne0 (by omega) (by omega))⟩
      · unfold gtN
        rw [n275, if_neg (by omega), pk_mul, q_div (by omega) (by omega) (by omega)]
      · unfold gtN
        rw [n275, if_pos (by omega)]
  refine Lp2.ind (fun ii a z => ∃ j, j ≤ 288 ∧ ii = 288 - j ∧ a = nI j ∧ (∀ d, d ≠ 268 → z.1 d = y.1 d) ∧ z.2 = y.2 ∧ ∀ k, k < j → z.1 268 k = nI 0) 288 ⟨0, Nat.zero_le _, rfl, rfl, fun _ _ => rfl, rfl, fun i hi => by omega⟩ ?_
  rintro ii a z ⟨j, hj, hii, rfl, z1, z2, z3⟩ L hL
  unfold lX12_work_278
  have ej : nI j + 1 = nI (j + 1) := nI_add j 1
  have e2 : (288 ≤ nI j) ↔ 288 ≤ j := q_le (by decide) (by omega)
  rw [e2, ej, cl_nI (by omega)]
  refine ⟨fun u => phB z z1 z2 (fun k hk => z3 k (by omega)), fun u => ⟨(vpi (by omega) (by decide)).mpr trivial, hL _ _ _ (by omega) ⟨j + 1, by omega, rfl, rfl, fun d p => by rw [wr_n p]; exact z1 d p, z2, fun k hk => ?_⟩⟩⟩
  by_cases e : k = j
  · rw [e, wr_e]; rfl
  · rw [wr_ne (by omega)]; exact z3 k (by omega)
