/-! A MINUTE, 16: the water is shared, the program's loops. -/
theorem c_pour {x : ab_X} {q : SS} {n i r m a : Nat} {fl : Int32} {R : Nat → AR} (iv : Inv2 x q.1) (hi : i < nv q.1.1 246 58) (e : R i = some (r, m, a, fl)) (ok : Rok q.1 i (R i)) (hr : cR x i (R i)) (T0 : a ≤ asum R m n) (T1 : asum R m n ≤ 8000) (h81 : x.1 81 m = nI (asum R m n)) {K : ab_X → Prop} (k : ∀ y, Inv2 y (sh1 q n R i).1 → ((∀ k, k < 288 → x.1 14 k = q.2 k) → ∀ k, k < 288 → y.1 14 k = (sh1 q n R i).2 k) → (∀ d, d ≠ 14 → (d < 30 ∨ 65 < d) → d ≠ 82 + i → y.1 d = x.1 d) → (∀ f, 17 ≤ f → y.1 (82 + i) f = x.1 (82 + i) f) → y.2 = x.2 → K y) : wX0_pour (82 + i) (30 + 3 * nv q.1.1 290 i) x K := by
  have w := iv.w
  have b58 := w.b58
  have b31 := w.b31
  have b56 := w.b56
  rw [e] at ok hr
  obtain ⟨o1, o2, o3, o4, o5, o6⟩ := ok
  obtain ⟨h17, h18, h19⟩ := hr
  obtain ⟨p275, p275'⟩ := w.mh.1 m o4
  have l275 := p275.2
  have r275 := iv.r.mh.1 m o4
  have rl := rm_le w.tw o2
  have u0 := (iv.r.ho.1 _ (Nat.lt_of_lt_of_le o2 (by omega))).1
  have u16 := (iv.r.ho.1 _ (Nat.lt_of_lt_of_le o2 (by omega))).2.2.2.2.2.2
  have vm : vp_in (nI m) 6 := (vpi (by omega) (by decide)).mpr trivial
  have last : ∀ g, g = nI (gtN q.1.1 (asum R m n) m a) → wX0_pour_52 (82 + i) (30 + 3 * nv q.1.1 290 i) (82 + i) g x K := by
    intro g eg
    subst eg
    have i2 := sh1_I (n := n) iv hi e o2
    generalize hG : nI (gtN q.1.1 (asum R m n) m a) = G at *
    have e2 : (sh1 q n R i).2 = updI q.2 (24 * nv q.1.1 290 i + r) (q.2 (24 * nv q.1.1 290 i + r) + G) := by
      have : (sh1 q n R i).2 = updI q.2 (24 * nv q.1.1 290 i + r) (q.2 (24 * nv q.1.1 290 i + r) + nI (gtN q.1.1 (asum R m n) m a)) := by unfold sh1; rw [e]
      rw [this, hG]
    generalize nv q.1.1 290 i = h at *
    unfold wX0_pour_52 wX4_place
    have e0 : (wr x (82 + i) 16 G).1 (30 + 3 * h) 0 = nI h := by rw [wr_n (by omega)]; exact u0
    have e19 : (wr x (82 + i) 16 G).1 (82 + i) 19 = nI r := by rw [wr_ne (by omega)]; exact h19
    have e16 : (wr x (82 + i) 16 G).1 (82 + i) 16 = G := wr_e
    have e14 : (wr x (82 + i) 16 G).1 14 = x.1 14 := wr_n (by omega)
    have e24 : nI h * 24 + nI r = nI (24 * h + r) := by
      have : (24 : Int32) = nI 24 := rfl
      rw [this, pk_mul, nI_add, Nat.mul_comm]
    rw [e0, e19, e24, e16, e14]
    have vr : vp_in (nI (24 * h + r)) 288 := (vpi (by omega) (by decide)).mpr trivial
    show vp_in (nI (24 * h + r)) 288 ∧ vp_in (nI (24 * h + r)) 288 ∧ K (wr (wr (wr x (82 + i) 16 G) 14 (nI (24 * h + r)).toNatClampNeg (x.1 14 (nI (24 * h + r)).toNatClampNeg + G)) (30 + 3 * h) 16 (((wr (wr x (82 + i) 16 G) 14 (nI (24 * h + r)).toNatClampNeg (x.1 14 (nI (24 * h + r)).toNatClampNeg + G)).1 (30 + 3 * h) 16) + ((wr (wr x (82 + i) 16 G) 14 (nI (24 * h + r)).toNatClampNeg (x.1 14 (nI (24 * h + r)).toNatClampNeg + G)).1 (82 + i) 16)))
    rw [cl_nI (by omega)]
    have f1 : (wr (wr x (82 + i) 16 G) 14 (24 * h + r) (x.1 14 (24 * h + r) + G)).1 (30 + 3 * h) 16 = q.1.1 264 h := by rw [wr_n (by omega), wr_n (by omega)]; exact u16
    have f2 : (wr (wr x (82 + i) 16 G) 14 (24 * h + r) (x.1 14 (24 * h + r) + G)).1 (82 + i) 16 = G := by rw [wr_n (by omega), wr_e]
    rw [f1, f2]
    refine ⟨vr, vr, k _ ?_ (fun hw kk hk => ?_) (fun d p p' p'' => by simp (disch := omega) only [wr_n]) (fun f p => by simp (disch := omega) only [wr_ne]) rfl⟩
    · refine i2.kc ⟨fun d p => ?_, ?_, fun cc f p p' => ?_⟩
      · funext kk
        by_cases e : d = 30 + 3 * h
        · subst e
          by_cases e' : kk = 16
          · subst e'; rw [wr_e, wr_e]
          · simp (disch := omega) only [wr_ne]
        · unfold kC at p
          simp (disch := omega) only [wr_n]
      · simp (disch := omega) only [wr_n]
      · by_cases e : cc = i ∧ f = 16
        · rw [e.1, e.2]; simp (disch := omega) only [wr_ne, wr_e]
        · simp (disch := omega) only [wr_ne]
    · rw [e2]
      unfold updI
      by_cases e : kk = 24 * h + r
      · subst e; rw [if_pos rfl, wr_ne (by omega), wr_e, hw _ hk]
      · rw [if_neg e]; simp (disch := omega) only [wr_ne]; exact hw kk hk
  unfold wX0_pour
  have x27 : x.1 27 m = nI (nv q.1.1 275 m) := r275.trans p275.1
  have pr : a * nv q.1.1 275 m ≤ 500 * 2000 := Nat.mul_le_mul o6 l275
  rw [h18, cl_nI (by omega), h81, x27, h17, q_le (by omega) (by omega)]
  have e1 : (1 ≤ nI (asum R m n)) ↔ 1 ≤ asum R m n := q_le (by decide) (by omega)
  rw [e1]
  refine ⟨vm, vm, fun u => ?_, fun u => ⟨fun u2 => ⟨nI_ne0 (by omega) (by omega), last _ ?_⟩, fun u2 => absurd (by omega) u2⟩⟩
  · unfold wX0_pour_36
    rw [h17]
    exact last _ (by unfold gtN; rw [if_pos u])
  · unfold gtN
    rw [if_neg u, pk_mul, q_div (by omega) (by omega) (by omega)]
theorem c_share {x : ab_X} {q : WS} {n : Nat} (c : CW n x q) (hn : n = nv q.1.1 246 58) (hr : ∀ i, i < n → Rok q.1 i (q.2.2 i)) {K : ab_X → Prop} (k : ∀ y, Inv2 y (shN q.1 n q.2.2 n).1 → (y.1 11 7 = nI 0 → ∀ k, k < 288 → y.1 14 k = (shN q.1 n q.2.2 n).2 k) → keepT x.1 y.1 → smM x y → y.1 11 7 = x.1 11 7 → K y) : wX0_shareWater x K := by
  obtain ⟨iv, cw, cr⟩ := c
  have w := iv.w
  have b58 := w.b58
  have b56 := w.b56
  have al : ∀ m, asum q.2.2 m n ≤ 8000 := fun m => by have := asum_le (m := m) hr; omega
  have h18 : ∀ y : ab_X, (∀ i, i < n → cR y i (q.2.2 i)) → ∀ i, i < n → (q.2.2 i = none ∧ y.1 (82 + i) 18 = -nI 1) ∨ ∃ r m a fl, q.2.2 i = some (r, m, a, fl) ∧ y.1 (82 + i) 18 = nI m ∧ y.1 (82 + i) 17 = nI a ∧ m < 6 ∧ nv q.1.1 290 i < nv q.1.1 246 31 := by
    intro y h i hi
    have g := h i hi
    have o := hr i hi
    cases e : q.2.2 i with
    | none => rw [e] at g; exact Or.inl ⟨rfl, g.2⟩
    | some u =>
      obtain ⟨r, m, a, fl⟩ := u
      rw [e] at g o
      exact Or.inr ⟨r, m, a, fl, rfl, g.2.1, g.1, by have := o.2.2.2.1; omega, o.2.1⟩
  have phB : ∀ x2 : ab_X, Inv2 x2 q.1 → (x2.1 11 7 = nI 0 → ∀ k, k < 288 → x2.1 14 k = nI 0) → (∀ i, i < n → cR x2 i (q.2.2 i)) → (∀ m, m < 6 → x2.1 81 m = nI (asum q.2.2 m n)) → keepT x.1 x2.1 → smM x x2 → x2.1 11 7 = x.1 11 7 → Lp2 (lX0_shareWater_79 K) 0 x2 := by
    intro x2 i2 c2 r2 s2 kt2 sm2 e2
    refine Lp2.ind (fun ii a y => ∃ j, j ≤ n ∧ ii = n - j ∧ a = nI j ∧ Inv2 y (shN q.1 n q.2.2 j).1 ∧ (y.1 11 7 = nI 0 → ∀ k, k < 288 → y.1 14 k = (shN q.1 n q.2.2 j).2 k) ∧ (∀ i, i < n → cR y i (q.2.2 i)) ∧ (∀ m, m < 6 → y.1 81 m = nI (asum q.2.2 m n)) ∧ keepT x.1 y.1 ∧ smM x y ∧ y.1 11 7 = x.1 11 7) n ⟨0, Nat.zero_le _, rfl, rfl, i2, c2, r2, s2, kt2, sm2, e2⟩ ?_
    rintro ii a y ⟨j, hj, hii, rfl, iy, cy, ry, sy, kty, smy, ey⟩ L hL
    have so := shN_o q.1 n q.2.2 j
    have n58 : nv (shN q.1 n q.2.2 j).1.1 246 58 = n := by
      have : nv (shN q.1 n q.2.2 j).1.1 246 58 = nv q.1.1 246 58 := by unfold nv; rw [so.1 246 (by decide) (by decide)]
      rw [this]; exact hn.symm
    unfold lX0_shareWater_79
    have ej : nI j + 1 = nI (j + 1) := nI_add j 1
    rw [iy.r.s58, iy.w.v58, n58, q_le (by omega) (by omega), ej, cl_nI (by omega)]
    have vj : j < n → vp_in (nI j) 16 := fun u => (vpi (by omega) (by decide)).mpr trivial
    refine ⟨fun u => ?_, fun u => ⟨vj (by omega), ?_⟩⟩
    · have : j = n := by omega
      subst this
      exact k y iy cy kty smy ey
    rw [f_below]
    have vj := vj (by omega)
    rcases h18 y ry j (by omega) with ⟨e0, e1⟩ | ⟨r, m, a, fl, e0, e1, e17, hm, hh⟩
    · rw [e1, jx_m1]
      refine ⟨fun _ => hL _ _ _ (by omega) ⟨j + 1, by omega, rfl, rfl, ?_⟩, fun u => absurd rfl u⟩
      have : shN q.1 n q.2.2 (j + 1) = shN q.1 n q.2.2 j := by
        show sh1 (shN q.1 n q.2.2 j) n q.2.2 j = _
        unfold sh1; rw [e0]
      rw [this]
      exact ⟨iy, cy, ry, sy, kty, smy, ey⟩
    · have q290 : nv (shN q.1 n q.2.2 j).1.1 290 j = nv q.1.1 290 j := by unfold nv; rw [so.1 290 (by decide) (by decide)]
      have q31 : nv (shN q.1 n q.2.2 j).1.1 246 31 = nv q.1.1 246 31 := by unfold nv; rw [so.1 246 (by decide) (by decide)]
      have b31 := iy.w.b31
      have ok : Rok (shN q.1 n q.2.2 j).1 j (q.2.2 j) := by
        have o := hr j (by omega)
        rw [e0] at o ⊢
        obtain ⟨o1, o2, o3, o4, o5, o6⟩ := o
        have f : ∀ d k, d ≠ 264 → d ≠ 295 → nv (shN q.1 n q.2.2 j).1.1 d k = nv q.1.1 d k := fun d k a b => by unfold nv; rw [so.1 d a b]
        unfold Rok
        simp (disch := decide) only [f]
        exact ⟨o1, o2, o3, o4, o5, o6⟩
      have o1 := ok
      rw [e0] at o1
      have x12 : y.1 (82 + j) 12 = nI (nv (shN q.1 n q.2.2 j).1.1 290 j) := by
        have c12 := (iy.r.cr.1 j (by omega)).2.2.2.2.2.2.2.2.2.2.2.2.1
        rw [c12]
        exact ((iy.w.cr.2.2.1 j (by omega)).2.1 o1.1).1.1
      have j6 : jx (nI m) 6 = nI 1 := jx_I hm (by decide)
      rw [e1, j6, f_has10, x12, iy.r.s31, iy.w.v31, jx_I o1.2.1 (by omega), cl_nI (by omega)]
      have vh : vp_in (nI (nv (shN q.1 n q.2.2 j).1.1 290 j)) 12 := (vpi (by omega) (by decide)).mpr trivial
      refine ⟨fun u => absurd u (by decide), fun _ => ⟨vj, fun u => absurd u (by decide), fun _ => ⟨vj, vj, vh, ?_⟩⟩⟩
      refine c_pour (n := n) iy (by omega) e0 ok (ry j (by omega)) (asum_ge e0 (by omega)) (al m) (sy m hm) (fun z z1 z2 z3 z4 z5 => hL _ _ _ (by omega) ⟨j + 1, by omega, rfl, rfl, z1, fun u => ?_, fun i hi => ?_, fun m' hm' => ?_, kty.tr (fun d kk p => ?_), smy.tr ⟨fun d p => z3 d (by omega) (by omega) (by omega), z5⟩, ?_⟩)
      · rw [z3 11 (by omega) (by omega) (by omega)] at u
        exact z2 (cy u)
      · have g := ry i hi
        unfold cR at g ⊢
        by_cases e : i = j
        · subst e; rw [z4 17 (by omega), z4 18 (by omega), z4 19 (by omega)]; exact g
        · rw [z3 _ (by omega) (by omega) (by omega)]; exact g
      · rw [z3 81 (by omega) (by omega) (by omega)]; exact sy m' hm'
      · unfold tk at p; rw [z3 d (by omega) (by omega) (by omega)]
      · rw [z3 11 (by omega) (by omega) (by omega)]; exact ey
  have phA : ∀ x1 : ab_X, Inv2 x1 q.1 → (x1.1 11 7 = nI 0 → ∀ k, k < 288 → x1.1 14 k = nI 0) → (∀ i, i < n → cR x1 i (q.2.2 i)) → keepT x.1 x1.1 → smM x x1 → x1.1 11 7 = x.1 11 7 → wJ7_fill_53178 81 6 0 x1 (fun x2 => Lp2 (lX0_shareWater_20 K) 0 x2) := by
    intro x1 i1 c1 r1 kt1 sm1 e1
    refine c_fill (by decide) (fun y y1 y2 y3 y4 => ?_)
    have kc : ∀ z : ab_X, (∀ d, d ≠ 81 → z.1 d = x1.1 d) → keepC x1.1 z.1 := fun z hz => ⟨fun d p => hz d (by unfold kC at p; omega), by rw [hz 158 (by decide)], fun cc f p p' => by rw [hz _ (by omega)]⟩
    refine Lp2.ind (fun ii a z => ∃ j, j ≤ n ∧ ii = n - j ∧ a = nI j ∧ (∀ d, d ≠ 81 → z.1 d = x1.1 d) ∧ z.2 = x1.2 ∧ ∀ m, m < 6 → z.1 81 m = nI (asum q.2.2 m j)) n ⟨0, Nat.zero_le _, rfl, rfl, y1, y2, fun m hm => y3 m hm⟩ ?_
    rintro ii a z ⟨j, hj, hii, rfl, z1, z2, z3⟩ L hL
    have cz : ∀ i, i < n → cR z i (q.2.2 i) := fun i hi => by
      have g := r1 i hi
      unfold cR at g ⊢
      rw [z1 _ (by omega)]; exact g
    unfold lX0_shareWater_20
    have ej : nI j + 1 = nI (j + 1) := nI_add j 1
    have e3 : z.1 66 3 = nI n := by rw [z1 66 (by decide), i1.r.s58, w.v58, hn]
    rw [e3, q_le (by omega) (by omega), ej, cl_nI (by omega)]
    have vj : j < n → vp_in (nI j) 16 := fun u => (vpi (by omega) (by decide)).mpr trivial
    refine ⟨fun u => ?_, fun u => ⟨vj (by omega), ?_⟩⟩
    · have : j = n := by omega
      subst this
      refine phB z (i1.kc (kc z z1)) (fun u kk hk => ?_) cz z3 (kt1.tr (fun d kk p => ?_)) (sm1.tr ⟨fun d p => z1 d (by omega), z2⟩) ?_
      · rw [z1 11 (by decide)] at u
        rw [z1 14 (by decide)]; exact c1 u kk hk
      · unfold tk at p; rw [z1 d (by omega)]
      · rw [z1 11 (by decide)]; exact e1
    rw [f_below]
    have vj := vj (by omega)
    rcases h18 z cz j (by omega) with ⟨e0, e1⟩ | ⟨r, m, a, fl, e0, e1, e17, hm, hh⟩
    · rw [e1, jx_m1]
      refine ⟨fun _ => hL _ _ _ (by omega) ⟨j + 1, by omega, rfl, rfl, z1, z2, fun m hm => ?_⟩, fun u => absurd rfl u⟩
      rw [z3 m hm]
      show _ = nI (asum q.2.2 m j + aOf m (q.2.2 j))
      rw [e0]; rfl
    · have j6 : jx (nI m) 6 = nI 1 := jx_I hm (by decide)
      have vm : vp_in (nI m) 6 := (vpi (by omega) (by decide)).mpr trivial
      rw [e1, j6, cl_nI (by omega), e17, z3 m hm, nI_add]
      refine ⟨fun u => absurd u (by decide), fun _ => ⟨vj, vm, vj, vm, hL _ _ _ (by omega) ⟨j + 1, by omega, rfl, rfl, fun d p => by rw [wr_n p]; exact z1 d p, z2, fun m' hm' => ?_⟩⟩⟩
      show _ = nI (asum q.2.2 m' j + aOf m' (q.2.2 j))
      rw [e0]
      show _ = nI (asum q.2.2 m' j + (if m = m' then a else 0))
      by_cases e : m = m'
      · subst e; rw [if_pos rfl, wr_e]
      · rw [if_neg e, wr_ne (by omega)]; exact z3 m' hm'
  unfold wX0_shareWater wX3_dry
  refine ⟨fun u => phA x iv (fun u' => absurd u' u) cr keepT.rfl' smM.rfl' rfl, fun u => ?_⟩
  refine c_fill (by decide) (fun y y1 y2 y3 y4 => phA y (iv.kc ⟨fun c p => y1 c (by unfold kC at p; omega), by rw [y1 158 (by omega)], fun c f p p' => by rw [y1 _ (by omega)]⟩) (fun _ kk hk => y3 kk hk) (fun i hi => ?_) (fun c kk p => by unfold tk at p; rw [y1 c (by omega)]) ⟨fun c p => y1 c (by omega), y2⟩ (by rw [y1 11 (by omega)]))
  have g := cr i hi
  unfold cR at g ⊢
  rw [y1 _ (by omega)]; exact g
