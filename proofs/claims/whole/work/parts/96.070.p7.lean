/-! CALLS: all are sent, others move; the program. -/
def sdN (s : ab_X) (k : Nat) (a : Int32) : Nat → ab_X
  | 0 => s
  | n + 1 => sdS (sdN s k a n) k a
def sAll (s : ab_X) (k : Nat) (W : Nat → Nat) : Nat → ab_X
  | 0 => s
  | o + 1 => sdN (sAll s k W o) k (nI o) (W o)
theorem sdN_n (s : ab_X) (k : Nat) (a : Int32) : ∀ n, nv (sdN s k a n).1 246 58 = nv s.1 246 58 ∧ nv (sdN s k a n).1 246 92 = nv s.1 246 92 ∧ ∀ i, nv (sdN s k a n).1 310 i = nv s.1 310 i
  | 0 => ⟨rfl, rfl, fun _ => rfl⟩
  | n + 1 => by
    obtain ⟨a1, a2, a3⟩ := sdN_n s k a n
    obtain ⟨b1, b2, b3⟩ := sd_n (sdN s k a n) k a
    exact ⟨b1.trans a1, b2.trans a2, fun i => (b3 i).trans (a3 i)⟩
theorem sAll_n (s : ab_X) (k : Nat) (W : Nat → Nat) : ∀ n, nv (sAll s k W n).1 246 58 = nv s.1 246 58 ∧ nv (sAll s k W n).1 246 92 = nv s.1 246 92 ∧ ∀ i, nv (sAll s k W n).1 310 i = nv s.1 310 i
  | 0 => ⟨rfl, rfl, fun _ => rfl⟩
  | n + 1 => by
    obtain ⟨a1, a2, a3⟩ := sAll_n s k W n
    obtain ⟨b1, b2, b3⟩ := sdN_n (sAll s k W n) k (nI n) (W n)
    exact ⟨b1.trans a1, b2.trans a2, fun i => (b3 i).trans (a3 i)⟩
theorem sd_Ie {x s : ab_X} {k : Nat} {a : Int32} (h : Inv2 x s) (hk : k < nv s.1 246 92) : ∃ y, Inv2 y (sdS s k a) := by
  obtain ⟨i1, i2⟩ := sd_I (a := a) h hk
  rcases mnF_d (arG s.1 a (nv s.1 310 k)) (nv s.1 246 58) with e | ⟨j, hj, e, ne⟩
  · exact ⟨_, i1 e⟩
  · exact ⟨_, i2 j hj e ne⟩
theorem sdN_I {x s : ab_X} {k : Nat} {a : Int32} (h : Inv2 x s) (hk : k < nv s.1 246 92) : ∀ n, ∃ y, Inv2 y (sdN s k a n)
  | 0 => ⟨x, h⟩
  | n + 1 => by
    obtain ⟨y, hy⟩ := sdN_I (a := a) h hk n
    exact sd_Ie hy (by rw [(sdN_n s k a n).2.1]; exact hk)
theorem sAll_I {x s : ab_X} {k : Nat} {W : Nat → Nat} (h : Inv2 x s) (hk : k < nv s.1 246 92) : ∀ n, ∃ y, Inv2 y (sAll s k W n)
  | 0 => ⟨x, h⟩
  | n + 1 => by
    obtain ⟨y, hy⟩ := sAll_I (W := W) h hk n
    exact sdN_I hy (by rw [(sAll_n s k W n).2.1]; exact hk) (W n)
theorem c_sendN {x s : ab_X} {k W : Nat} {a v3 : Int32} (h : Inv2 x s) (hk : k < nv s.1 246 92) (ha : ¬ a = -nI 1) (hW : W ≤ 9) (h80 : 0 < W → ∀ i, i < nv s.1 246 58 → x.1 80 i = arG s.1 a (nv s.1 310 k) i) {K : ab_X → Prop} {L9 : Int32 → ab_X → Prop} (kk : ∀ y, Inv2 y (sdN s k a W) → keepT x.1 y.1 → smM x y → y.1 72 = x.1 72 → L9 (v3 + 1) y) : Lp2 (lX0_sendAll_42 (nI k) (98 + k) v3 (nI W) K L9) 0 x := by
  refine Lp2.ind (fun ii b y => ∃ i, i ≤ W ∧ ii = W - i ∧ b = nI i ∧ Inv2 y (sdN s k a i) ∧ (i < W → ∀ q, q < nv s.1 246 58 → y.1 80 q = arG (sdN s k a i).1 a (nv s.1 310 k) q) ∧ keepT x.1 y.1 ∧ smM x y ∧ y.1 72 = x.1 72) W ⟨0, Nat.zero_le _, rfl, rfl, h, fun q => h80 q, keepT.rfl', smM.rfl', rfl⟩ ?_
  rintro ii b y ⟨i, hi, hii, rfl, hy, y80, kt, sm, e72⟩ L hL
  obtain ⟨n1, n2, n3⟩ := sdN_n s k a i
  unfold lX0_sendAll_42
  rw [q_le (by omega) (by omega)]
  refine ⟨fun q => ?_, fun q => ?_⟩
  · have : i = W := by omega
    subst this
    exact kk y hy kt sm e72
  · refine c_send1 (a := a) hy (by omega) ha (fun q' hq' => by rw [n3]; exact y80 (by omega) q' (by omega)) (fun z iz z80 ktz smz e72z => ?_)
    have ei : nI i + 1 = nI (i + 1) := nI_add i 1
    rw [ei]
    refine hL _ _ _ (by omega) ⟨i + 1, by omega, rfl, rfl, iz, fun _ q' hq' => ?_, kt.tr ktz, sm.tr smz, e72z.trans e72⟩
    have := z80 q' (by omega)
    rw [n3] at this
    exact this
theorem c_sendAll {x s : ab_X} {k : Nat} {W : Nat → Nat} (h : Inv2 x s) (hk : k < nv s.1 246 92) (hW : ∀ o, W o ≤ 9) (h72 : ∀ o, o < 5 → x.1 72 o = nI (W o)) {K : ab_X → Prop} (kk : ∀ y, Inv2 y (sAll s k W 4) → keepT x.1 y.1 → smM x y → y.1 72 = x.1 72 → K y) : wX0_sendAll (nI k) x K := by
  have b92 := h.w.b92
  unfold wX0_sendAll
  rw [cl_nI (by omega)]
  refine ⟨(vpi (by omega) (by decide)).mpr trivial, ?_⟩
  refine Lp2.ind (fun ii b y => ∃ o, o ≤ 4 ∧ ii = 4 - o ∧ b = nI o ∧ Inv2 y (sAll s k W o) ∧ keepT x.1 y.1 ∧ smM x y ∧ y.1 72 = x.1 72) 4 ⟨0, by decide, rfl, rfl, h, keepT.rfl', smM.rfl', rfl⟩ ?_
  rintro ii b y ⟨o, ho, hii, rfl, hy, kt, sm, e72⟩ L hL
  obtain ⟨n1, n2, n3⟩ := sAll_n s k W o
  have w := hy.w
  have hW' := hW o
  unfold lX0_sendAll_9
  simp only [nI_lit]
  rw [q_le (by omega) (by omega), cl_nI (by omega)]
  refine ⟨fun q => ?_, fun q => ⟨(vpi (by omega) (by decide)).mpr trivial, ?_⟩⟩
  · have : o = 4 := by omega
    subst this
    exact kk y hy kt sm e72
  rw [e72, h72 o (by omega), q_le (by omega) (by omega)]
  have hk' : k < nv (sAll s k W o).1 246 92 := by omega
  have na : ¬ nI o = -nI 1 := (n1_eq' (by omega)).mp
  have fin : ∀ z, keepC y.1 z.1 → keepT y.1 z.1 → smM y z → z.1 72 = y.1 72 → (0 < W o → ∀ i, i < nv (sAll s k W o).1 246 58 → z.1 80 i = arG (sAll s k W o).1 (nI o) (nv (sAll s k W o).1 310 k) i) → Lp2 (lX0_sendAll_42 (nI k) (98 + k) (nI o) (nI (W o)) K L) 0 z := by
    intro z kc ktz smz ez z80
    refine c_sendN (hy.kc kc) hk' na hW' z80 (fun u iu ktu smu eu => ?_)
    have eo : nI o + 1 = nI (o + 1) := nI_add o 1
    rw [eo]
    exact hL (4 - (o + 1)) _ _ (by omega) ⟨o + 1, by omega, rfl, rfl, iu, (kt.tr ktz).tr ktu, (sm.tr smz).tr smu, (eu.trans ez).trans e72⟩
  refine ⟨fun q0 => fin y keepC.rfl' keepT.rfl' smM.rfl' rfl (fun u => by omega), fun q0 => ?_⟩
  have c20 := (w.ca.1 k hk').1.2
  rw [(hy.r.ca.1 k hk').1, (w.ca.1 k hk').1.1]
  refine c_findArr hy.r w na (by omega) (fun z z1 z2 z3 => fin z ⟨fun d q => z1 d (by unfold kC at q; omega) (by unfold kC at q; omega), by rw [z1 158 (by decide) (by decide)], fun d f p q => by rw [z1 _ (by omega) (by omega)]⟩ (fun d i q => by rw [z1 d (by unfold tk at q; omega) (by unfold tk at q; omega)]) ⟨fun d q => z1 d (by omega) (by omega), z2⟩ (z1 72 (by decide) (by decide)) (fun _ => z3))
def mvJ (s : ab_X) : Int32 := mnF (arG s.1 (-nI 1) (bpI s.1).toNatClampNeg) (nv s.1 246 58)
def mv1 (s : ab_X) : Option ab_X := if bpI s.1 = -nI 1 then none else if mvJ s = -nI 1 then none else some (wr (wr (wr s 286 (mvJ s).toNatClampNeg (nI 3)) 287 (mvJ s).toNatClampNeg (bpI s.1)) 288 (mvJ s).toNatClampNeg (arG s.1 (-nI 1) (bpI s.1).toNatClampNeg (mvJ s).toNatClampNeg))
def mvN : Nat → ab_X → ab_X
  | 0, s => s
  | n + 1, s => match mv1 s with
    | none => s
    | some s' => mvN n s'
theorem mv_d {x s : ab_X} (h : Inv2 x s) : mv1 s = none ∨ ∃ b j t, b < 20 ∧ j < nv s.1 246 58 ∧ bpI s.1 = nI b ∧ mvJ s = nI j ∧ arG s.1 (-nI 1) b j = nI t ∧ mv1 s = some (wr (wr (wr s 286 j (nI 3)) 287 j (nI b)) 288 j (nI t)) ∧ Inv2 (wr (wr (wr (wr (wr x (82 + j) 12 (-nI 1)) (82 + j) 13 (-nI 1)) (82 + j) 8 (nI 3)) (82 + j) 9 (nI b)) (82 + j) 10 (nI t)) (wr (wr (wr s 286 j (nI 3)) 287 j (nI b)) 288 j (nI t)) := by
  have b58 := h.w.b58
  rcases bp_d s.1 with ⟨e, -⟩ | ⟨b, hb, e, -, -⟩
  · left; unfold mv1; rw [if_pos e]
  · have nb' : ¬ bpI s.1 = -nI 1 := by rw [e, n1_eq' (by omega)]; exact id
    have eJ : mvJ s = mnF (arG s.1 (-nI 1) b) (nv s.1 246 58) := by unfold mvJ; rw [e, cl_nI (by omega)]
    rcases mnF_d (arG s.1 (-nI 1) b) (nv s.1 246 58) with e2 | ⟨j, hj, e2, ne⟩
    · left; unfold mv1; rw [if_neg nb', if_pos (eJ.trans e2)]
    · rw [← eJ] at e2
      rcases arG_d s.1 (-nI 1) b j with u | ⟨t, ht, et, e0⟩
      · exact absurd u ne
      right
      refine ⟨b, j, t, hb, hj, e, e2, et, ?_, ?_⟩
      · unfold mv1
        rw [if_neg nb', e2, if_neg (by rw [n1_eq' (by omega)]; exact id), e, cl_nI (by omega), cl_nI (by omega), et]
      · unfold Inv2
        simp (disch := omega) only [mg_wc, mg_wm]
        refine i_moves (j := j) h ?_ hb ?_ rfl
        · unfold nv; rw [mg_m (by decide)]; exact hj
        · unfold nv; rw [mg_m (by decide)]; exact nv_of e0 (by decide)
theorem c_moveAll {x s : ab_X} {W : Nat} (h : Inv2 x s) (hW : W ≤ 9) {K : ab_X → Prop} (kk : ∀ y, Inv2 y (mvN W s) → keepT x.1 y.1 → smM x y → K y) : wX0_moveAll (nI W) x K := by
  unfold wX0_moveAll
  refine Lp2.ind (fun ii b y => ∃ i s', i ≤ W ∧ ii = W - i ∧ b = nI i ∧ Inv2 y s' ∧ mvN (W - i) s' = mvN W s ∧ keepT x.1 y.1 ∧ smM x y) W ⟨0, s, Nat.zero_le _, rfl, rfl, h, rfl, keepT.rfl', smM.rfl'⟩ ?_
  rintro ii b y ⟨i, s', hi, hii, rfl, hy, hR, kt, sm⟩ L hL
  have w := hy.w
  have b58 := w.b58
  unfold lX0_moveAll_2
  rw [q_le (by omega) (by omega)]
  refine ⟨fun q => ?_, fun q => ?_⟩
  · rw [show W - i = 0 by omega] at hR
    have hR : s' = mvN W s := hR
    rw [hR] at hy
    exact kk y hy kt sm
  obtain ⟨f, hf⟩ : ∃ f, W - i = f + 1 := ⟨W - i - 1, by omega⟩
  rw [hf] at hR
  have hR : (match mv1 s' with | none => s' | some s'' => mvN f s'') = mvN W s := hR
  have ei : nI i + 1 = nI (i + 1) := nI_add i 1
  refine c_bare hy.r w ?_
  have stop : ∀ z, mv1 s' = none → keepC y.1 z.1 → keepT y.1 z.1 → smM y z → K z := by
    intro z e kc ktz smz
    rw [e] at hR
    have hR : s' = mvN W s := hR
    have hz := hy.kc kc
    rw [hR] at hz
    exact kk z hz (kt.tr ktz) (sm.tr smz)
  rcases bp_d s'.1 with ⟨e, -⟩ | ⟨b, hb, e, -, -⟩
  · rw [e]
    exact ⟨fun u => absurd rfl u, fun _ => stop y (by unfold mv1; rw [if_pos e]) keepC.rfl' keepT.rfl' smM.rfl'⟩
  rw [e]
  refine ⟨fun _ => ?_, fun u => absurd u (by simp only [nI_lit]; rw [n1_eq' (by omega)]; exact id)⟩
  refine Lp2.ind (fun ii c z => ∃ q, q ≤ nv s'.1 246 58 ∧ ii = nv s'.1 246 58 - q ∧ c = nI q ∧ (∀ d, d ≠ 8 → d ≠ 80 → z.1 d = y.1 d) ∧ z.2 = y.2 ∧ ∀ o, o < q → z.1 80 o = arG s'.1 (-nI 1) b o) (nv s'.1 246 58) ⟨0, Nat.zero_le _, rfl, rfl, fun _ _ _ => rfl, rfl, fun o ho => absurd ho (Nat.not_lt_zero o)⟩ ?_
  rintro ii c z ⟨q, hq, hii, rfl, z1, z2, z3⟩ L2 hL2
  have kc : keepC y.1 z.1 := ⟨fun d q => z1 d (by unfold kC at q; omega) (by unfold kC at q; omega), by rw [z1 158 (by decide) (by decide)], fun d f p q => by rw [z1 _ (by omega) (by omega)]⟩
  have ktz : keepT y.1 z.1 := fun d i q => by rw [z1 d (by unfold tk at q; omega) (by unfold tk at q; omega)]
  have smz : smM y z := ⟨fun d q => z1 d (by omega) (by omega), z2⟩
  have hz : Inv2 z s' := hy.kc kc
  have rz := hz.r
  unfold lX0_moveAll_21
  rw [rz.s58, w.v58, q_le (by omega) (by omega)]
  refine ⟨fun qe => ?_, fun qe => ?_⟩
  · have : q = nv s'.1 246 58 := by omega
    subst this
    refine c_soon b58 (by rw [rz.s58, w.v58]) z3 ?_
    have eJ : mnF (arG s'.1 (-nI 1) b) (nv s'.1 246 58) = mvJ s' := by unfold mvJ; rw [e, cl_nI (by omega)]
    rw [eJ]
    rcases mv_d hz with em | ⟨b', j, t, hb', hj, eb', ej, et, em, im⟩
    · refine ⟨fun u => ?_, fun _ => stop z em kc ktz smz⟩
      exfalso
      apply u
      by_cases g : mvJ s' = -nI 1
      · exact g
      · unfold mv1 at em
        rw [if_neg (by rw [e, n1_eq' (by omega)]; exact id), if_neg g] at em
        cases em
    · rw [e] at eb'
      have ebb := (q_eq (by omega) (by omega)).mp eb'
      subst ebb
      rw [ej]
      have vj : vp_in (nI j) 16 := (vpi (by omega) (by decide)).mpr trivial
      refine ⟨fun _ => ⟨vj, vj, ?_⟩, fun u => absurd u (by simp only [nI_lit]; rw [n1_eq' (by omega)]; exact id)⟩
      unfold wX2_set wX2_leaveWork
      rw [cl_nI (by omega), z3 j hj, et, ei]
      rw [em] at hR
      have hR : mvN f _ = mvN W s := hR
      refine hL _ _ _ (by omega) ⟨i + 1, _, by omega, rfl, rfl, im, ?_, (kt.tr ktz).tr (fun c k q => by unfold tk at q; simp (disch := omega) only [wr_ne]), (sm.tr smz).tr ⟨fun c q => by simp (disch := omega) only [wr_n], rfl⟩⟩
      rw [show W - (i + 1) = f by omega]
      exact hR
  · have hq' : q < nv s'.1 246 58 := by omega
    have vq : vp_in (nI q) 16 := (vpi (by omega) (by decide)).mpr trivial
    have eq1 : nI q + 1 = nI (q + 1) := nI_add q 1
    refine c_isSpare rz w hq' ?_
    rw [cl_nI (by omega), eq1]
    have ear : arG s'.1 (-nI 1) b q = if (decide (s'.1 286 q = nI 0) && shB s'.1 q) = true then arT s'.1 q b else -nI 1 := by
      unfold arG fitB
      rw [if_pos rfl]
      by_cases g : s'.1 286 q = nI 0 ∧ shB s'.1 q = true
      · rw [if_pos g, if_pos (by rw [decide_eq_true g.1, g.2]; rfl)]
      · rw [if_neg g, if_neg (fun u => g (by rw [Bool.and_eq_true, decide_eq_true_eq] at u; exact u))]
    cases es : (decide (s'.1 286 q = nI 0) && shB s'.1 q)
    · rw [es, if_neg (by decide)] at ear
      refine y0 ⟨vq, hL2 _ _ _ (by omega) ⟨q + 1, by omega, rfl, rfl, fun d p r => by rw [wr_n r]; exact z1 d p r, z2, fun o ho => ?_⟩⟩
      by_cases eo : o = q
      · rw [eo, wr_e, ear]; rfl
      · rw [wr_k eo]; exact z3 o (by omega)
    · rw [es, if_pos rfl] at ear
      refine y1 ⟨vq, ?_⟩
      refine ar_i rz w hq' hb (fun g g1 g2 => ⟨vq, hL2 _ _ _ (by omega) ⟨q + 1, by omega, rfl, rfl, fun d p r => by rw [wr_n r, g1 d p]; exact z1 d p r, g2.trans z2, fun o ho => ?_⟩⟩)
      by_cases eo : o = q
      · rw [eo, wr_e, ear]
      · rw [wr_k eo, g1 80 (by decide)]; exact z3 o (by omega)
