/-! CALLS: the reference answers. -/
def rS (x y : ab_X) : Prop := (∀ d, d ≠ 253 → ¬ (286 ≤ d ∧ d ≤ 289) → d ≠ 315 → d ≠ 316 → d ≠ 246 → y.1 d = x.1 d) ∧ (∀ f, f ≠ 93 → y.1 246 f = x.1 246 f) ∧ y.2 = x.2
theorem rS.rfl' {x : ab_X} : rS x x := ⟨fun _ _ _ _ _ _ => rfl, fun _ _ => rfl, rfl⟩
theorem rS.tr {x y z : ab_X} (h : rS x y) (g : rS y z) : rS x z := ⟨fun d a b c e f => (g.1 d a b c e f).trans (h.1 d a b c e f), fun f p => (g.2.1 f p).trans (h.2.1 f p), g.2.2.trans h.2.2⟩
theorem keepM_253w {s x y : ab_X} {v : Int32} (m : keepM s.1 x.1) (h : ∀ d, d ≠ 253 → y.1 d = x.1 d) : keepM s.1 (wr y 246 93 v).1 := ⟨fun c q => by rw [wr_n (by unfold kM at q; omega), h c (by unfold kM at q; omega)]; exact m.1 c q, fun f q => by rw [wr_k (by unfold kS at q; omega), h 246 (by decide)]; exact m.2 f q⟩
theorem m_send1 {x s : ab_X} {k o : Nat} (m : keepM s.1 x.1) (w : WW s.1) (hk : k < nv s.1 246 92) (ho : o < 4) {K : ab_X → Prop} (kk : ∀ y, keepM (sdS s k (nI o)).1 y.1 → rS x y → K y) : wX12_soonest (nI o) (x.1 310 k) x (fun r15 x16 => ((¬ r15 = (-1) → (vp_in r15 16 ∧ vp_in (nI k) 60 ∧ vp_in r15 16 ∧ vp_in r15 16 ∧ vp_in r15 16 ∧ vp_in (nI k) 60 ∧ vp_in (nI k) 60 ∧ K (wr (wr (wr (wr (wr x16 286 (Int32.toNatClampNeg r15) 1) 287 (Int32.toNatClampNeg r15) ((wr x16 286 (Int32.toNatClampNeg r15) 1).1 310 k)) 288 (Int32.toNatClampNeg r15) ((wr (wr x16 286 (Int32.toNatClampNeg r15) 1) 287 (Int32.toNatClampNeg r15) ((wr x16 286 (Int32.toNatClampNeg r15) 1).1 310 k)).1 246 93)) 289 (Int32.toNatClampNeg r15) (nI k)) 315 k (((wr (wr (wr (wr x16 286 (Int32.toNatClampNeg r15) 1) 287 (Int32.toNatClampNeg r15) ((wr x16 286 (Int32.toNatClampNeg r15) 1).1 310 k)) 288 (Int32.toNatClampNeg r15) ((wr (wr x16 286 (Int32.toNatClampNeg r15) 1) 287 (Int32.toNatClampNeg r15) ((wr x16 286 (Int32.toNatClampNeg r15) 1).1 310 k)).1 246 93)) 289 (Int32.toNatClampNeg r15) (nI k)).1 315 k) + 1)))) ∧ (r15 = (-1) → (vp_in (nI k) 60 ∧ vp_in (nI k) 60 ∧ K (wr x16 316 k ((x16.1 316 k) + 1)))))) := by
  have b58 := w.b58
  have b92 := w.b92
  have v310 := (w.ca.1 k hk).1.1
  have c20 := (w.ca.1 k hk).1.2
  have vk : vp_in (nI k) 60 := (vpi (by omega) (by decide)).mpr trivial
  rw [m.c310, v310]
  refine m_soonest m w (by omega) (fun y v y1 y2 yv => ?_)
  have my : keepM s.1 (wr y 246 93 v).1 := keepM_253w m y1
  have fy : rS x (wr y 246 93 v) := ⟨fun d a _ _ _ e => by rw [wr_n e]; exact y1 d a, fun f p => by rw [wr_k p, y1 246 (by decide)], y2⟩
  have eJ : mnF (arG s.1 (nI o) (nv s.1 310 k)) (nv s.1 246 58) = sdJ s k (nI o) := rfl
  rcases mnF_d (arG s.1 (nI o) (nv s.1 310 k)) (nv s.1 246 58) with e | ⟨j, hj, e, ne⟩
  · rw [eJ] at e
    rw [eJ, e]
    refine ⟨fun u => absurd rfl u, fun _ => ⟨vk, vk, kk _ ?_ (fy.tr ⟨fun d a b c e f => by rw [wr_n e], fun f p => by rw [wr_n (by decide)], rfl⟩)⟩⟩
    unfold sdS
    rw [if_pos e, my.c316]
    exact keepM_wr my
  · have ev := yv j (by omega) e
    rw [eJ] at e
    rw [eJ, e, cl_nI (by omega)]
    have vj : vp_in (nI j) 16 := (vpi (by omega) (by decide)).mpr trivial
    refine ⟨fun _ => ⟨vj, vk, vj, vj, vj, vk, vk, kk _ ?_ (fy.tr ⟨fun d a b c e f => by simp (disch := omega) only [wr_n], fun f p => by simp (disch := omega) only [wr_n], rfl⟩)⟩, fun u => absurd u (by simp only [nI_lit]; rw [n1_eq' (by omega)]; exact id)⟩
    have e1 : (wr (wr y 246 93 v) 286 j 1).1 310 k = nI (nv s.1 310 k) := by rw [wr_n (by decide), my.c310]; exact v310
    rw [e1]
    have e2 : (wr (wr (wr y 246 93 v) 286 j 1) 287 j (nI (nv s.1 310 k))).1 246 93 = arG s.1 (nI o) (nv s.1 310 k) j := by rw [wr_n (by decide), wr_n (by decide), wr_e]; exact ev
    rw [e2]
    have e3 : (wr (wr (wr (wr (wr y 246 93 v) 286 j 1) 287 j (nI (nv s.1 310 k))) 288 j (arG s.1 (nI o) (nv s.1 310 k) j)) 289 j (nI k)).1 315 k + 1 = s.1 315 k + nI 1 := by
      simp (disch := omega) only [wr_n]
      rw [y1 315 (by decide), m.c315]; rfl
    rw [e3]
    unfold sdS
    rw [e, if_neg (by rw [n1_eq' (by omega)]; exact id), cl_nI (by omega)]
    exact keepM_wr (keepM_wr (keepM_wr (keepM_wr (keepM_wr my))))
theorem m_sendN {x s xa : ab_X} {k o W : Nat} (i : Inv2 xa s) (m : keepM s.1 x.1) (hk : k < nv s.1 246 92) (ho : o < 4) (hW : W ≤ 9) (h319 : x.1 319 o = nI W) {K : ab_X → Prop} {L43 : Int32 → ab_X → Prop} (kk : ∀ y, keepM (sdN s k (nI o) W).1 y.1 → rS x y → L43 (nI (o + 1)) y) : Lp2 (lX12_answer_50 (nI k) (nI o) K L43) 0 x := by
  have b92 := i.w.b92
  refine Lp2.ind (fun ii b y => ∃ i, i ≤ W ∧ ii = W - i ∧ b = nI i ∧ keepM (sdN s k (nI o) i).1 y.1 ∧ rS x y) W ⟨0, Nat.zero_le _, rfl, rfl, m, rS.rfl'⟩ ?_
  rintro ii b y ⟨q, hq, hii, rfl, my, fy⟩ L hL
  obtain ⟨n1, n2, n3⟩ := sdN_n s k (nI o) q
  obtain ⟨u, hu⟩ := sdN_I (a := nI o) i hk q
  have eo : nI o + 1 = nI (o + 1) := nI_add o 1
  have eq : nI q + 1 = nI (q + 1) := nI_add q 1
  unfold lX12_answer_50
  rw [cl_nI (by omega), fy.1 319 (by decide) (by decide) (by decide) (by decide) (by decide), h319, q_le (by omega) (by omega), eo, eq, cl_nI (by omega)]
  refine ⟨(vpi (by omega) (by decide)).mpr trivial, fun q1 => ?_, fun q1 => ⟨(vpi (by omega) (by decide)).mpr trivial, ?_⟩⟩
  · have : q = W := by omega
    subst this
    exact kk y my fy
  · exact m_send1 (K := fun z => L (nI (q + 1)) z) my hu.w (by omega) ho (fun z mz fz => hL _ _ _ (by omega) ⟨q + 1, by omega, rfl, rfl, mz, fy.tr fz⟩)
theorem mvN_I {x s : ab_X} (h : Inv2 x s) : ∀ n, ∃ y, Inv2 y (mvN n s) := by
  intro n
  induction n generalizing x s with
  | zero => exact ⟨x, h⟩
  | succ n ih =>
    show ∃ y, Inv2 y (match mv1 s with | none => s | some s' => mvN n s')
    rcases mv_d h with e | ⟨b, j, t, hb, hj, eb, ej, et, em, im⟩
    · rw [e]; exact ⟨x, h⟩
    · rw [em]; exact ih im
theorem m_moves {x s xa : ab_X} {W : Nat} (i0 : Inv2 xa s) (m : keepM s.1 x.1) (hW : W ≤ 9) (h319 : x.1 319 4 = nI W) {K : ab_X → Prop} (kk : ∀ y, keepM (mvN W s).1 y.1 → rS x y → K y) : Lp3 (lX12_answer_158 K) 1 0 x := by
  refine Lp3.ind (fun ii a b y => rS x y ∧ ((a = nI 1 ∧ ∃ i s' x', i ≤ W ∧ ii = W + 1 - i ∧ b = nI i ∧ Inv2 x' s' ∧ keepM s'.1 y.1 ∧ mvN (W - i) s' = mvN W s) ∨ (a = nI 0 ∧ keepM (mvN W s).1 y.1))) (W + 1) ⟨rS.rfl', Or.inl ⟨rfl, 0, s, xa, Nat.zero_le _, rfl, rfl, i0, m, rfl⟩⟩ ?_
  rintro ii a b y ⟨fy, ⟨rfl, i, s', x', hi, hii, rfl, hi', my, hR⟩ | ⟨rfl, my⟩⟩ L hL
  case inr =>
    unfold lX12_answer_158
    exact ⟨(vpi (by decide) (by decide)).mpr trivial, fun _ => kk y my fy, fun _ => y0 (kk y my fy)⟩
  have w := hi'.w
  have b58 := w.b58
  have c4 : Int32.toNatClampNeg 4 = 4 := by decide
  unfold lX12_answer_158
  rw [c4, fy.1 319 (by decide) (by decide) (by decide) (by decide) (by decide), h319, q_le (by omega) (by omega)]
  refine ⟨(vpi (by decide) (by decide)).mpr trivial, fun q => ?_, fun q => y1 ?_⟩
  · rw [show W - i = 0 by omega] at hR
    have hR : s' = mvN W s := hR
    rw [hR] at my
    exact kk y my fy
  obtain ⟨f, hf⟩ : ∃ f, W - i = f + 1 := ⟨W - i - 1, by omega⟩
  rw [hf] at hR
  have hR : (match mv1 s' with | none => s' | some s'' => mvN f s'') = mvN W s := hR
  have ei : nI i + 1 = nI (i + 1) := nI_add i 1
  have stop : ∀ z v, mv1 s' = none → keepM s'.1 z.1 → rS x z → L 0 v z := by
    intro z v e mz fz
    rw [e] at hR
    have hR : s' = mvN W s := hR
    rw [hR] at mz
    exact hL 0 _ _ _ (by omega) ⟨fz, Or.inr ⟨rfl, mz⟩⟩
  refine m_bare my w ?_
  rcases bp_d s'.1 with ⟨e, -⟩ | ⟨b, hb, e, -, -⟩
  · rw [e]
    refine ⟨fun u => absurd rfl u, fun _ => ?_⟩
    unfold wX12_answer_195 wX12_answer_208
    exact ⟨fun _ => x0 (stop y _ (by unfold mv1; rw [if_pos e]) my fy), fun u => absurd rfl u⟩
  rw [e]
  refine ⟨fun _ => ?_, fun u => absurd u (by simp only [nI_lit]; rw [n1_eq' (by omega)]; exact id)⟩
  refine m_soonest (a := -1) my w hb (fun z v z1 z2 zv => ?_)
  have mz : keepM s'.1 (wr z 246 93 v).1 := keepM_253w my z1
  have fz : rS x (wr z 246 93 v) := fy.tr ⟨fun d a _ _ _ e => by rw [wr_n e]; exact z1 d a, fun f p => by rw [wr_k p, z1 246 (by decide)], z2⟩
  have eJ : mnF (arG s'.1 (-nI 1) b) (nv s'.1 246 58) = mvJ s' := by unfold mvJ; rw [e, cl_nI (by omega)]
  have en : (-1 : Int32) = -nI 1 := rfl
  rw [en] at zv ⊢
  rw [eJ] at zv ⊢
  unfold wX12_answer_195 wX12_answer_208
  rcases mv_d hi' with em | ⟨b', j, t, hb', hj, eb', ej, et, em, im⟩
  · have g : mvJ s' = -nI 1 := by
      by_cases g : mvJ s' = -nI 1
      · exact g
      · unfold mv1 at em
        rw [if_neg (by rw [e, n1_eq' (by omega)]; exact id), if_neg g] at em
        cases em
    rw [g]
    exact ⟨fun _ => x0 (stop _ _ em mz fz), fun u => absurd rfl u⟩
  · rw [e] at eb'
    have ebb := (q_eq (by omega) (by omega)).mp eb'
    subst ebb
    rw [ej, cl_nI (by omega)]
    have ev := zv j (by omega) ej
    rw [et] at ev
    rw [em] at hR
    have hR : mvN f _ = mvN W s := hR
    have vj : vp_in (nI j) 16 := (vpi (by omega) (by decide)).mpr trivial
    refine ⟨fun u => absurd u (n1_eq' (by omega)).mp, fun _ => x1 ⟨vj, vj, vj, ?_⟩⟩
    have e2 : (wr (wr (wr z 246 93 v) 286 j 3) 287 j (nI b)).1 246 93 = nI t := by rw [wr_n (by decide), wr_n (by decide), wr_e]; exact ev
    rw [e2, ei]
    refine hL _ _ _ _ (by omega) ⟨fz.tr ⟨fun d a b c e f => by simp (disch := omega) only [wr_n], fun f p => by simp (disch := omega) only [wr_n], rfl⟩, Or.inl ⟨rfl, i + 1, _, _, by omega, rfl, rfl, im, keepM_wr (keepM_wr (keepM_wr mz)), ?_⟩⟩
    rw [show W - (i + 1) = f by omega]
    exact hR
theorem rgB.c' {x z : ab_X} (h : rgB x z) (d : Nat) (hd : ¬ (307 ≤ d ∧ d ≤ 309)) (h6 : d ≠ 246) : z.1 d = x.1 d := funext (fun k => h.1 d k (by omega) (by omega) (by omega) (by omega))
/-- the whole of an answer, the reference -/
def rU (x y : ab_X) : Prop := (∀ d, d ≠ 253 → ¬ (286 ≤ d ∧ d ≤ 289) → d ≠ 315 → d ≠ 316 → d ≠ 246 → ¬ (307 ≤ d ∧ d ≤ 309) → d ≠ 319 → y.1 d = x.1 d) ∧ (∀ f, f ≠ 93 → f ≠ 74 → f ≠ 75 → ¬ (78 ≤ f ∧ f ≤ 82) → y.1 246 f = x.1 246 f) ∧ y.2.1 = x.2.1
theorem m_answer {x s xa : ab_X} {k : Nat} {W : Nat → Nat} (i : Inv2 xa s) (ht : InvT s.1) (m : keepM s.1 x.1) (kt : keepT s.1 x.1) (hk : k < nv s.1 246 92) (hW : ∀ o, W o ≤ 9) (eW : ∀ o, o < 5 → (oS s.1 (s.1 310 k) (s.1 311 k)).2.1 o = nI (W o)) {K : ab_X → Prop} (kk : ∀ y, keepM (mvN (W 4) (sAll s k W 4)).1 y.1 → rU x y → K y) : wX12_answer (nI k) x K := by
  have w := i.w
  have b92 := w.b92
  have vk : vp_in (nI k) 60 := (vpi (by omega) (by decide)).mpr trivial
  unfold wX12_answer
  rw [cl_nI (by omega), m.c310, m.c311]
  refine ⟨vk, vk, m_askFor m w ht kt (fun y fy y75 y308 => ?_)⟩
  have my := fy.m m
  refine Lp2.ind (fun ii a z => ∃ j, j ≤ 5 ∧ ii = 5 - j ∧ a = nI j ∧ (∀ d, d ≠ 319 → z.1 d = y.1 d) ∧ z.2 = y.2 ∧ ∀ o, o < j → z.1 319 o = nI (W o)) 5 ⟨0, by decide, rfl, rfl, fun _ _ => rfl, rfl, fun o ho => absurd ho (Nat.not_lt_zero o)⟩ ?_
  rintro ii a z ⟨j, hj, hii, rfl, z1, z2, z3⟩ L hL
  unfold lX12_answer_18
  simp only [nI_lit]
  rw [q_le (by omega) (by omega), nI_add, cl_nI (by omega)]
  refine ⟨fun q => ?_, fun q => ⟨(vpi (by omega) (by decide)).mpr trivial, (vpi (by omega) (by decide)).mpr trivial, hL (5 - (j + 1)) _ _ (by omega) ⟨j + 1, by omega, rfl, rfl, fun d hd => by rw [wr_n hd]; exact z1 d hd, z2, fun o ho => by
    by_cases e : o = j
    · rw [e, wr_e, z1 308 (by decide), y308 j (by omega), eW j (by omega)]
    · rw [wr_k e]; exact z3 o (by omega)⟩⟩⟩
  have e5 : j = 5 := by omega
  subst e5
  have mz : keepM s.1 z.1 := ⟨fun c q => by rw [z1 c (by unfold kM at q; omega)]; exact my.1 c q, fun f q => by rw [z1 246 (by decide)]; exact my.2 f q⟩
  refine Lp2.ind (fun ii a u => ∃ o, o ≤ 4 ∧ ii = 4 - o ∧ a = nI o ∧ keepM (sAll s k W o).1 u.1 ∧ rS z u) 4 ⟨0, by decide, rfl, rfl, mz, rS.rfl'⟩ ?_
  rintro ii a u ⟨o, ho, hii, rfl, mu, fu⟩ L2 hL2
  obtain ⟨n1, n2, n3⟩ := sAll_n s k W o
  obtain ⟨x', hx'⟩ := sAll_I (W := W) i hk o
  have e319 : ∀ o, o < 5 → u.1 319 o = nI (W o) := fun o ho => by rw [fu.1 319 (by decide) (by decide) (by decide) (by decide) (by decide)]; exact z3 o ho
  unfold lX12_answer_43
  simp only [nI_lit]
  rw [q_lt (by omega) (by omega)]
  refine ⟨fun q => ?_, fun q => ?_⟩
  · have e4 : o = 4 := by omega
    subst e4
    refine m_moves hx' mu (hW 4) (e319 4 (by decide)) (fun v mv fv => kk v mv ⟨fun d a b c e f g h => ?_, fun f a b c d => ?_, ?_⟩)
    · rw [fv.1 d a b c e f, fu.1 d a b c e f, z1 d h, fy.c' d (by omega) f]
    · rw [fv.2.1 f a, fu.2.1 f a, z1 246 (by decide), fy.1 246 f (by omega) (by decide) (by decide) (by decide)]
    · rw [fv.2.2, fu.2.2, z2, fy.2.1]
  · exact m_sendN hx' mu (by omega) (by omega) (hW o) (e319 o (by omega)) (fun v mv fv => hL2 (4 - (o + 1)) _ _ (by omega) ⟨o + 1, by omega, rfl, rfl, mv, fu.tr fv⟩)
