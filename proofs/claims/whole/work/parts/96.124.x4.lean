/-! ROUNDS: the calls. -/
theorem nd_map {f : Nat → Nat} {n : Nat} (hf : ∀ i j, i < n → j < n → f i = f j → i = j) : ∀ l : List Nat, (∀ i, i ∈ l → i < n) → ((l.map f).Nodup ↔ l.Nodup)
  | [], _ => ⟨fun _ => List.nodup_nil, fun _ => List.nodup_nil⟩
  | i :: l, h => by
    have ih := nd_map hf l (fun j q => h j (List.mem_cons_of_mem _ q))
    rw [List.map_cons, List.nodup_cons, List.nodup_cons, ih]
    refine ⟨fun u => ⟨fun q => u.1 (List.mem_map.mpr ⟨i, q, rfl⟩), u.2⟩, fun u => ⟨fun q => ?_, u.2⟩⟩
    obtain ⟨j, j1, j2⟩ := List.mem_map.mp q
    have e := hf j i (h j (List.mem_cons_of_mem _ j1)) (h i (List.mem_cons_self ..)) j2
    exact u.1 (e ▸ j1)
theorem un_map {C : List Nat} : ∀ l : List Nat, (∀ i, i ∈ l → i ∈ C) → ∃ l' : List Nat, l = l'.map (fun i => C.getD i 0) ∧ ∀ i, i ∈ l' → i < C.length
  | [], _ => ⟨[], rfl, fun i q => absurd q List.not_mem_nil⟩
  | i :: l, h => by
    obtain ⟨l', e, h'⟩ := un_map l (fun j q => h j (List.mem_cons_of_mem _ q))
    obtain ⟨j, hj, ej⟩ := List.mem_iff_getElem.mp (h i (List.mem_cons_self ..))
    refine ⟨j :: l', ?_, fun k q => ?_⟩
    · rw [List.map_cons, ← e]
      have : C.getD j 0 = i := by rw [List.getD_eq_getElem?_getD, List.getElem?_eq_getElem hj, ← ej]; rfl
      rw [this]
    · rcases List.mem_cons.mp q with rfl | q
      · exact hj
      · exact h' k q
theorem best_tr {Y : Nat → Nat → Int32} {base within n : Nat} {rc : Nat → Bool} {g : Nat → Nat} {O : List Nat} (h : BestL (fun L => vL (cdL rc n).length L ∧ tSt Y base (cdL rc n) L ≤ within) (smL (gSt (cdL rc n) g)) (tSt Y base (cdL rc n)) O) : BestL (XT n (cdB rc) (tmY Y base) within []) (smL g) (tmY Y base) (O.map (fun i => (cdL rc n).getD i 0)) := by
  obtain ⟨⟨h1, h2⟩, h3⟩ := h
  have mono : ∀ i j, i < (cdL rc n).length → j < (cdL rc n).length → i < j → (cdL rc n).getD i 0 < (cdL rc n).getD j 0 := fun i j _ hj hij => cdL_mono rc n i j hij hj
  have inj : ∀ i j, i < (cdL rc n).length → j < (cdL rc n).length → (cdL rc n).getD i 0 = (cdL rc n).getD j 0 → i = j := by
    intro i j hi hj e
    rcases Nat.lt_trichotomy i j with u | u | u
    · have := mono i j hi hj u; omega
    · exact u
    · have := mono j i hj hi u; omega
  have et : ∀ l, tmY Y base (l.map (fun i => (cdL rc n).getD i 0)) = tSt Y base (cdL rc n) l := fun l => tmL_map l base
  have es : ∀ l, smL g (l.map (fun i => (cdL rc n).getD i 0)) = smL (gSt (cdL rc n) g) l := fun l => smL_map l
  refine ⟨⟨_, rfl, (nd_map inj O h1.2).mpr h1.1, fun i hi => ?_, by rw [et]; exact h2⟩, ?_⟩
  · obtain ⟨j, j1, j2⟩ := List.mem_map.mp hi
    rw [← j2]
    exact (cdL_mem rc n _).mp (gD_m (h1.2 j j1))
  · rintro L ⟨q, e, q1, q2, q3⟩
    have e : L = q := e
    subst e
    obtain ⟨l', rfl, l2⟩ := un_map (C := cdL rc n) L (fun i hi => (cdL_mem rc n i).mpr (q2 i hi))
    have l1 := (nd_map inj l' l2).mp q1
    rw [et] at q3
    rw [et, es, et, es]
    obtain ⟨a, b⟩ := h3 l' ⟨⟨l1, l2⟩, q3⟩
    exact ⟨a, fun e1 e2 => lxL_map mono _ _ h1.2 l2 (b e1 e2)⟩
def ansC (Y : Nat → Nat → Int32) (base q : Nat) (B : List Nat) (z : ab_X) : Prop := z.1 234 10 = nI (smL (gF Y q) B) ∧ z.1 234 11 = nI (tmY Y base B) ∧ z.1 234 12 = nI B.length ∧ B.length ≤ 8 ∧ ∀ i, i < B.length → z.1 240 i = nI (B.getD i 0)
theorem c_goRound {x : ab_X} {Y : Nat → Nat → Int32} {D : Nat → UInt64} (r : RR x.1 Y D) (w : WW Y) (ht : InvT Y) (kt : keepT Y x.1) {base within q : Nat} (hb : base < 20) (hw : within ≤ 500) (hq : q ≤ 20000) {K : ab_X → Prop} (k : ∀ z B, frQ x z → BestL (XT (nv Y 246 31) (cdB (rcF Y base)) (tmY Y base) within []) (smL (gF Y q)) (tmY Y base) B → ansC Y base q B z → K z) : wX7_goRound (nI base) (nI within) (nI q) x K := by
  have hg := gF_le w ht q
  unfold wX7_goRound
  have f0 : frQ x (wr x 234 8 (nI base)) := frQ_w (by decide) (by decide)
  refine c_findStops (f0.r w r) w ht (kt.tr f0.2.1) hb wr_e hq (fun x1 f1 c1 => ?_)
  have hC := cdL_len (rcF Y base) (nv Y 246 31)
  have hm := cdL_lt (rcF Y base) (nv Y 246 31)
  have bt' := @best_tr Y base within (nv Y 246 31) (rcF Y base) (gF Y q)
  generalize cdL (rcF Y base) (nv Y 246 31) = C at c1 hC hm bt'
  have F1 := f0.tr f1
  refine c_fillWorths hC c1 (fun x2 a2 e2 w2 => ?_)
  have F2 := F1.tr (frQ_c a2 e2 (by decide) (by decide))
  have c2 := CS_c c1 a2 (by decide)
  refine c_fillSteps (F2.r w r) w hb hC hm c2 (fun x3 a3 e3 s3 => ?_)
  have F3 := F2.tr (frQ_c a3 e3 (by decide) (by decide))
  have c3 := CS_c c2 a3 (by decide)
  refine c_fillRest (F3.r w r) w hb hC hm c3 s3 (fun x4 a4 e4 r4 => ?_)
  have F4 := F3.tr (frQ_c a4 e4 (by decide) (by decide))
  have c4 := CS_c c3 a4 (by decide)
  have w4 : wsT C (gF Y q) x4 := fun s hs => by rw [a4 237 (by decide), a3 237 (by decide)]; exact w2 s hs
  have s4 : stT Y base C x4 := stT_c s3 (a4 239 (by decide))
  refine c_findBest w hb hw hg hC hm c4 w4 s4 r4 (fun x5 W M a5 e5 p5 q5 o5 => ?_)
  have F5 : frQ x x5 := F4.tr ⟨fun c k q => a5 c k (by omega), fun c k q => a5 c k (by unfold tk at q; omega), e5⟩
  have x5F : FOx Y base C (gF Y q) W M x5 := ⟨⟨by rw [a5 _ _ (by omega)]; exact c4.1, by rw [a5 _ _ (by omega)]; exact c4.2.1, fun i hi => by rw [a5 _ _ (by omega), a5 _ _ (by omega)]; exact c4.2.2 i hi⟩, fun s hs => by rw [a5 _ _ (by omega)]; exact w4 s hs, fun a t p q => by rw [a5 _ _ (by omega)]; exact s4 a t p q, fun s a p q => by rw [a5 _ _ (by omega)]; exact r4 s a p q, p5, q5⟩
  refine c_findOrder w hb hw hg hC hm x5F o5 (fun x6 O a6 e6 p6 q6 t6 u6 m6 n6 b6 => ?_)
  have F6 : frQ x x6 := F5.tr ⟨fun c k q => by rw [a6 c (by omega) (by omega)], fun c k q => by unfold tk at q; rw [a6 c (by omega) (by omega)], e6⟩
  have vO := b6.1.1
  have lO := nd_len O vO.1 vO.2
  refine k x6 (O.map (fun i => C.getD i 0)) F6 (bt' b6) ⟨?_, ?_, ?_, ?_, fun i hi => ?_⟩
  · rw [p6, ← m6, smL_map]; rfl
  · rw [q6, ← n6]
    unfold tmY
    rw [tmL_map]; rfl
  · rw [t6, List.length_map]
  · rw [List.length_map]; omega
  · rw [List.length_map] at hi
    rw [u6 i hi]
    have : (O.map (fun i => C.getD i 0)).getD i 0 = C.getD (O.getD i 0) 0 := by
      rw [List.getD_eq_getElem?_getD, List.getElem?_map, List.getD_eq_getElem?_getD (l := O), List.getElem?_eq_getElem hi]; rfl
    rw [this]
theorem fin_R {x y z : ab_X} (h : InvA x) (f : frQ x y) (g : frF y z) : InvA z ∧ keepT x.1 z.1 := by
  have c : ∀ c, c < 246 → z.1 c = y.1 c := fun c hc => g.c c hc
  have my : keepM x.1 y.1 := f.sm.m keepM.rfl'
  have kc := f.kc
  refine ⟨InvA_keep h ⟨fun d q => by rw [c d (kC_lt q)]; exact kc.1 d q, by rw [c 158 (by decide)]; exact kc.2.1, fun d f p q => by rw [c _ (by omega)]; exact kc.2.2 d f p q⟩ (g.m my) (fun k _ => ?_) ?_, f.2.1.tr g.t⟩
  · rw [g.1 _ _ (by omega) (by omega) (by omega), f.1 _ _ (by omega)]
  · rw [g.2, f.2.2]
theorem m_findTour0 {x : ab_X} {a b : Int32} {K : Int32 → ab_X → Prop} (h : jx a (nI 20) = nI 0 ∨ (jx a (nI 20) = nI 1 ∧ jr b (nI 0) (nI 500) = nI 0)) (k : K (nI 0) (wr x 246 0 0)) : wX12_findTour a b x K := by
  unfold wX12_findTour
  simp only [nI_lit] at k ⊢
  rw [f_isCornerM, f_isIn]
  simp only [nI_lit]
  rcases h with h | ⟨h, h'⟩
  · rw [h]; exact y0 k
  · rw [h, h']; exact y1 (x0 k)
theorem p_round {x : ab_X} {a b c : Int32} (ht : InvT x.1) (h : InvA x) {K : ab_X → Prop} (hk : ∀ z, InvA z → keepT x.1 z.1 → K z) : wX11_round a b c x (fun r y => wX12_round a b c y (fun r' z => r = r' ∧ K z)) := by
  have b1 := h.2.b1
  unfold wX11_round
  rw [f_isCorner, f_within, f_within]
  simp only [nI_lit]
  have bad : (jx a (nI 20) = nI 0 ∨ (jx a (nI 20) = nI 1 ∧ jr b (nI 0) (nI 500) = nI 0)) → wX12_round a b c x (fun r' z => -nI 1 = r' ∧ K z) := by
    intro q
    unfold wX12_round
    refine m_findTour0 q (y0 ⟨rfl, hk _ (InvA_th h) keepT_th⟩)
  rcases jx_d a (n := 20) (by decide) with e | ⟨base, hb, rfl⟩
  · rw [e]
    exact y0 (bad (Or.inl e))
  have ea : jx (nI base) (nI 20) = nI 1 := jx_I hb (by decide)
  rw [ea] at bad ⊢
  refine y1 ?_
  rcases jr_d b (lo := 0) (hi := 500) (by decide) (by decide) with e | ⟨within, -, hw, rfl⟩
  · rw [e]
    exact y0 (bad (Or.inr ⟨rfl, e⟩))
  clear bad
  rw [jr_I (by omega) hw (by decide)]
  refine y1 ?_
  have ref : ∀ (y : ab_X) (r : Int32), frQ x y → (∀ (z : ab_X) (B : List Nat), BestL (XT (nv x.1 246 31) (cdB (rcF x.1 base)) (tmY x.1 base) within []) (smL (gF x.1 (nv x.1 246 1))) (tmY x.1 base) B → bstS (some (smL (gF x.1 (nv x.1 246 1)) B, tmY x.1 base B, B)) z → ((¬ jr c (nI 0) (nI 2) = 0 → ((¬ c = 0 → ((¬ c = 1 → r = z.1 246 108) ∧ (c = 1 → r = z.1 246 107))) ∧ (c = 0 → r = z.1 246 106))) ∧ (jr c (nI 0) (nI 2) = 0 → r = -nI 1))) → wX12_round (nI base) (nI within) c y (fun r' z => r = r' ∧ K z) := by
    intro y r fy hr
    unfold wX12_round
    refine m_findTour (fy.sm.m keepM.rfl') h.2 ht fy.2.1 hb hw (fun z B fz bB sB' => y1 ?_)
    rw [f_isIn]
    obtain ⟨r1, r2⟩ := hr z B bB sB'
    have fin := fin_R h fy fz
    have kz := hk z fin.1 fin.2
    refine ⟨fun u => ⟨fun u2 => ⟨fun u3 => ⟨((r1 u).1 u2).1 u3, kz⟩, fun u3 => ⟨((r1 u).1 u2).2 u3, kz⟩⟩, fun u2 => ⟨(r1 u).2 u2, kz⟩⟩, fun u => ⟨r2 u, kz⟩⟩
  rw [h.1.s1, h.2.v1]
  rcases jr_d c (lo := 0) (hi := 2) (by decide) (by decide) with e | ⟨j, -, hj, rfl⟩
  · rw [e]
    refine x0 (ref x _ frQ.rfl' (fun z B _ _ => ⟨fun u => absurd e u, fun _ => rfl⟩))
  have ej : jr (nI j) (nI 0) (nI 2) = nI 1 := jr_I (by omega) hj (by decide)
  rw [ej] at ref ⊢
  refine x1 ?_
  refine c_goRound h.1 h.2 ht keepT.rfl' hb hw b1 (fun y B fy bB aB => ?_)
  obtain ⟨a1, a2, a3, a4, a5⟩ := aB
  have ref := fun r => ref y r fy
  refine ⟨fun u => ⟨fun u2 => ref _ (fun z B' bB' sB' => ?_), fun u2 => ref _ (fun z B' bB' sB' => ?_)⟩, fun u => ref _ (fun z B' bB' sB' => ?_)⟩
  all_goals
    obtain rfl := bB.uniq bB'
    obtain ⟨s1, s2, s3, -⟩ := sB'
    refine ⟨fun _ => ⟨fun v => ⟨fun v2 => ?_, fun v2 => ?_⟩, fun v => ?_⟩, fun v => absurd v (by decide)⟩
  all_goals first | (rw [a3, s3]; done) | (rw [a2, s2]; done) | (rw [a1, s1]; done) | exact absurd u v | exact absurd v u | exact absurd u2 v2 | exact absurd v2 u2
theorem p_rounded {x : ab_X} {a b c : Int32} (ht : InvT x.1) (h : InvA x) {K : ab_X → Prop} (hk : ∀ z, InvA z → keepT x.1 z.1 → K z) : wX11_rounded a b c x (fun r y => wX12_rounded a b c y (fun r' z => r = r' ∧ K z)) := by
  have b1 := h.2.b1
  unfold wX11_rounded
  rw [f_isCorner, f_within]
  simp only [nI_lit]
  have bad : (jx a (nI 20) = nI 0 ∨ (jx a (nI 20) = nI 1 ∧ jr b (nI 0) (nI 500) = nI 0)) → wX12_rounded a b c x (fun r' z => -nI 1 = r' ∧ K z) := by
    intro q
    unfold wX12_rounded
    refine m_findTour0 q (y0 ⟨rfl, hk _ (InvA_th h) keepT_th⟩)
  rcases jx_d a (n := 20) (by decide) with e | ⟨base, hb, rfl⟩
  · rw [e]
    exact y0 (bad (Or.inl e))
  have ea : jx (nI base) (nI 20) = nI 1 := jx_I hb (by decide)
  rw [ea] at bad ⊢
  refine y1 ?_
  rcases jr_d b (lo := 0) (hi := 500) (by decide) (by decide) with e | ⟨within, -, hw, rfl⟩
  · rw [e]
    exact x0 (bad (Or.inr ⟨rfl, e⟩))
  clear bad
  rw [jr_I (by omega) hw (by decide)]
  refine x1 ?_
  rw [h.1.s1, h.2.v1]
  refine c_goRound h.1 h.2 ht keepT.rfl' hb hw b1 (fun y B fy bB aB => ?_)
  obtain ⟨a1, a2, a3, a4, a5⟩ := aB
  have ref : ∀ r : Int32, (jx c (nI B.length) = nI 0 → r = -nI 1) → (∀ i, i < B.length → c = nI i → r = nI (B.getD i 0)) → wX12_rounded (nI base) (nI within) c y (fun r' z => r = r' ∧ K z) := by
    intro r r0 r1
    unfold wX12_rounded
    refine m_findTour (fy.sm.m keepM.rfl') h.2 ht fy.2.1 hb hw (fun z B' fz bB' sB' => y1 ?_)
    obtain rfl := bB.uniq bB'
    obtain ⟨s1, s2, s3, s4, s5, s6, s7⟩ := sB'
    have fin := fin_R h fy fz
    have kz := hk z fin.1 fin.2
    have ejr : jr c (nI 0) (nI B.length - nI 1) = jx c (nI B.length) := by
      rcases Nat.eq_zero_or_pos B.length with e | e
      · rw [e, i_0m1, jr_jx0]
      · rw [i_m1 _ e, jr_jx c (by omega) e]
    have s3 : z.1 246 108 = nI B.length := s3
    rw [f_isIn, s3]
    simp only [nI_lit]
    rw [ejr]
    rcases jx_d c (n := B.length) (by omega) with e | ⟨i, hi, rfl⟩
    · rw [e]
      exact y0' ⟨r0 e, kz⟩
    · rw [jx_I hi (by omega), cl_nI (by omega)]
      refine y1' ⟨(vpi (by omega) (by decide)).mpr trivial, ?_, kz⟩
      rw [r1 i hi rfl]
      exact (s7 i hi).symm
  rw [f_below, a3]
  rcases jx_d c (n := B.length) (by omega) with e | ⟨i, hi, rfl⟩
  · rw [e]
    refine y0 (ref _ (fun _ => rfl) (fun i hi e2 => ?_))
    rw [e2, jx_I hi (by omega)] at e
    exact absurd e (by decide)
  · rw [jx_I hi (by omega), cl_nI (by omega)]
    refine y1 ⟨(vpi (by omega) (by decide)).mpr trivial, ?_⟩
    refine ref _ (fun e3 => ?_) (fun i2 hi2 e3 => ?_)
    · rw [jx_I hi (by omega)] at e3
      exact absurd e3 (by decide)
    · have e4 := (q_eq (by omega) (by omega)).mp e3
      rw [a5 i hi, e4]
