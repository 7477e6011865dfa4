/-! ROUNDS: the reference's answer. -/
def frF (x y : ab_X) : Prop := (∀ c k, ¬ (c = 246 ∧ (k = 0 ∨ k = 74 ∨ k = 75 ∨ (78 ≤ k ∧ k ≤ 82) ∨ (104 ≤ k ∧ k ≤ 108))) → ¬ (307 ≤ c ∧ c ≤ 309) → ¬ (324 ≤ c ∧ c ≤ 327) → y.1 c k = x.1 c k) ∧ y.2.1 = x.2.1
theorem frF.rfl' {x : ab_X} : frF x x := ⟨fun _ _ _ _ _ => rfl, rfl⟩
theorem frF.tr {x y z : ab_X} (h : frF x y) (f : frF y z) : frF x z := ⟨fun c k p q r => (f.1 c k p q r).trans (h.1 c k p q r), f.2.trans h.2⟩
theorem frF.m {Y : Nat → Nat → Int32} {x z : ab_X} (h : frF x z) (m : keepM Y x.1) : keepM Y z.1 := ⟨fun c q => by rw [← m.1 c q]; exact funext (fun k => h.1 c k (by unfold kM at q; omega) (by unfold kM at q; omega) (by unfold kM at q; omega)), fun f q => by rw [← m.2 f q]; exact h.1 246 f (by unfold kS at q; omega) (by omega) (by omega)⟩
theorem frF.t {x z : ab_X} (h : frF x z) : keepT x.1 z.1 := fun c k q => h.1 c k (by unfold tk at q; omega) (by unfold tk at q; omega) (by unfold tk at q; omega)
theorem frF.c {x z : ab_X} (h : frF x z) (c : Nat) (hc : c < 246) : z.1 c = x.1 c := funext (fun k => h.1 c k (by omega) (by omega) (by omega))
theorem frF_b {x z : ab_X} (h : rgB x z) : frF x z := ⟨fun c k p q r => h.1 c k (by omega) (by omega) (by omega) (by omega), h.2.1⟩
theorem frF_T {x z : ab_X} (h : frT x z) : frF x z := ⟨fun c k p q r => h.1 c k (by omega) (by omega) (by omega) (by omega), by rw [h.2]⟩
theorem frF_w {x : ab_X} {c k : Nat} {v : Int32} (h : (324 ≤ c ∧ c ≤ 327) ∨ (c = 246 ∧ (k = 0 ∨ (104 ≤ k ∧ k ≤ 108)))) : frF x (wr x c k v) := ⟨fun d j p q r => wr_ne (by omega), rfl⟩
theorem m_findTour {x : ab_X} {Y : Nat → Nat → Int32} (m : keepM Y x.1) (w : WW Y) (ht : InvT Y) (kt : keepT Y x.1) {base most : Nat} (hb : base < 20) (hm : most ≤ 500) {K : Int32 → ab_X → Prop} (k : ∀ z B, frF x z → BestL (XT (nv Y 246 31) (cdB (rcF Y base)) (tmY Y base) most []) (smL (gF Y (nv Y 246 1))) (tmY Y base) B → bstS (some (smL (gF Y (nv Y 246 1)) B, tmY Y base B, B)) z → K (nI 1) z) : wX12_findTour (nI base) (nI most) x K := by
  have b1 := w.b1
  have b31 := w.b31
  have gl := gF_le w ht (nv Y 246 1)
  unfold wX12_findTour
  rw [f_isCornerM]
  have j1 : jx (nI base) 20 = nI 1 := jx_I (n := 20) hb (by decide)
  rw [j1]
  refine y1 ?_
  rw [f_isIn]
  have j2 : jr (nI most) 0 500 = nI 1 := jr_I (lo := 0) (hi := 500) (by omega) hm (by decide)
  rw [j2]
  refine x1 ?_
  have f0 : frF x (wr x 246 0 0) := frF_w (Or.inr ⟨rfl, Or.inl rfl⟩)
  generalize hR : rcF Y base = rc
  refine Lp3.ind (fun ii v3 v4 y => ∃ i, i ≤ nv Y 246 31 ∧ ii = nv Y 246 31 - i ∧ v3 = nI (cdL rc i).length ∧ v4 = nI i ∧ frF x y ∧ (∀ h, h < i → y.1 327 h = bb (cdB rc h)) ∧ (∀ h, h < i → cdB rc h = true → y.1 324 h = nI (gF Y (nv Y 246 1) h))) (nv Y 246 31) ⟨0, Nat.zero_le _, rfl, rfl, rfl, f0, fun h q => absurd q (Nat.not_lt_zero h), fun h q => absurd q (Nat.not_lt_zero h)⟩ ?_
  rintro ii v3 v4 y ⟨i, hi, hii, rfl, rfl, fy, y1', y2'⟩ L hL
  have my := fy.m m
  have cl := cdL_len rc i
  unfold lX12_findTour_30
  rw [my.s31, w.v31, q_le (by omega) (by omega)]
  refine ⟨fun q => ?_, fun q => ?_⟩
  · have e : i = nv Y 246 31 := by omega
    subst e
    generalize hx0 : wr (wr (wr y 246 104 (nI base)) 246 105 (nI most)) 246 108 (-1) = x0
    have g0 : frF y x0 := by
      rw [← hx0]
      exact ((frF_w (Or.inr ⟨rfl, Or.inr ⟨by decide, by decide⟩⟩)).tr (frF_w (Or.inr ⟨rfl, Or.inr ⟨by decide, by decide⟩⟩))).tr (frF_w (Or.inr ⟨rfl, Or.inr ⟨by decide, by decide⟩⟩))
    have cnl := cdL_cn rc (nv Y 246 31)
    have w0 : wkF Y base base = 0 := w.wk.2.1 base hb
    refine ⟨8 + 1, by decide, ?_⟩
    show famX12_tours (8 + 1) (nI ([] : List Nat).length) (nI base) (nI 0) (nI (smL (gF Y (nv Y 246 1)) [])) _ _
    refine m_tours w (n := nv Y 246 31) (base := base) (most := most) rfl hb hm gl 8 [] (cdB rc) base 0 none x0 _ (by omega) (by decide) hb (by omega) (fun q => ?_) ⟨g0.m my, ?_, ?_, fun h hh => ?_, fun h hh hs => ?_, fun j hj => absurd hj (Nat.not_lt_zero j), ?_⟩ (fun z b' fz tz pz => ?_)
    · show tmL (wkF Y) (crF Y) base base q = 0 + _
      omega
    · rw [← hx0, wr_k (by decide), wr_k (by decide), wr_e]
    · rw [← hx0, wr_k (by decide), wr_e]
    · rw [← hx0, wr_n (by decide), wr_n (by decide), wr_n (by decide), y1' h hh]
    · rw [← hx0, wr_n (by decide), wr_n (by decide), wr_n (by decide), y2' h hh hs]
    · show x0.1 246 108 = _
      rw [← hx0, wr_e]; rfl
    · rcases pz with ⟨-, n0⟩ | ⟨B, rfl, xB, -, dB⟩
      · exact absurd trivial (n0 [] ⟨[], rfl, List.nodup_nil, fun j hj => absurd hj List.not_mem_nil, by show wkF Y base base ≤ most; omega⟩)
      · have := k z B ((fy.tr g0).tr (frF_T fz))
        rw [hR] at this
        exact this ⟨xB, dB⟩ tz.2.2.2.2.2.2
  have hi2 : i < nv Y 246 31 := by omega
  have vi : vp_in (nI i) 12 := (vpi (by omega) (by decide)).mpr trivial
  have e1 : nI i + 1 = nI (i + 1) := nI_add i 1
  have st : ∀ c, cdB rc i = c → wX12_findTour_74 (nI base) (nI most) (nI (cdL rc i).length) (nI i) (nI i) (bb c) y K L := by
    intro c hc
    have ec : cdL rc (i + 1) = if cdB rc i then cdL rc i ++ [i] else cdL rc i := rfl
    unfold wX12_findTour_74
    rw [cl_nI (by omega), wr_e]
    refine ⟨vi, bb_B c, vi, ?_⟩
    have fw : frF x (wr y 327 i (bb c)) := fy.tr (frF_w (Or.inl ⟨by decide, by decide⟩))
    have n1 : ∀ h, h < i + 1 → (wr y 327 i (bb c)).1 327 h = bb (cdB rc h) := by
      intro h hh
      by_cases e : h = i
      · rw [e, wr_e, hc]
      · rw [wr_k e, y1' h (by omega)]
    have n2 : ∀ h, h < i → cdB rc h = true → (wr y 327 i (bb c)).1 324 h = nI (gF Y (nv Y 246 1) h) := fun h hh hs => by rw [wr_n (by decide), y2' h hh hs]
    have e327 : (wr y 327 i (bb c)).1 327 i = bb c := wr_e
    generalize wr y 327 i (bb c) = y' at fw n1 n2 e327
    have my' := fw.m m
    cases c
    · rw [hc, if_neg (by decide)] at ec
      refine ⟨fun _ => ?_, fun u => absurd rfl u⟩
      unfold wX12_findTour_91
      rw [cl_nI (by omega), e327, e1]
      refine ⟨vi, fun _ => ⟨vi, ?_⟩, fun u => absurd rfl u⟩
      refine hL _ _ _ _ (by omega) ⟨i + 1, by omega, rfl, ?_, rfl, fw.tr (frF_w (Or.inl ⟨by decide, by decide⟩)), fun h hh => by rw [wr_n (by decide), n1 h hh], fun h hh hs => ?_⟩
      · rw [ec]
        show nI _ + nI 0 = _
        rw [nI_add]; rfl
      · by_cases e : h = i
        · rw [e, hc] at hs; cases hs
        · rw [wr_k e, n2 h (by omega) hs]
    · rw [hc, if_pos rfl] at ec
      refine ⟨fun u => absurd u (by decide), fun _ => ?_⟩
      unfold wX12_findTour_91
      rw [cl_nI (by omega), e327, e1, my'.s1, w.v1]
      refine ⟨vi, fun u => absurd u (by decide), fun _ => ?_⟩
      refine m_failsBy my' w ht (kt.tr fw.t) hi2 (by omega) (fun z fz _ => ?_)
      have mz := fz.m my'
      rw [mz.s1, w.v1]
      refine m_days mz w hi2 ⟨vi, ?_⟩
      rw [gF_I w (by omega)]
      refine hL _ _ _ _ (by omega) ⟨i + 1, by omega, rfl, ?_, rfl, (fw.tr (frF_b fz)).tr (frF_w (Or.inl ⟨by decide, by decide⟩)), fun h hh => ?_, fun h hh hs => ?_⟩
      · rw [ec, List.length_append]
        show nI _ + nI 1 = _
        rw [nI_add]; rfl
      · rw [wr_n (by decide), fz.1 _ _ (by omega) (by decide) (by decide) (by decide), n1 h hh]
      · by_cases e : h = i
        · rw [e, wr_e]
        · rw [wr_k e, fz.1 _ _ (by omega) (by decide) (by decide) (by decide), n2 h (by omega) hs]
  have e8 : (8 : Int32) ≤ nI (cdL rc i).length ↔ 8 ≤ (cdL rc i).length := q_le (a := 8) (by decide) (by omega)
  rw [e8, cl_nI (by omega)]
  refine ⟨fun u => st false ?_, fun u => ⟨vi, ?_⟩⟩
  · unfold cdB
    rw [decide_eq_false (by omega), Bool.and_false]
  obtain ⟨v1, -⟩ := w.ho.1 i hi2
  have e254 : y.1 254 i = nI (crF Y i) := by rw [my.c254]; exact v1.1
  have c20 : crF Y i < 20 := by have := v1.2; unfold crF; omega
  rw [e254]
  refine m_walk my w hb c20 ?_
  have wb : wkF Y base (crF Y i) ≤ 1000000 := (w.wk.1 (20 * base + crF Y i) (by omega)).2
  have e9 : (1000000 : Int32) ≤ nI (nv Y 251 (20 * base + crF Y i)) ↔ 1000000 ≤ wkF Y base (crF Y i) := q_le (a := 1000000) (by decide) (by show wkF Y base (crF Y i) < _; omega)
  rw [e9]
  have er : rc i = decide (wkF Y base (crF Y i) < 1000000) := by rw [← hR]; rfl
  refine ⟨fun u2 => st false ?_, fun u2 => st true ?_⟩
  · unfold cdB
    rw [er, decide_eq_false (by omega), Bool.false_and]
  · unfold cdB
    rw [er, decide_eq_true (by omega), decide_eq_true (by omega)]; rfl
