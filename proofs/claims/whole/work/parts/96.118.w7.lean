/-! ROUNDS: the class finds the houses. -/
theorem c_failures2 {x : ab_X} {Y : Nat → Nat → Int32} {D : Nat → UInt64} {h : Nat} {q : Int32} (r : RR x.1 Y D) (w : WW Y) (ht : InvT Y) (kt : keepT Y x.1) (hh : h < nv Y 246 31) {K : Int32 → ab_X → Prop} (k : ∀ z : ab_X, (∀ c k, c < 173 ∨ 233 < c → z.1 c k = x.1 c k) → keepT x.1 z.1 → z.2 = x.2 → K (nI (fcS Y h q).2.2.length) z) : wX5_failures (nI h) q x K := by
  have b31 := w.b31
  have b72 := w.b72
  unfold wX5_failures
  refine c_actFor r w hh ?_
  rw [f_below, r.s72, w.v72]
  rcases pkb_d (afo Y h q) (Y 305) (nv Y 246 72) with e | ⟨j, hj, e, -⟩
  · have e : af Y h q = -nI 1 := e
    have e1 : fcS Y h q = S0 := by unfold fcS; rw [if_pos e]
    rw [e1] at k
    rw [e, jx_m1]
    exact x0 (k x (fun _ _ _ => rfl) keepT.rfl' rfl)
  have e : af Y h q = nI j := e
  have e1 : fcS Y h q = txE (eA Y h q) 0 (actL Y j) S0 := by
    unfold fcS; rw [e, if_neg (by rw [n1_eq' (by omega)]; exact id), cl_nI (by omega)]
  rw [e, jx_I hj (by omega), cl_nI (by omega), cl_nI (by omega)]
  refine x1 ⟨(vpi (by omega) (by decide)).mpr trivial, ?_⟩
  refine c_spell r w hh (fun y y1 y2 y3 => ⟨(vpi (by omega) (by decide)).mpr trivial, ?_⟩)
  have tl := txL_of (s := 2) (by decide) (ht.2.2.2 j hj)
  have ok := tl.ok
  obtain ⟨B, n, q', t, a1, a2, a3, a4, a5, a6⟩ := tl
  obtain ⟨h', hb', eT⟩ := exT_tx (e := eA Y h q) (actL Y j) 0 (nI 0) S0 ok.1 isB_0 (by have : (actL Y j).length ≤ 40 := ok.2; have e0 : S0.2.2.length = 0 := rfl; omega)
  refine c_run (s := 2) (by decide) eT ?_ (fun i hi => ?_) a6 (fun i hi => ?_) (by omega) (fun z fz pz => ⟨(vpi (by omega) (by decide)).mpr trivial, ?_⟩)
  · rw [y1 _ (by omega), kt _ _ (by unfold tk; omega)]; exact a4
  · rw [y1 _ (by omega), kt _ _ (by unfold tk; omega)]; exact a5 i hi
  · have hi : i < 11 := hi
    rw [y3 i hi, eA_s hi]
  · have p9 : z.1 (174 + 5 * j) 9 = nI (fcS Y h q).2.2.length := by rw [e1]; exact pz.2.2.2.2.2.1
    rw [p9]
    have fr : ∀ c k, c < 173 ∨ 233 < c → z.1 c k = x.1 c k := fun c k hc => by rw [fz.1 c k (by omega) (by omega) (by omega) (by omega), y1 c (by omega)]
    refine k z fr (fun c i u => ?_) (by rw [fz.2, y2])
    unfold tk at u
    rw [fz.1 c i (by omega) (by omega) (by omega) (by omega), y1 c (by omega)]
/-- the class's houses -/
def CS (base : Nat) (C : List Nat) (g : Nat → Nat) (x : ab_X) : Prop := x.1 234 5 = nI C.length ∧ x.1 234 8 = nI base ∧ ∀ i, i < C.length → x.1 235 i = nI (C.getD i 0) ∧ x.1 236 i = nI (g (C.getD i 0))
/-- only what a question of the class may change -/
def frQ (x y : ab_X) : Prop := (∀ c k, c < 173 ∨ 242 < c → y.1 c k = x.1 c k) ∧ keepT x.1 y.1 ∧ y.2 = x.2
theorem frQ.rfl' {x : ab_X} : frQ x x := ⟨fun _ _ _ => rfl, keepT.rfl', rfl⟩
theorem frQ.tr {x y z : ab_X} (h : frQ x y) (f : frQ y z) : frQ x z := ⟨fun c k q => (f.1 c k q).trans (h.1 c k q), h.2.1.tr f.2.1, f.2.2.trans h.2.2⟩
theorem frQ.kc {x y : ab_X} (h : frQ x y) : keepC x.1 y.1 := ⟨fun c q => funext (fun k => h.1 c k (by unfold kC at q; omega)), h.1 _ _ (by omega), fun c f p q => h.1 _ _ (by omega)⟩
theorem frQ.sm {x y : ab_X} (h : frQ x y) : smM x y := ⟨fun c q => funext (fun k => h.1 c k (by omega)), h.2.2⟩
theorem frQ.r {x y : ab_X} {Y : Nat → Nat → Int32} {D : Nat → UInt64} (h : frQ x y) (w : WW Y) (r : RR x.1 Y D) : RR y.1 Y D := RR_keep w r h.kc keepM.rfl' (fun _ _ => rfl)
theorem frQ_w {x : ab_X} {c k : Nat} {v : Int32} (h1 : 234 ≤ c) (h2 : c ≤ 242) : frQ x (wr x c k v) := ⟨fun d j q => wr_ne (by omega), fun d j q => wr_ne (by unfold tk at q; omega), rfl⟩
theorem c_findStops {x : ab_X} {Y : Nat → Nat → Int32} {D : Nat → UInt64} (r : RR x.1 Y D) (w : WW Y) (ht : InvT Y) (kt : keepT Y x.1) {base q : Nat} (hb : base < 20) (hx : x.1 234 8 = nI base) (hq : q ≤ 20000) {K : ab_X → Prop} (k : ∀ z, frQ x z → CS base (cdL (rcF Y base) (nv Y 246 31)) (gF Y q) z → K z) : wX7_findStops (nI q) x K := by
  have b31 := w.b31
  unfold wX7_findStops
  generalize hR : rcF Y base = rc at k
  refine Lp2.ind (fun ii v y => ∃ i, i ≤ nv Y 246 31 ∧ ii = nv Y 246 31 - i ∧ v = nI i ∧ frQ x y ∧ CS base (cdL rc i) (gF Y q) y) (nv Y 246 31) ⟨0, Nat.zero_le _, rfl, rfl, frQ_w (by decide) (by decide), by rw [wr_e]; rfl, by rw [wr_k (by decide), hx], fun i hi => absurd hi (Nat.not_lt_zero i)⟩ ?_
  rintro ii v y ⟨i, hi, hii, rfl, fy, c1, c2, c3⟩ L hL
  have ry := fy.r w r
  have cl := cdL_len rc i
  unfold lX7_findStops_7
  rw [ry.s31, w.v31, q_le (by omega) (by omega), c1, c2]
  refine ⟨fun u => ?_, fun u => ?_⟩
  · have e : i = nv Y 246 31 := by omega
    subst e
    exact k y fy ⟨c1, c2, c3⟩
  have hi2 : i < nv Y 246 31 := by omega
  have e8 : (8 : Int32) ≤ nI (cdL rc i).length ↔ 8 ≤ (cdL rc i).length := q_le (a := 8) (by decide) (by omega)
  rw [e8]
  refine ⟨fun u2 => ?_, fun u2 => ?_⟩
  · have e := cdL_8 rc (h := i) (by omega) (nv Y 246 31 - i)
    rw [show i + (nv Y 246 31 - i) = nv Y 246 31 by omega] at e
    rw [e] at k
    exact k y fy ⟨c1, c2, c3⟩
  have vi : vp_in (nI i) 12 := (vpi (by omega) (by decide)).mpr trivial
  obtain ⟨v1, -⟩ := w.ho.1 i hi2
  have ci : Int32.toNatClampNeg (nI i) = i := cl_nI (by omega)
  have ec : y.1 (30 + 3 * i) 1 = nI (crF Y i) := by rw [(ry.ho.2.2.1 i hi2).1]; exact v1.1
  have c20 : crF Y i < 20 := by have := v1.2; unfold crF; omega
  have e1 : nI i + 1 = nI (i + 1) := nI_add i 1
  rw [ci, ec, e1]
  refine ⟨vi, ?_⟩
  refine c_walk ry w hb c20 ?_
  have wb : wkF Y base (crF Y i) ≤ 1000000 := (w.wk.1 (20 * base + crF Y i) (by omega)).2
  have e9 : (1000000 : Int32) ≤ nI (nv Y 251 (20 * base + crF Y i)) ↔ 1000000 ≤ wkF Y base (crF Y i) := q_le (a := 1000000) (by decide) (by show wkF Y base (crF Y i) < _; omega)
  rw [e9]
  have er : rc i = decide (wkF Y base (crF Y i) < 1000000) := by rw [← hR]; rfl
  have es : cdL rc (i + 1) = if rc i && decide ((cdL rc i).length < 8) then cdL rc i ++ [i] else cdL rc i := rfl
  refine ⟨fun u3 => ?_, fun u3 => ?_⟩
  · rw [er, decide_eq_false (by omega), Bool.false_and, if_neg (by decide)] at es
    exact hL _ _ _ (by omega) ⟨i + 1, by omega, rfl, rfl, fy, by rw [es]; exact ⟨c1, c2, c3⟩⟩
  · rw [er, decide_eq_true (by omega), decide_eq_true (by omega), if_pos (by decide)] at es
    have cn' : Int32.toNatClampNeg (nI (cdL rc i).length) = (cdL rc i).length := cl_nI (by omega)
    have vn : vp_in (nI (cdL rc i).length) 8 := (vpi (by omega) (by decide)).mpr trivial
    have f5 : (wr y 235 (cdL rc i).length (nI i)).1 234 5 = nI (cdL rc i).length := by rw [wr_n (by decide), c1]
    have fw : frQ y (wr y 235 (cdL rc i).length (nI i)) := frQ_w (by decide) (by decide)
    have f235 : ∀ j, j < (cdL rc i).length + 1 → (wr y 235 (cdL rc i).length (nI i)).1 235 j = nI ((cdL rc i ++ [i]).getD j 0) := by
      intro j hj
      by_cases e : j = (cdL rc i).length
      · rw [e, wr_e, gD_r]
      · rw [wr_k e, gD_l (by omega), (c3 j (by omega)).1]
    have f236 : ∀ j, j < (cdL rc i).length → (wr y 235 (cdL rc i).length (nI i)).1 236 j = nI (gF Y q ((cdL rc i ++ [i]).getD j 0)) := by
      intro j hj
      rw [wr_n (by decide), gD_l hj, (c3 j hj).2]
    have f8 : (wr y 235 (cdL rc i).length (nI i)).1 234 8 = nI base := by rw [wr_n (by decide), c2]
    rw [cn']
    generalize wr y 235 (cdL rc i).length (nI i) = y' at f5 fw f235 f236 f8
    refine ⟨vn, ?_⟩
    refine c_failures2 (fw.r w ry) w ht (kt.tr (fy.tr fw).2.1) hi2 (fun z fz tz ez => ?_)
    have fq : frQ y' z := ⟨fun c k q => fz c k (by omega), tz, ez⟩
    refine c_days ((fw.tr fq).r w ry) w hi2 ?_
    rw [f5, cn', gF_I w hq]
    refine ⟨vn, ?_⟩
    have g5 : (wr z 236 (cdL rc i).length (nI (gF Y q i))).1 234 5 = nI (cdL rc i).length := by rw [wr_n (by decide), fz _ _ (by omega), f5]
    have e5 : nI (cdL rc i).length + 1 = nI ((cdL rc i).length + 1) := nI_add _ 1
    rw [g5, e5]
    refine hL _ _ _ (by omega) ⟨i + 1, by omega, rfl, rfl, (((fy.tr fw).tr fq).tr (frQ_w (by decide) (by decide))).tr (frQ_w (by decide) (by decide)), ?_, ?_, fun j hj => ?_⟩
    · rw [wr_e, es, List.length_append]; rfl
    · rw [wr_k (by decide), wr_n (by decide), fz _ _ (by omega), f8]
    · rw [es, List.length_append] at hj
      have hj : j < (cdL rc i).length + 1 := hj
      rw [es, wr_n (by decide), wr_n (by decide), wr_n (by decide), fz _ _ (by omega)]
      refine ⟨f235 j hj, ?_⟩
      by_cases e : j = (cdL rc i).length
      · rw [e, wr_e, gD_r]
      · rw [wr_k e, fz _ _ (by omega), f236 j (by omega)]
