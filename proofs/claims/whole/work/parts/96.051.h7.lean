/-! THE FIRE: the first half of a minute, both. -/
def vlb (Y : Nat → Nat → Int32) (k : Nat) : Bool := decide (k / 24 < nv Y 246 31) && decide (k % 24 < nv Y 256 (k / 24) * nv Y 257 (k / 24))
theorem vlb_t {Y : Nat → Nat → Int32} {k : Nat} : vlb Y k = true ↔ vld Y k := by unfold vlb vld; rw [Bool.and_eq_true, decide_eq_true_eq, decide_eq_true_eq]
def wrT (s : ab_X) (c : Nat) (f : Nat → Int32) : ab_X := ((fun j => if j = c then f else s.1 j), s.2)
theorem wrT_e {s : ab_X} {c : Nat} {f : Nat → Int32} : (wrT s c f).1 c = f := if_pos rfl
theorem wrT_n {s : ab_X} {c d : Nat} {f : Nat → Int32} (h : d ≠ c) : (wrT s c f).1 d = s.1 d := if_neg h
def fb1 (Y : Nat → Nat → Int32) (k : Nat) : Int32 := if k / 6 < nv Y 246 31 ∧ k % 6 < nv Y 256 (k / 6) then sB Y (k / 6) (k % 6) (nv Y 257 (k / 6)) else Y 271 k
/-- after heat, stuff and what burnt are brought forward -/
def fs1 (s : ab_X) (Wa : Nat → Int32) : ab_X := wrT (wrT (wrT s 266 (fun k => if vlb s.1 k then nhK s.1 Wa k else s.1 266 k)) 267 (fun k => if vlb s.1 k then s.1 267 k - lsI s.1 k else s.1 267 k)) 271 (fb1 s.1)
theorem fs1_o {s : ab_X} {Wa : Nat → Int32} {c : Nat} (h1 : c ≠ 266) (h2 : c ≠ 267) (h3 : c ≠ 271) : (fs1 s Wa).1 c = s.1 c := by unfold fs1; rw [wrT_n h3, wrT_n h2, wrT_n h1]
theorem fs1_266 {s : ab_X} {Wa : Nat → Int32} : (fs1 s Wa).1 266 = fun k => if vlb s.1 k then nhK s.1 Wa k else s.1 266 k := by unfold fs1; rw [wrT_n (by decide), wrT_n (by decide), wrT_e]
theorem fs1_267 {s : ab_X} {Wa : Nat → Int32} : (fs1 s Wa).1 267 = fun k => if vlb s.1 k then s.1 267 k - lsI s.1 k else s.1 267 k := by unfold fs1; rw [wrT_n (by decide), wrT_e]
theorem fs1_271 {s : ab_X} {Wa : Nat → Int32} : (fs1 s Wa).1 271 = fb1 s.1 := by unfold fs1; rw [wrT_e]
theorem clampI (v : Int32) : ∃ n : Nat, n ≤ 1000 ∧ imax (nI 0) (imin (nI 1000) v) = nI n := by
  unfold imax imin
  by_cases h1 : v < nI 1000
  · rw [if_pos h1]
    by_cases h2 : nI 0 < v
    · rw [if_pos h2]
      have h2' : ¬ v < 0 := fun u => by
        have a := Int32.lt_iff_toInt_lt.mp h2
        have b := Int32.lt_iff_toInt_lt.mp u
        have z : (nI 0).toInt = 0 := by decide
        have z2 : (0 : Int32).toInt = 0 := by decide
        omega
      obtain ⟨n, hn, rfl⟩ := nI_of h2'
      rw [q_lt hn (by decide)] at h1
      exact ⟨n, by omega, rfl⟩
    · rw [if_neg h2]; exact ⟨0, by decide, rfl⟩
  · rw [if_neg h1]
    rw [if_pos (by decide)]
    exact ⟨1000, by decide, rfl⟩
theorem nhI_b (Y : Nat → Nat → Int32) (Wa : Nat → Int32) (h f q : Nat) : ∃ n : Nat, n ≤ 1000 ∧ nhI Y Wa h f q = nI n := by
  unfold nhI
  split
  · exact clampI _
  · exact ⟨0, by decide, rfl⟩
theorem lsI_b {Y : Nat → Nat → Int32} (w : TW Y) {k : Nat} (hk : k < 288) : ∃ n : Nat, n ≤ nv Y 267 k ∧ lsI Y k = nI n := by
  obtain ⟨w1, w2⟩ := w.2.2.1 k hk
  have u1 := w1.2
  have u2 := w2.2
  unfold lsI
  split
  · refine ⟨min (nv Y 267 k) (1 + nv Y 266 k / 250), by omega, ?_⟩
    rw [w1.1, w2.1, q_div (by omega) (by decide) (by decide), nI_add]
    exact imin_I (by omega) (by omega)
  · exact ⟨0, Nat.zero_le _, rfl⟩
theorem fs1_nv {s : ab_X} {Wa : Nat → Int32} {c k : Nat} (h1 : c ≠ 266) (h2 : c ≠ 267) (h3 : c ≠ 271) : nv (fs1 s Wa).1 c k = nv s.1 c k := by unfold nv; rw [fs1_o h1 h2 h3]
theorem fs1_tw {s : ab_X} {Wa : Nat → Int32} (w : TW s.1) : TW (fs1 s Wa).1 := by
  have b := w.b
  refine ⟨?_, ?_, fun k hk => ?_, fun k hk => ?_, fun h r hh hr u => ?_, fun h f r hh hf hr u => ?_⟩
  · have := w.1
    unfold nbd nv at this ⊢
    rw [fs1_o (by decide) (by decide) (by decide)]
    exact this
  · exact Who_fr w.2.1 (fun c p q => fs1_o (by omega) (by omega) (by omega)) (fun c p q => fs1_o (by omega) (by omega) (by omega)) (fun c p q => fs1_o (by omega) (by omega) (by omega)) (by rw [fs1_o (by decide) (by decide) (by decide)])
  · obtain ⟨w1, w2⟩ := w.2.2.1 k hk
    constructor
    · by_cases v : vlb s.1 k = true
      · obtain ⟨n, hn, e⟩ := nhI_b s.1 Wa (k / 24) (k % 24 / nv s.1 257 (k / 24)) (k % 24 % nv s.1 257 (k / 24))
        exact nb_of (n := n) (by rw [fs1_266]; show (if vlb s.1 k = true then _ else _) = _; rw [if_pos v]; exact e) hn (by decide)
      · exact nb_of (n := nv s.1 266 k) (by rw [fs1_266]; show (if vlb s.1 k = true then _ else _) = _; rw [if_neg v]; exact w1.1) w1.2 (by decide)
    · by_cases v : vlb s.1 k = true
      · obtain ⟨n, hn, e⟩ := lsI_b w hk
        have u2 := w2.2
        exact nb_of (n := nv s.1 267 k - n) (by rw [fs1_267]; show (if vlb s.1 k = true then _ else _) = _; rw [if_pos v, e, w2.1]; exact pk_sub hn) (by omega) (by decide)
      · exact nb_of (n := nv s.1 267 k) (by rw [fs1_267]; show (if vlb s.1 k = true then _ else _) = _; rw [if_neg v]; exact w2.1) w2.2 (by decide)
  · rw [fs1_o (by decide) (by decide) (by decide)]; exact w.2.2.2.1 k hk
  · rw [fs1_nv (by decide) (by decide) (by decide), fs1_nv (by decide) (by decide) (by decide), fs1_nv (by decide) (by decide) (by decide)] at u
    rw [fs1_266]
    have nv' : ¬ vlb s.1 (24 * h + r) = true := by
      rw [vlb_t]
      intro v
      have v1 := v.1
      have v2 := v.2
      rw [show (24 * h + r) / 24 = h by omega] at v1 v2
      rw [show (24 * h + r) % 24 = r by omega] at v2
      omega
    show (if vlb s.1 (24 * h + r) = true then _ else _) = _
    rw [if_neg nv']
    exact w.2.2.2.2.1 h r hh hr u
  · rw [fs1_nv (by decide) (by decide) (by decide)] at hh hf hr ⊢
    rw [fs1_o (by decide) (by decide) (by decide)] at u
    obtain ⟨vl, -, -⟩ := vld_of w hh (rmlt hf hr)
    rw [fs1_266]
    show (if vlb s.1 _ = true then _ else _) = _
    rw [if_pos (vlb_t.mpr vl), nhK_of w hh hf hr]
    unfold nhI
    rw [if_neg u]
theorem fb1_of {Y : Nat → Nat → Int32} (w : TW Y) {h f : Nat} (hh : h < nv Y 246 31) (hf : f < nv Y 256 h) : fb1 Y (6 * h + f) = sB Y h f (nv Y 257 h) := by
  have f6 := (w.2.1.1 h hh).2.2.1.2
  unfold fb1
  rw [show (6 * h + f) / 6 = h by omega, show (6 * h + f) % 6 = f by omega, if_pos ⟨hh, hf⟩]
theorem TabB_e {Y : Nat → Nat → Int32} (w : TW Y) {c : Nat → Int32} {old : Nat → Int32} {p : Nat} (t : TabB Y old p c) (hp : 24 * nv Y 246 31 ≤ p) {k : Nat} (ho : old k = Y 271 k) : c k = fb1 Y k := by
  unfold fb1
  by_cases q : k / 6 < nv Y 246 31 ∧ k % 6 < nv Y 256 (k / 6)
  · rw [if_pos q]
    have e := t.1 (k / 6) (k % 6) q.1 q.2
    rw [show 6 * (k / 6) + k % 6 = k by omega] at e
    rw [e]
    congr 1
    have rm := rm_le w q.1
    have : (k % 6 + 1) * nv Y 257 (k / 6) ≤ nv Y 256 (k / 6) * nv Y 257 (k / 6) := Nat.mul_le_mul_right _ q.2
    have sm1 : (k % 6 + 1) * nv Y 257 (k / 6) = k % 6 * nv Y 257 (k / 6) + nv Y 257 (k / 6) := Nat.succ_mul _ _
    unfold qn
    omega
  · rw [if_neg q, t.2 k q, ho]
/-- the program -/
theorem c_half {x s : ab_X} {Wa : Nat → Int32} {v : Nat} (hv : v = 11 ∨ v = 19) (t : TR v x.1 s.1) (w : TW s.1) (hw : ∀ k, k < 288 → x.1 (v + 3) k = Wa k) (h7 : x.1 v 7 = nI 0) {K : ab_X → Prop} (k : ∀ z : ab_X, TR v z.1 (fs1 s Wa).1 → (∀ c, c < v ∨ v + 7 < c → z.1 c = x.1 c) → (∀ f, f ≠ 7 → z.1 v f = x.1 v f) → z.1 (v + 3) = x.1 (v + 3) → z.2 = x.2 → Lp2 (lX3_step_66 v (nI (nv s.1 246 31)) K) 0 z) : wX3_step v (nI (nv s.1 246 31)) x K := by
  have b := w.b
  unfold wX3_step
  simp (disch := first | assumption | omega) only [prv_n, nxt_n, q_sw, mc4, mc6, mc8, mc20, mc24, mc100, nv_rd, nb_rd, wr_rd, nI_lit, nI_add, pk_mul, pk_sub, q_div, cl_nI, vpi, q_eq, q_le, q_lt, n1_eq, n1_eq', n1_le, n1_lt, n1_ge, n1_gt, i_0m1, nlt_t, nlt_f, nle_t, nle_f, neq_f, f_below, f_within, f_isCorner, f_isIn, f_isCornerM, f_isStreet, f_isHouse, f_isCrew, f_isRow, f_has10, f_has0, jx_I, jx_N, jx_m1, jr_I, jr_N1, jr_N2, wr_2, isB_0, isB_1, true_and, and_true, and_self, false_and, and_false, true_or, or_true, false_or, or_false, not_true_eq_false, not_false_eq_true, forall_const, implies_true, false_implies, ne_eq, eq_self, if_true, if_false, Nat.zero_add, Nat.add_zero, Nat.mul_zero, Nat.zero_mul, Nat.mul_one, Nat.one_mul, Nat.add_sub_cancel, Nat.reduceEqDiff, Nat.reduceAdd, Nat.reduceMul, Nat.reduceSub, Nat.reduceLeDiff, Nat.reduceLT, Nat.reduceDiv, Nat.reduceMod, h7]
  refine c_noteAll hv t w rfl (fun y hy => ?_)
  have ty := TR_lit hv w t hy.1 hy.2.2.1
  have g : BegC v s.1 Wa (wr y v 7 1) := by
    refine ⟨by rw [wr_n (by omega)]; exact ty.1, Rho_cells w ty.2.1 (fun c h1 h2 => wr_n (by omega)), ⟨fun h r p q => by rw [wr_n (by omega)]; exact hy.2.2.2.1 h r p q, fun h f p q => by rw [wr_n (by omega)]; exact hy.2.2.2.2 h f p q⟩, fun k p => ?_, fun k p => ?_⟩
    · rw [wr_n (by omega), wr_n (by omega), wr_n (by omega), wr_n (by omega)]
      exact ⟨(ty.2.2.1 k p).1, (ty.2.2.1 k p).2.1, hy.2.2.1 k p, by rw [hy.1 _ (by omega) (by omega)]; exact hw k p⟩
    · rw [wr_n (by omega), wr_n (by omega)]; exact ty.2.2.2.1 k p
  refine Lp2.ind (fun i a z => ∃ h, h ≤ nv s.1 246 31 ∧ i = nv s.1 246 31 - h ∧ a = nI h ∧ MidC v s.1 Wa (24 * h) (24 * h) (wr y v 7 1) z) (nv s.1 246 31) ⟨0, by omega, by omega, rfl, fun _ _ _ _ _ => rfl, fun _ _ => rfl, rfl, Tab_0, Tab_0, ?_, ?_, fun _ k hk => by omega⟩ ?_
  · refine ⟨fun h f hh hf => ?_, fun _ _ => rfl⟩
    have : qn s.1 h f (24 * 0) = 0 := by unfold qn; omega
    have f6 := (w.2.1.1 h hh).2.2.1.2
    rw [this]
    show (wr y v 7 1).1 (v + 4) (6 * h + f) = s.1 271 (6 * h + f)
    exact (g.2.2.2.2 _ (by omega)).1
  · rw [wr_e]; exact Or.inr rfl
  rintro i a z ⟨h, hh, rfl, rfl, hz⟩ L hL
  unfold lX3_step_35
  by_cases e : h = nv s.1 246 31
  case neg =>
    simp (disch := first | assumption | omega) only [prv_n, nxt_n, q_sw, mc4, mc6, mc8, mc20, mc24, mc100, nv_rd, nb_rd, wr_rd, nI_lit, nI_add, pk_mul, pk_sub, q_div, cl_nI, vpi, q_eq, q_le, q_lt, n1_eq, n1_eq', n1_le, n1_lt, n1_ge, n1_gt, i_0m1, nlt_t, nlt_f, nle_t, nle_f, neq_f, f_below, f_within, f_isCorner, f_isIn, f_isCornerM, f_isStreet, f_isHouse, f_isCrew, f_isRow, f_has10, f_has0, jx_I, jx_N, jx_m1, jr_I, jr_N1, jr_N2, wr_2, isB_0, isB_1, true_and, and_true, and_self, false_and, and_false, true_or, or_true, false_or, or_false, not_true_eq_false, not_false_eq_true, forall_const, implies_true, false_implies, ne_eq, eq_self, if_true, if_false, Nat.zero_add, Nat.add_zero, Nat.mul_zero, Nat.zero_mul, Nat.mul_one, Nat.one_mul, Nat.add_sub_cancel, Nat.reduceEqDiff, Nat.reduceAdd, Nat.reduceMul, Nat.reduceSub, Nat.reduceLeDiff, Nat.reduceLT, Nat.reduceDiv, Nat.reduceMod]
    refine c_waste hv g w (by omega) hz (fun z' hz' => ?_)
    refine c_warm hv g w (by omega) hz' (fun z'' hz'' => ?_)
    exact hL _ _ _ (by omega) ⟨h + 1, by omega, rfl, rfl, hz''⟩
  rw [e] at hz ⊢
  simp (disch := first | assumption | omega) only [prv_n, nxt_n, q_sw, mc4, mc6, mc8, mc20, mc24, mc100, nv_rd, nb_rd, wr_rd, nI_lit, nI_add, pk_mul, pk_sub, q_div, cl_nI, vpi, q_eq, q_le, q_lt, n1_eq, n1_eq', n1_le, n1_lt, n1_ge, n1_gt, i_0m1, nlt_t, nlt_f, nle_t, nle_f, neq_f, f_below, f_within, f_isCorner, f_isIn, f_isCornerM, f_isStreet, f_isHouse, f_isCrew, f_isRow, f_has10, f_has0, jx_I, jx_N, jx_m1, jr_I, jr_N1, jr_N2, wr_2, isB_0, isB_1, true_and, and_true, and_self, false_and, and_false, true_or, or_true, false_or, or_false, not_true_eq_false, not_false_eq_true, forall_const, implies_true, false_implies, ne_eq, eq_self, if_true, if_false, Nat.zero_add, Nat.add_zero, Nat.mul_zero, Nat.zero_mul, Nat.mul_one, Nat.one_mul, Nat.add_sub_cancel, Nat.reduceEqDiff, Nat.reduceAdd, Nat.reduceMul, Nat.reduceSub, Nat.reduceLeDiff, Nat.reduceLT, Nat.reduceDiv, Nat.reduceMod]
  obtain ⟨m1, m2, m3, m4, m5, m6, m7, m8⟩ := hz
  have zx : ∀ c, c < v ∨ v + 7 < c → z.1 c = x.1 c := fun c hc => by rw [m1 c (by omega) (by omega) (by omega) (by omega), wr_n (by omega), hy.1 c (by omega) (by omega)]
  have e1 : ∀ k, k < 288 → z.1 (v + 1) k = (fs1 s Wa).1 266 k := by
    intro k hk
    rw [fs1_266]
    show _ = (if vlb s.1 k = true then _ else _)
    by_cases q : vlb s.1 k = true
    · rw [if_pos q]; exact (Tab_e m4 (Nat.le_refl _) k).1 (vlb_t.mp q)
    · rw [if_neg q, (Tab_e m4 (Nat.le_refl _) k).2 (fun u => q (vlb_t.mpr u))]; exact (g.2.2.2.1 k hk).1
  have e2 : ∀ k, k < 288 → z.1 (v + 2) k = (fs1 s Wa).1 267 k := by
    intro k hk
    rw [fs1_267]
    show _ = (if vlb s.1 k = true then _ else _)
    by_cases q : vlb s.1 k = true
    · rw [if_pos q]; exact (Tab_e m5 (Nat.le_refl _) k).1 (vlb_t.mp q)
    · rw [if_neg q, (Tab_e m5 (Nat.le_refl _) k).2 (fun u => q (vlb_t.mpr u))]; exact (g.2.2.2.1 k hk).2.1
  refine k z ⟨?_, ?_, fun k p => ⟨e1 k p, e2 k p, ?_⟩, fun k p => ⟨?_, ?_⟩, m7, fun u k p => ?_⟩ zx (fun f hf => ?_) ?_ (m3.trans hy.2.1)
  · rw [zx 9 (by omega), fs1_o (by decide) (by decide) (by decide)]; exact t.1
  · exact Rho_fr t.2.1 (fun c h1 h2 => zx c (by omega)) (fun c p q => fs1_o (by omega) (by omega) (by omega)) (fun c p q => fs1_o (by omega) (by omega) (by omega)) (by rw [fs1_o (by decide) (by decide) (by decide)]) (fun i p => by omega)
  · rw [m1 _ (by omega) (by omega) (by omega) (by omega), wr_n (by omega)]; exact hy.2.2.1 k p
  · rw [fs1_271]; exact TabB_e w m6 (Nat.le_refl _) (g.2.2.2.2 k p).1
  · rw [fs1_o (by decide) (by decide) (by decide), m1 _ (by omega) (by omega) (by omega) (by omega)]; exact (g.2.2.2.2 k p).2
  · rw [fs1_266]
    show (if vlb s.1 k = true then _ else _) = _
    by_cases q : vlb s.1 k = true
    · rw [if_pos q]
      have v1 := (vlb_t.mp q).1
      exact m8 u k (by omega) (vlb_t.mp q)
    · rw [if_neg q]
      have := w.2.2.2.2.1 (k / 24) (k % 24) (by omega) (by omega) (by
        by_cases c1 : nv s.1 246 31 ≤ k / 24
        · exact Or.inl c1
        · right
          apply Classical.byContradiction
          intro c2
          exact q (vlb_t.mpr ⟨by omega, by omega⟩))
      rw [show 24 * (k / 24) + k % 24 = k by omega] at this
      exact this
  · rw [m2 f hf, wr_k hf, hy.1 v (by omega) (by omega)]
  · rw [m1 _ (by omega) (by omega) (by omega) (by omega), wr_n (by omega), hy.1 _ (by omega) (by omega)]
