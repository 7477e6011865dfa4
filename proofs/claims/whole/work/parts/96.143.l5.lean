/-! plan, planned -/
def pI (q : Nat) : Int32 := if q = 0 then -nI 1 else nI (q - 1)
theorem pI_le {s q : Nat} (hs : s < 100000) (hq : q < 100000) : nI s ≤ pI q ↔ s < q := by
  unfold pI
  split
  · next h => subst h; rw [n1_ge (by omega)]; exact ⟨False.elim, fun u => by omega⟩
  · rw [q_le (by omega) (by omega)]; omega
theorem pI_lt {s q : Nat} (hs : s < 100000) (hq : q < 100000) : pI q < nI s ↔ q < s + 1 := by
  unfold pI
  split
  · next h => subst h; rw [n1_lt (by omega)]; constructor
              · intro _; omega
              · intro _; trivial
  · rw [q_lt (by omega) (by omega)]; omega
def itr {S : Type} (g : Nat → S → S) : Nat → Nat → S → S
  | _, 0, s => s
  | f, k + 1, s => itr g (f + 1) k (g f s)
def oneI (c : Nat) : Int32 := nI 1 <<< (nI c &&& nI 31)
def chs (W : Nat × Int32 → Int32 → Nat × Int32) : Nat → Nat → Int32 → Nat × Int32 → Nat × Int32
  | 0, _, w, s => W s w
  | n + 1, f, w, s => itr (fun c s => chs W n (c + 1) (w ||| oneI c) s) f (20 - f) s
theorem itr_id {S : Type} {g : Nat → S → S} : ∀ k f s, (∀ c s, f ≤ c → c < f + k → g c s = s) → itr g f k s = s
  | 0, _, _, _ => rfl
  | k + 1, f, s, h => by
    show itr g (f + 1) k (g f s) = s
    rw [h f s (Nat.le_refl _) (by omega)]
    exact itr_id k (f + 1) s (fun c s a b => h c s (by omega) (by omega))
theorem itr_inv {S : Type} {g : Nat → S → S} (P : S → Prop) : ∀ k f s, P s → (∀ c s, f ≤ c → c < f + k → P s → P (g c s)) → P (itr g f k s)
  | 0, _, _, h, _ => h
  | k + 1, f, s, h, hs => itr_inv P k (f + 1) (g f s) (hs f s (Nat.le_refl _) (by omega) h) (fun c s a b => hs c s (by omega) (by omega))
theorem itr_rel {S : Type} {g : Nat → S → S} (R : S → S → Prop) : ∀ k f s t, R s t → (∀ c s t, R s t → R (g c s) (g c t)) → R (itr g f k s) (itr g f k t)
  | 0, _, _, _, h, _ => h
  | k + 1, f, s, t, h, hs => itr_rel R k (f + 1) (g f s) (g f t) (hs f s t h) hs
theorem chs_id {W : Nat × Int32 → Int32 → Nat × Int32} : ∀ n f w s, f ≤ 20 → 20 < f + (n + 1) → chs W (n + 1) f w s = s
  | 0, f, w, s, h, h2 => by
    have : f = 20 := by omega
    subst this
    rfl
  | n + 1, f, w, s, h, h2 => itr_id _ _ _ (fun c s a b => chs_id n (c + 1) _ s (by omega) (by omega))
theorem chs_inv {W : Nat × Int32 → Int32 → Nat × Int32} (P : Nat × Int32 → Prop) (hW : ∀ s w, P s → P (W s w)) : ∀ n f w s, P s → P (chs W n f w s)
  | 0, f, w, s, h => hW s w h
  | n + 1, f, w, s, h => itr_inv P _ _ _ h (fun c s _ _ h => chs_inv P hW n _ _ s h)
theorem chs_rel {W : Nat × Int32 → Int32 → Nat × Int32} (R : Nat × Int32 → Nat × Int32 → Prop) (hW : ∀ s t w, R s t → R (W s w) (W t w)) : ∀ n f w s t, R s t → R (chs W n f w s) (chs W n f w t)
  | 0, f, w, s, t, h => hW s t w h
  | n + 1, f, w, s, t, h => itr_rel R _ _ _ _ h (fun c s t h => chs_rel R hW n _ _ s t h)
theorem cn_or1 {p : Nat → Bool} {c : Nat} : ∀ n, cn (fun i => p i || decide (i = c)) n ≤ cn p n + (if c < n then 1 else 0)
  | 0 => by show 0 ≤ _; omega
  | n + 1 => by
    have ih := cn_or1 (p := p) (c := c) n
    show cn _ n + (if (p n || decide (n = c)) = true then 1 else 0) ≤ (cn p n + (if p n = true then 1 else 0)) + (if c < n + 1 then 1 else 0)
    by_cases e : n = c
    · subst e
      rw [if_neg (Nat.lt_irrefl _)] at ih
      rw [if_pos (by omega : n < n + 1)]
      split <;> omega
    · have e2 : decide (n = c) = false := decide_eq_false e
      rw [e2, Bool.or_false]
      by_cases e3 : c < n
      · rw [if_pos e3] at ih
        rw [if_pos (by omega : c < n + 1)]; omega
      · rw [if_neg e3] at ih
        rw [if_neg (by omega : ¬ c < n + 1)]; omega
theorem cn_one {w : Int32} {c : Nat} (hc : c < 20) : cn (bt (w ||| oneI c)) 20 ≤ cn (bt w) 20 + 1 := by
  have e : cn (bt (w ||| oneI c)) 20 = cn (fun i => bt w i || decide (i = c)) 20 := cn_congr (fun i hi => by rw [b_or]; unfold oneI; rw [bt_one (by omega) (by omega)])
  have := cn_or1 (p := bt w) (c := c) 20
  rw [e, if_pos hc] at *
  exact this
theorem chs_cn {W : Nat × Int32 → Int32 → Nat × Int32} {N : Nat} (hW : ∀ s w, W s w = s ∨ (W s w).2 = w) : ∀ n f w s, (s.1 = 0 ∨ cn (bt s.2) 20 ≤ N) → cn (bt w) 20 + n ≤ N → ((chs W n f w s).1 = 0 ∨ cn (bt (chs W n f w s).2) 20 ≤ N)
  | 0, f, w, s, h, h2 => by
    show (W s w).1 = 0 ∨ cn (bt (W s w).2) 20 ≤ N
    rcases hW s w with e | e
    · rw [e]; exact h
    · rw [e]; exact Or.inr h2
  | n + 1, f, w, s, h, h2 => itr_inv (fun s => s.1 = 0 ∨ cn (bt s.2) 20 ≤ N) _ _ _ h (fun c s a b h => chs_cn hW n _ _ s h (by have := cn_one (w := w) (c := c) (by omega); omega))
theorem chs_pos {W : Nat × Int32 → Int32 → Nat × Int32} (hW : ∀ s w, 1 ≤ (W s w).1) : ∀ n f w s, f + n ≤ 20 → 1 ≤ (chs W n f w s).1
  | 0, f, w, s, _ => hW s w
  | n + 1, f, w, s, h => by
    show 1 ≤ (itr (fun c s => chs W n (c + 1) (w ||| oneI c) s) f (20 - f) s).1
    obtain ⟨k, hk⟩ : ∃ k, 20 - f = k + 1 := ⟨20 - f - 1, by omega⟩
    rw [hk]
    show 1 ≤ (itr (fun c s => chs W n (c + 1) (w ||| oneI c) s) (f + 1) k (chs W n (f + 1) (w ||| oneI f) s)).1
    exact itr_inv (fun s => 1 ≤ s.1) _ _ _ (chs_pos hW n (f + 1) _ s (by omega)) (fun c s _ _ h => chs_inv (fun s => 1 ≤ s.1) (fun s w _ => hW s w) n _ _ s h)
/-- calls at a corner; the sum of a set; weighing it -/
def caN (Y : Nat → Nat → Int32) (n c : Nat) : Nat := cn (fun k => decide (nv Y 310 k = c)) n
def smN (Y : Nat → Nat → Int32) (n l : Nat) (w : Int32) : Nat → Nat
  | 0 => 0
  | c + 1 => smN Y n l w c + caN Y n c * pts Y l c w
def wgh (Y : Nat → Nat → Int32) (n l : Nat) (s : Nat × Int32) (w : Int32) : Nat × Int32 := if s.1 < smN Y n l w 20 + 1 then (smN Y n l w 20 + 1, w) else s
theorem smN_le {Y : Nat → Nat → Int32} {n l : Nat} {w : Int32} (hn : n ≤ 60) : ∀ c, smN Y n l w c ≤ 180 * c
  | 0 => Nat.le_refl _
  | c + 1 => by
    have ih := smN_le (Y := Y) (l := l) (w := w) hn c
    have a := cn_le (fun k => decide (nv Y 310 k = c)) n
    have b := pts_le Y l c w
    have d : caN Y n c * pts Y l c w ≤ 60 * 3 := Nat.mul_le_mul (by unfold caN; omega) b
    show smN Y n l w c + caN Y n c * pts Y l c w ≤ _
    omega
theorem wgh_le {Y : Nat → Nat → Int32} {n l : Nat} {w : Int32} (hn : n ≤ 60) {s : Nat × Int32} (h : s.1 ≤ 4000) : (wgh Y n l s w).1 ≤ 4000 := by
  have := smN_le (Y := Y) (l := l) (w := w) hn 20
  unfold wgh
  split
  · show smN Y n l w 20 + 1 ≤ 4000; omega
  · exact h
def StC (Y : Nat → Nat → Int32) (n l : Nat) (x : ab_X) (s : Nat × Int32) : Prop := nrT Y l x.1 ∧ (∀ c, c < 20 → x.1 242 c = nI (caN Y n c)) ∧ x.1 234 16 = pI s.1 ∧ x.1 234 17 = s.2 ∧ s.1 ≤ 4000
def ap (x y : ab_X) (c0 k1 k2 : Nat) : Prop := (∀ c k, c ≠ c0 ∨ (k ≠ k1 ∧ k ≠ k2) → y.1 c k = x.1 c k) ∧ y.2 = x.2
theorem ap.rfl' {x : ab_X} {c a b : Nat} : ap x x c a b := ⟨fun _ _ _ => rfl, rfl⟩
theorem ap.tr {x y z : ab_X} {c a b : Nat} (h : ap x y c a b) (h2 : ap y z c a b) : ap x z c a b := ⟨fun c k q => (h2.1 c k q).trans (h.1 c k q), h2.2.trans h.2⟩
theorem caN_le (Y : Nat → Nat → Int32) {n : Nat} (hn : n ≤ 60) (c : Nat) : caN Y n c ≤ 60 := by
  have := cn_le (fun k => decide (nv Y 310 k = c)) n
  unfold caN; omega
theorem c_weigh {Y : Nat → Nat → Int32} {n l : Nat} (hn : n ≤ 60) {x : ab_X} {s : Nat × Int32} {w : Int32} (h : StC Y n l x s) {K : ab_X → Prop} (k : ∀ y, ap x y 234 16 17 → StC Y n l y (wgh Y n l s w) → K y) : wX7_weigh w x K := by
  obtain ⟨h1, h2, h3, h4, h5⟩ := h
  unfold wX7_weigh
  refine Lp2.seq 20 (fun c => nI (smN Y n l w c)) (fun c => nI c) rfl rfl (fun c hc L hL => ?_) (fun L => ?_)
  · unfold lX7_weigh_4
    refine ⟨fun q => absurd q (by simp only [nI_lit]; rw [q_le (by omega) (by omega)]; omega), fun _ => ?_⟩
    refine ⟨(vpi hc (by omega)).mpr trivial, c_pts h1 hc ?_⟩
    rw [cl_nI (by omega), h2 c hc, pk_mul, nI_add, nI_lit, nI_add]
    exact hL
  · have le := smN_le (Y := Y) (l := l) (w := w) hn 20
    unfold lX7_weigh_4
    refine ⟨fun _ => ?_, fun q => absurd (by decide) q⟩
    rw [h3, pI_le (by omega) (by omega)]
    have wl := wgh_le (Y := Y) (l := l) (w := w) hn h5
    unfold wgh at k wl
    by_cases q : smN Y n l w 20 < s.1
    · rw [if_neg (by omega)] at k wl
      exact ⟨fun _ => k x ap.rfl' ⟨h1, h2, h3, h4, h5⟩, fun u => absurd q u⟩
    · rw [if_pos (by omega)] at k wl
      refine ⟨fun u => absurd u q, fun _ => k _ ⟨fun c k q => by simp (disch := omega) only [wr_ne], rfl⟩ ⟨fun c hc i hi => ?_, fun c hc => ?_, ?_, ?_, wl⟩⟩
      · simp (disch := omega) only [wr_ne]; exact h1 c hc i hi
      · simp (disch := omega) only [wr_ne]; exact h2 c hc
      · rw [wr_ne (by omega), wr_e]; rfl
      · rw [wr_e]
theorem c_choose {Y : Nat → Nat → Int32} {n l : Nat} (hn : n ≤ 60) : ∀ t f w s x K, t ≤ 20 → f ≤ 20 → StC Y n l x s → (∀ y, ap x y 234 16 17 → StC Y n l y (chs (wgh Y n l) t f w s) → K y) → famX7_choose (t + 1) (nI t) (nI f) w x K
  | 0, f, w, s, x, K, ht, hf, h, k => by
    show bX7_choose _ _ _ _ _ _
    unfold bX7_choose
    simp (disch := first | assumption | omega) only [prv_n, nxt_n, q_sw, mc4, mc6, mc8, mc20, mc24, mc100, nv_rd, nb_rd, wr_rd, nI_lit, nI_add, pk_mul, pk_sub, q_div, cl_nI, vpi, q_eq, q_le, q_lt, n1_eq, n1_eq', n1_le, n1_lt, n1_ge, n1_gt, i_0m1, nlt_t, nlt_f, nle_t, nle_f, neq_f, f_below, f_within, f_isCorner, f_isIn, f_isCornerM, f_isStreet, f_isHouse, f_isCrew, f_isRow, f_has10, f_has0, jx_I, jx_N, jx_m1, jr_I, jr_N1, jr_N2, wr_2, isB_0, isB_1, true_and, and_true, and_self, false_and, and_false, true_or, or_true, false_or, or_false, not_true_eq_false, not_false_eq_true, forall_const, implies_true, false_implies, ne_eq, eq_self, if_true, if_false, Nat.zero_add, Nat.add_zero, Nat.mul_zero, Nat.zero_mul, Nat.mul_one, Nat.one_mul, Nat.add_sub_cancel, Nat.reduceEqDiff, Nat.reduceAdd, Nat.reduceMul, Nat.reduceSub, Nat.reduceLeDiff, Nat.reduceLT, Nat.reduceDiv, Nat.reduceMod]
    exact c_weigh hn h k
  | t + 1, f, w, s, x, K, ht, hf, h, k => by
    show bX7_choose (famX7_choose (t + 1)) _ _ _ _ _
    unfold bX7_choose
    simp (disch := first | assumption | omega) only [prv_n, nxt_n, q_sw, mc4, mc6, mc8, mc20, mc24, mc100, nv_rd, nb_rd, wr_rd, nI_lit, nI_add, pk_mul, pk_sub, q_div, cl_nI, vpi, q_eq, q_le, q_lt, n1_eq, n1_eq', n1_le, n1_lt, n1_ge, n1_gt, i_0m1, nlt_t, nlt_f, nle_t, nle_f, neq_f, f_below, f_within, f_isCorner, f_isIn, f_isCornerM, f_isStreet, f_isHouse, f_isCrew, f_isRow, f_has10, f_has0, jx_I, jx_N, jx_m1, jr_I, jr_N1, jr_N2, wr_2, isB_0, isB_1, true_and, and_true, and_self, false_and, and_false, true_or, or_true, false_or, or_false, not_true_eq_false, not_false_eq_true, forall_const, implies_true, false_implies, ne_eq, eq_self, if_true, if_false, Nat.zero_add, Nat.add_zero, Nat.mul_zero, Nat.zero_mul, Nat.mul_one, Nat.one_mul, Nat.add_sub_cancel, Nat.reduceEqDiff, Nat.reduceAdd, Nat.reduceMul, Nat.reduceSub, Nat.reduceLeDiff, Nat.reduceLT, Nat.reduceDiv, Nat.reduceMod]
    refine Lp2.ind (fun ii a y => ∃ c s', c ≤ 20 ∧ ii = 20 - c ∧ a = nI c ∧ ap x y 234 16 17 ∧ StC Y n l y s' ∧ itr (fun c s => chs (wgh Y n l) t (c + 1) (w ||| oneI c) s) c (20 - c) s' = chs (wgh Y n l) (t + 1) f w s) (20 - f) ⟨f, s, hf, rfl, rfl, ap.rfl', h, rfl⟩ ?_
    rintro ii a y ⟨c, s', hc, hii, rfl, y1, y2, y3⟩ L hL
    unfold lX7_choose_13
    by_cases e : 20 - (t + 1) < c
    · simp (disch := first | assumption | omega) only [prv_n, nxt_n, q_sw, mc4, mc6, mc8, mc20, mc24, mc100, nv_rd, nb_rd, wr_rd, nI_lit, nI_add, pk_mul, pk_sub, q_div, cl_nI, vpi, q_eq, q_le, q_lt, n1_eq, n1_eq', n1_le, n1_lt, n1_ge, n1_gt, i_0m1, nlt_t, nlt_f, nle_t, nle_f, neq_f, f_below, f_within, f_isCorner, f_isIn, f_isCornerM, f_isStreet, f_isHouse, f_isCrew, f_isRow, f_has10, f_has0, jx_I, jx_N, jx_m1, jr_I, jr_N1, jr_N2, wr_2, isB_0, isB_1, true_and, and_true, and_self, false_and, and_false, true_or, or_true, false_or, or_false, not_true_eq_false, not_false_eq_true, forall_const, implies_true, false_implies, ne_eq, eq_self, if_true, if_false, Nat.zero_add, Nat.add_zero, Nat.mul_zero, Nat.zero_mul, Nat.mul_one, Nat.one_mul, Nat.add_sub_cancel, Nat.reduceEqDiff, Nat.reduceAdd, Nat.reduceMul, Nat.reduceSub, Nat.reduceLeDiff, Nat.reduceLT, Nat.reduceDiv, Nat.reduceMod]
      have id : itr (fun c s => chs (wgh Y n l) t (c + 1) (w ||| oneI c) s) c (20 - c) s' = s' := by
        cases t with
        | zero =>
          have : c = 20 := by omega
          subst this; rfl
        | succ t => exact itr_id _ _ _ (fun d s a b => chs_id t (d + 1) _ s (by omega) (by omega))
      rw [id] at y3
      rw [y3] at y2
      exact k y y1 y2
    · have e2 : nI (t + 1) - nI 1 = nI t := by rw [pk_sub (by omega)]; rfl
      simp (disch := first | assumption | omega) only [prv_n, nxt_n, q_sw, mc4, mc6, mc8, mc20, mc24, mc100, nv_rd, nb_rd, wr_rd, nI_lit, nI_add, pk_mul, pk_sub, q_div, cl_nI, vpi, q_eq, q_le, q_lt, n1_eq, n1_eq', n1_le, n1_lt, n1_ge, n1_gt, i_0m1, nlt_t, nlt_f, nle_t, nle_f, neq_f, f_below, f_within, f_isCorner, f_isIn, f_isCornerM, f_isStreet, f_isHouse, f_isCrew, f_isRow, f_has10, f_has0, jx_I, jx_N, jx_m1, jr_I, jr_N1, jr_N2, wr_2, isB_0, isB_1, true_and, and_true, and_self, false_and, and_false, true_or, or_true, false_or, or_false, not_true_eq_false, not_false_eq_true, forall_const, implies_true, false_implies, ne_eq, eq_self, if_true, if_false, Nat.zero_add, Nat.add_zero, Nat.mul_zero, Nat.zero_mul, Nat.mul_one, Nat.one_mul, Nat.add_sub_cancel, Nat.reduceEqDiff, Nat.reduceAdd, Nat.reduceMul, Nat.reduceSub, Nat.reduceLeDiff, Nat.reduceLT, Nat.reduceDiv, Nat.reduceMod, e2]
      refine c_choose hn t (c + 1) (w ||| oneI c) s' y _ (by omega) (by omega) y2 (fun z z1 z2 => ?_)
      refine hL _ _ _ (by omega) ⟨c + 1, _, by omega, rfl, rfl, y1.tr z1, z2, ?_⟩
      rw [← y3]
      obtain ⟨m, hm⟩ : ∃ m, 20 - c = m + 1 := ⟨20 - c - 1, by omega⟩
      rw [hm, show 20 - (c + 1) = m by omega]
      rfl
def StM (Y : Nat → Nat → Int32) (n : Nat) (x : ab_X) (s : Nat × Int32) : Prop := keepM Y x.1 ∧ (∀ c, c < 20 → x.1 328 c = nI (caN Y n c)) ∧ x.1 246 109 = pI s.1 ∧ x.1 246 110 = s.2 ∧ s.1 ≤ 4000
theorem m_weigh {Y : Nat → Nat → Int32} (wY : WW Y) {n l : Nat} (hl : l ≤ 100) (hn : n ≤ 60) {x : ab_X} {s : Nat × Int32} {w : Int32} {R : Int32 → Int32 → Int32 → Int32 → ab_X → (ab_X → Prop) → Prop} (h : StM Y n x s) {K : ab_X → Prop} (k : ∀ y, ap x y 246 109 110 → StM Y n y (wgh Y n l s w) → K y) : Lp2 (lX12_plans_46 R w (nI l) x K) (nI 0) (nI 0) := by
  obtain ⟨h1, h2, h3, h4, h5⟩ := h
  refine Lp2.seq 20 (fun c => nI (smN Y n l w c)) (fun c => nI c) rfl rfl (fun c hc L hL => ?_) (fun L => ?_)
  · unfold lX12_plans_46
    refine ⟨fun q => absurd q (by simp only [nI_lit]; rw [q_le (by omega) (by omega)]; omega), fun _ => ?_⟩
    refine ⟨(vpi hc (by omega)).mpr trivial, ?_⟩
    have cl := caN_le Y hn c
    rw [cl_nI (by omega), h2 c hc]
    simp only [nI_lit]
    rw [q_eq (by omega) (by omega)]
    refine ⟨fun _ => ⟨(vpi hc (by omega)).mpr trivial, m_pts h1 wY hl hc ?_⟩, fun q => ?_⟩
    · unfold wX12_plans_86
      rw [pk_mul, nI_add, nI_lit, nI_add]
      exact hL
    · unfold wX12_plans_86
      rw [nI_add, nI_lit, nI_add]
      have hL' : L (nI (smN Y n l w c + caN Y n c * pts Y l c w)) (nI (c + 1)) := hL
      rw [q, Nat.zero_mul] at hL'
      exact hL'
  · have le := smN_le (Y := Y) (l := l) (w := w) hn 20
    unfold lX12_plans_46
    refine ⟨fun _ => ?_, fun q => absurd (by decide) q⟩
    rw [h3, pI_lt (by omega) (by omega)]
    have wl := wgh_le (Y := Y) (l := l) (w := w) hn h5
    unfold wgh at k wl
    by_cases q : s.1 < smN Y n l w 20 + 1
    · rw [if_pos q] at k wl
      refine ⟨fun _ => k _ ⟨fun c k q => by simp (disch := omega) only [wr_ne], rfl⟩ ⟨⟨fun c hc => ?_, fun f hf => ?_⟩, fun c hc => ?_, ?_, ?_, wl⟩, fun u => absurd q u⟩
      · rw [wr_n (by unfold kM at hc; omega), wr_n (by unfold kM at hc; omega)]; exact h1.1 c hc
      · rw [wr_ne (by unfold kS at hf; omega), wr_ne (by unfold kS at hf; omega)]; exact h1.2 f hf
      · simp (disch := omega) only [wr_ne]; exact h2 c hc
      · rw [wr_ne (by omega), wr_e]; rfl
      · rw [wr_e]
    · rw [if_neg q] at k wl
      exact ⟨fun u => absurd u q, fun _ => k x ap.rfl' ⟨h1, h2, h3, h4, h5⟩⟩
theorem m_plans {Y : Nat → Nat → Int32} (wY : WW Y) {n l : Nat} (hl : l ≤ 100) (hn : n ≤ 60) : ∀ t f w s x K, t ≤ 20 → f ≤ 20 → StM Y n x s → (∀ y, ap x y 246 109 110 → StM Y n y (chs (wgh Y n l) t f w s) → K y) → famX12_plans (t + 1) w (nI f) (nI t) (nI l) x K
  | 0, f, w, s, x, K, ht, hf, h, k => by
    show bX12_plans _ _ _ _ _ _ _
    unfold bX12_plans
    simp (disch := first | assumption | omega) only [prv_n, nxt_n, q_sw, mc4, mc6, mc8, mc20, mc24, mc100, nv_rd, nb_rd, wr_rd, nI_lit, nI_add, pk_mul, pk_sub, q_div, cl_nI, vpi, q_eq, q_le, q_lt, n1_eq, n1_eq', n1_le, n1_lt, n1_ge, n1_gt, i_0m1, nlt_t, nlt_f, nle_t, nle_f, neq_f, f_below, f_within, f_isCorner, f_isIn, f_isCornerM, f_isStreet, f_isHouse, f_isCrew, f_isRow, f_has10, f_has0, jx_I, jx_N, jx_m1, jr_I, jr_N1, jr_N2, wr_2, isB_0, isB_1, true_and, and_true, and_self, false_and, and_false, true_or, or_true, false_or, or_false, not_true_eq_false, not_false_eq_true, forall_const, implies_true, false_implies, ne_eq, eq_self, if_true, if_false, Nat.zero_add, Nat.add_zero, Nat.mul_zero, Nat.zero_mul, Nat.mul_one, Nat.one_mul, Nat.add_sub_cancel, Nat.reduceEqDiff, Nat.reduceAdd, Nat.reduceMul, Nat.reduceSub, Nat.reduceLeDiff, Nat.reduceLT, Nat.reduceDiv, Nat.reduceMod]
    exact m_weigh wY hl hn h k
  | t + 1, f, w, s, x, K, ht, hf, h, k => by
    show bX12_plans (famX12_plans (t + 1)) _ _ _ _ _ _
    unfold bX12_plans
    simp (disch := first | assumption | omega) only [prv_n, nxt_n, q_sw, mc4, mc6, mc8, mc20, mc24, mc100, nv_rd, nb_rd, wr_rd, nI_lit, nI_add, pk_mul, pk_sub, q_div, cl_nI, vpi, q_eq, q_le, q_lt, n1_eq, n1_eq', n1_le, n1_lt, n1_ge, n1_gt, i_0m1, nlt_t, nlt_f, nle_t, nle_f, neq_f, f_below, f_within, f_isCorner, f_isIn, f_isCornerM, f_isStreet, f_isHouse, f_isCrew, f_isRow, f_has10, f_has0, jx_I, jx_N, jx_m1, jr_I, jr_N1, jr_N2, wr_2, isB_0, isB_1, true_and, and_true, and_self, false_and, and_false, true_or, or_true, false_or, or_false, not_true_eq_false, not_false_eq_true, forall_const, implies_true, false_implies, ne_eq, eq_self, if_true, if_false, Nat.zero_add, Nat.add_zero, Nat.mul_zero, Nat.zero_mul, Nat.mul_one, Nat.one_mul, Nat.add_sub_cancel, Nat.reduceEqDiff, Nat.reduceAdd, Nat.reduceMul, Nat.reduceSub, Nat.reduceLeDiff, Nat.reduceLT, Nat.reduceDiv, Nat.reduceMod]
    refine Lp2.ind (fun ii a y => ∃ c s', c ≤ 20 ∧ ii = 20 - c ∧ a = nI c ∧ ap x y 246 109 110 ∧ StM Y n y s' ∧ itr (fun c s => chs (wgh Y n l) t (c + 1) (w ||| oneI c) s) c (20 - c) s' = chs (wgh Y n l) (t + 1) f w s) (20 - f) ⟨f, s, hf, rfl, rfl, ap.rfl', h, rfl⟩ ?_
    rintro ii a y ⟨c, s', hc, hii, rfl, y1, y2, y3⟩ L hL
    unfold lX12_plans_7
    by_cases e : c = 20
    · subst e
      simp (disch := first | assumption | omega) only [prv_n, nxt_n, q_sw, mc4, mc6, mc8, mc20, mc24, mc100, nv_rd, nb_rd, wr_rd, nI_lit, nI_add, pk_mul, pk_sub, q_div, cl_nI, vpi, q_eq, q_le, q_lt, n1_eq, n1_eq', n1_le, n1_lt, n1_ge, n1_gt, i_0m1, nlt_t, nlt_f, nle_t, nle_f, neq_f, f_below, f_within, f_isCorner, f_isIn, f_isCornerM, f_isStreet, f_isHouse, f_isCrew, f_isRow, f_has10, f_has0, jx_I, jx_N, jx_m1, jr_I, jr_N1, jr_N2, wr_2, isB_0, isB_1, true_and, and_true, and_self, false_and, and_false, true_or, or_true, false_or, or_false, not_true_eq_false, not_false_eq_true, forall_const, implies_true, false_implies, ne_eq, eq_self, if_true, if_false, Nat.zero_add, Nat.add_zero, Nat.mul_zero, Nat.zero_mul, Nat.mul_one, Nat.one_mul, Nat.add_sub_cancel, Nat.reduceEqDiff, Nat.reduceAdd, Nat.reduceMul, Nat.reduceSub, Nat.reduceLeDiff, Nat.reduceLT, Nat.reduceDiv, Nat.reduceMod]
      have y3' : s' = chs (wgh Y n l) (t + 1) f w s := y3
      rw [y3'] at y2
      exact k y y1 y2
    · have e2 : nI (t + 1) - nI 1 = nI t := by rw [pk_sub (by omega)]; rfl
      simp (disch := first | assumption | omega) only [prv_n, nxt_n, q_sw, mc4, mc6, mc8, mc20, mc24, mc100, nv_rd, nb_rd, wr_rd, nI_lit, nI_add, pk_mul, pk_sub, q_div, cl_nI, vpi, q_eq, q_le, q_lt, n1_eq, n1_eq', n1_le, n1_lt, n1_ge, n1_gt, i_0m1, nlt_t, nlt_f, nle_t, nle_f, neq_f, f_below, f_within, f_isCorner, f_isIn, f_isCornerM, f_isStreet, f_isHouse, f_isCrew, f_isRow, f_has10, f_has0, jx_I, jx_N, jx_m1, jr_I, jr_N1, jr_N2, wr_2, isB_0, isB_1, true_and, and_true, and_self, false_and, and_false, true_or, or_true, false_or, or_false, not_true_eq_false, not_false_eq_true, forall_const, implies_true, false_implies, ne_eq, eq_self, if_true, if_false, Nat.zero_add, Nat.add_zero, Nat.mul_zero, Nat.zero_mul, Nat.mul_one, Nat.one_mul, Nat.add_sub_cancel, Nat.reduceEqDiff, Nat.reduceAdd, Nat.reduceMul, Nat.reduceSub, Nat.reduceLeDiff, Nat.reduceLT, Nat.reduceDiv, Nat.reduceMod, e2]
      refine m_plans wY hl hn t (c + 1) (w ||| oneI c) s' y _ (by omega) (by omega) y2 (fun z z1 z2 => ?_)
      refine hL _ _ _ (by omega) ⟨c + 1, _, by omega, rfl, rfl, y1.tr z1, z2, ?_⟩
      rw [← y3]
      obtain ⟨m, hm⟩ : ∃ m, 20 - c = m + 1 := ⟨20 - c - 1, by omega⟩
      rw [hm, show 20 - (c + 1) = m by omega]
      rfl
