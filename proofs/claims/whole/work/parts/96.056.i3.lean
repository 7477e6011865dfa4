/-! THE FIRE: a minute without heat; no floor stands that should have fallen; a step. -/
theorem ngT {w : Nat} (h : w < 2147483648) : (-nI w).toInt = -(w : Int) := sb_negT h
theorem bu_cold {Y : Nat → Nat → Int32} (z : ∀ k, k < 288 → Y 266 k = nI 0) {k : Nat} (hk : k < 288) : bu Y k = false := bu_f1 (by rw [nv_of (z k hk) (by decide)]; decide)
theorem gn_cold {Y : Nat → Nat → Int32} (w : TW Y) (z : ∀ k, k < 288 → Y 266 k = nI 0) {h f q : Nat} (hh : h < nv Y 246 31) (hf : f < nv Y 256 h) (hq : q < nv Y 257 h) : gnI Y h f q = -nI 10 := by
  have b := w.b
  have rm := rm_le w hh
  have rl := rmlt hf hq
  have sm1 : (f + 1) * nv Y 257 h = f * nv Y 257 h + nv Y 257 h := Nat.succ_mul _ _
  have n1 : ∀ k, k < 288 → ¬ bu Y k = true := fun k hk u => by rw [bu_cold z hk] at u; exact absurd u (by decide)
  have e1 : ∀ sd g, gn1 Y (24 * h + (f * nv Y 257 h + q)) q sd g = g := fun sd g => by unfold gn1; rw [if_neg (fun u => n1 _ (by omega) u.2)]
  have e2 : ∀ sd g, gn2 Y (24 * h + (f * nv Y 257 h + q)) q (nv Y 257 h) sd g = g := fun sd g => by unfold gn2; rw [if_neg (fun u => n1 _ (by have := rmlt hf u.1; omega) u.2)]
  have e3 : ∀ sh g, gn3 Y (24 * h + (f * nv Y 257 h + q)) f q (nv Y 257 h) sh g = g := fun sh g => by unfold gn3; rw [if_neg (fun u => n1 _ (by omega) u.2)]
  have e4 : ∀ g, gn4 Y (24 * h + (f * nv Y 257 h + q)) f (nv Y 256 h) (nv Y 257 h) g = g := fun g => by unfold gn4; rw [if_neg (fun u => n1 _ (by have := rmlt u.1 hq; omega) u.2)]
  unfold gnI
  rw [e4, e3, e2, e1, if_neg (n1 _ (by omega))]
theorem gl_cold {Y : Nat → Nat → Int32} (w : TW Y) (z : ∀ k, k < 288 → Y 266 k = nI 0) {h f : Nat} {o : Int32} (ho : o = -nI 1 ∨ ∃ j, j < nv Y 246 31 ∧ o = nI j) : glI Y h o f = nI 0 := by
  have b := w.b
  unfold glI
  rcases ho with rfl | ⟨j, hj, rfl⟩
  · rw [if_pos rfl]
  · rw [if_neg (n1_eq' (by omega)).mp, cl_nI (by omega)]
    split
    · rfl
    · rename_i q
      have rm := rm_le w hj
      have : bf Y j f = 0 := cn_0 (fun i hi => bu_cold z (by have := rmlt (show f < nv Y 256 j by omega) hi; omega))
      rw [this, pk_mul, Nat.zero_mul]
theorem nh_cold {Y : Nat → Nat → Int32} (w : TW Y) {Wa : Nat → Int32} (z : ∀ k, k < 288 → Y 266 k = nI 0) (hw : ∀ k, k < 288 → ∃ n, n ≤ 100000 ∧ Wa k = nI n) {h f q : Nat} (hh : h < nv Y 246 31) (hf : f < nv Y 256 h) (hq : q < nv Y 257 h) : nhI Y Wa h f q = nI 0 := by
  have b := w.b
  have rm := rm_le w hh
  have rl := rmlt hf hq
  unfold nhI
  split
  · obtain ⟨n, hn, e⟩ := hw (24 * h + (f * nv Y 257 h + q)) (by omega)
    rw [gn_cold w z hh hf hq, gl_cold w z ((prv_d Y h).imp id (fun ⟨j, h1, e⟩ => ⟨j, by omega, e⟩)), gl_cold w z (nxt_d Y _ h), z _ (by omega), e, q_div (by omega) (by decide) (by decide)]
    have ev : nI 0 + ((-nI 10 + (nI 0 + nI 0)) - nI (n / 4)) = -nI (10 + n / 4) := by
      have a0 : nI 0 + nI 0 = nI 0 := rfl
      have a1 : -nI 10 + nI 0 = -nI 10 := Int32.add_zero _
      have a2 : nI 0 + (-nI 10 - nI (n / 4)) = -nI 10 - nI (n / 4) := Int32.zero_add _
      rw [a0, a1, a2, ← nI_add, Int32.neg_add]
    rw [ev]
    have tv := ngT (w := 10 + n / 4) (by omega)
    have i1 : imin (nI 1000) (-nI (10 + n / 4)) = -nI (10 + n / 4) := by
      unfold imin
      rw [if_pos]
      rw [Int32.lt_iff_toInt_lt, tv, nI_toInt (by decide)]; omega
    rw [i1]
    unfold imax
    rw [if_neg]
    rw [Int32.lt_iff_toInt_lt, tv, nI_toInt (by decide)]; omega
  · rfl
theorem sB_cold {Y : Nat → Nat → Int32} (w : TW Y) (z : ∀ k, k < 288 → Y 266 k = nI 0) {h f : Nat} (hh : h < nv Y 246 31) (hf : f < nv Y 256 h) : ∀ q, q ≤ nv Y 257 h → sB Y h f q = Y 271 (6 * h + f)
  | 0, _ => rfl
  | q + 1, hq => by
    have b := w.b
    have rm := rm_le w hh
    have rl := rmlt hf (show q < nv Y 257 h by omega)
    show sB Y h f q + lsI Y _ = _
    rw [sB_cold w z hh hf q (by omega)]
    unfold lsI
    rw [bu_cold z (by omega), if_neg (by decide)]
    exact Int32.add_zero _
theorem fs1_cold {s : ab_X} {Wa : Nat → Int32} (w : TW s.1) (z : ∀ k, k < 288 → s.1 266 k = nI 0) (hw : ∀ k, k < 288 → ∃ n, n ≤ 100000 ∧ Wa k = nI n) : fs1 s Wa = s := by
  have b := w.b
  refine Prod.ext ?_ rfl
  funext c
  by_cases e1 : c = 266
  · subst e1
    rw [fs1_266]
    funext k
    split
    · rename_i v
      have v := vlb_t.mp v
      have rm := rm_le w v.1
      obtain ⟨f, q, hf, hq, er, ed⟩ := r_split v.2
      have e : k = 24 * (k / 24) + (f * nv s.1 257 (k / 24) + q) := by omega
      have nk := nhK_of (Wa := Wa) w v.1 hf hq
      rw [← e] at nk
      rw [nk, nh_cold w z hw v.1 hf hq, z k (by have := v.1; omega)]
    · rfl
  · by_cases e2 : c = 267
    · subst e2
      rw [fs1_267]
      funext k
      split
      · rename_i v
        have v := vlb_t.mp v
        unfold lsI
        rw [bu_cold z (by have := v.1; omega), if_neg (by decide)]
        exact Int32.sub_zero _
      · rfl
    · by_cases e3 : c = 271
      · subst e3
        rw [fs1_271]
        funext k
        unfold fb1
        split
        · rename_i q
          rw [sB_cold w z q.1 q.2 _ (Nat.le_refl _), show 6 * (k / 6) + k % 6 = k by omega]
        · rfl
      · exact fs1_o e1 e2 e3
theorem flD_cold {V : Int32} {s : ab_X} (L : WLd s.1) {h : Nat} (hh : h < nv s.1 246 31) : ∀ j, j < nv s.1 256 h → flD V h j s = s
  | 0, _ => rfl
  | j + 1, hj => by
    show flD V h j (flF V s h j) = s
    have : flF V s h j = s := by
      unfold flF
      rw [if_neg (fun u => u.2 (L h j hh hj u.1))]
    rw [this]
    exact flD_cold L hh j (by omega)
theorem flA_cold {V : Int32} {s : ab_X} (w : TW s.1) (L : WLd s.1) : ∀ m h, h + m = nv s.1 246 31 → flA V m h s = s
  | 0, h, _ => rfl
  | m + 1, h, e => by
    show flA V m (h + 1) (flD V h (nv s.1 256 h - 1) s) = s
    have := (w.2.1.1 h (by omega)).2.2.2.1
    rw [flD_cold L (by omega) _ (by omega)]
    exact flA_cold w L m (h + 1) (by omega)
theorem flF_274 {V : Int32} {s : ab_X} {h g k : Nat} (hk : k ≠ 6 * h + (g + 1)) : (flF V s h g).1 274 k = s.1 274 k := by
  unfold flF
  split
  · unfold drV
    split
    · rw [drS_274, if_neg hk]
    · rw [hrS_o (c := 274) (by decide)]; unfold plS; rw [wr_n (by decide), wr_n (by decide), drS_274, if_neg hk]
  · rfl
theorem flF_one {V : Int32} {s : ab_X} {h g : Nat} (u : (flF V s h g).1 274 (6 * h + (g + 1)) = nI 0) : ld s.1 h (g + 1) < nI (brN s.1 h) := by
  apply Classical.byContradiction
  intro nl
  unfold flF at u
  by_cases q : s.1 274 (6 * h + (g + 1)) = nI 0
  · rw [if_pos ⟨q, nl⟩] at u
    unfold drV at u
    split at u
    · rw [drS_274, if_pos rfl] at u; exact absurd u (by decide)
    · rw [hrS_o (c := 274) (by decide)] at u
      unfold plS at u
      rw [wr_n (by decide), wr_n (by decide), drS_274, if_pos rfl] at u; exact absurd u (by decide)
  · rw [if_neg (fun u => q u.1)] at u; exact q u
theorem flK.ld {s t : ab_X} (h : flK s t) (i f : Nat) : Jvm.Pilot.CCityBrigadeLaw_law_r2506_aec212.ld t.1 i f = Jvm.Pilot.CCityBrigadeLaw_law_r2506_aec212.ld s.1 i f := by unfold Jvm.Pilot.CCityBrigadeLaw_law_r2506_aec212.ld; rw [h.1 271 (by decide) (by decide)]
theorem flK.br {s t : ab_X} (h : flK s t) (i : Nat) : brN t.1 i = brN s.1 i := by unfold brN; rw [h.nw (c := 257) (by decide) (by decide), h.nw (c := 255) (by decide) (by decide)]
theorem flD_274 {V : Int32} {h k : Nat} : ∀ (j : Nat) (s : ab_X), (k < 6 * h + 1 ∨ 6 * h + j < k) → (flD V h j s).1 274 k = s.1 274 k
  | 0, s, _ => rfl
  | j + 1, s, hk => by
    show (flD V h j (flF V s h j)).1 274 k = _
    rw [flD_274 j _ (by omega), flF_274 (by omega)]
theorem flD_L {V : Int32} {h : Nat} : ∀ (j : Nat) (s : ab_X) (g : Nat), g + 1 ≤ j → (flD V h j s).1 274 (6 * h + (g + 1)) = nI 0 → ld s.1 h (g + 1) < nI (brN s.1 h)
  | 0, s, g, hg, _ => by omega
  | j + 1, s, g, hg, u => by
    have u' : (flD V h j (flF V s h j)).1 274 (6 * h + (g + 1)) = nI 0 := u
    by_cases e : g = j
    · subst e
      rw [flD_274 g _ (by omega)] at u'
      exact flF_one u'
    · have := flD_L j (flF V s h j) g (by omega) u'
      rw [flF_k.ld, flF_k.br] at this
      exact this
theorem flA_274 {V : Int32} {k : Nat} : ∀ (m h : Nat) (s : ab_X), k < 6 * h → (flA V m h s).1 274 k = s.1 274 k
  | 0, h, s, _ => rfl
  | m + 1, h, s, hk => by
    show (flA V m (h + 1) (flD V h (nv s.1 256 h - 1) s)).1 274 k = _
    rw [flA_274 m (h + 1) _ (by omega), flD_274 _ _ (by omega)]
theorem flA_L {V : Int32} : ∀ (m h : Nat) (s : ab_X), TW s.1 → h + m = nv s.1 246 31 → ∀ i g, h ≤ i → i < nv s.1 246 31 → g + 1 < nv s.1 256 i → (flA V m h s).1 274 (6 * i + (g + 1)) = nI 0 → ld s.1 i (g + 1) < nI (brN s.1 i)
  | 0, h, s, w, e, i, g, h1, h2, _, _ => by omega
  | m + 1, h, s, w, e, i, g, h1, h2, h3, u => by
    have u' : (flA V m (h + 1) (flD V h (nv s.1 256 h - 1) s)).1 274 (6 * i + (g + 1)) = nI 0 := u
    have k1 := flD_k (V := V) (h := h) (nv s.1 256 h - 1) s
    by_cases e1 : i = h
    · subst e1
      have f6 := (w.2.1.1 i h2).2.2.1.2
      rw [flA_274 m (i + 1) _ (by omega)] at u'
      exact flD_L _ s g (by omega) u'
    · have w' : TW (flD V h (nv s.1 256 h - 1) s).1 := flD_tw _ _ w (by omega) (by have := (w.2.1.1 h (by omega)).2.2.2.1; omega)
      have := flA_L m (h + 1) (flD V h (nv s.1 256 h - 1) s) w' (by rw [k1.ns]; omega) i g (by omega) (by rw [k1.ns]; exact h2) (by rw [k1.nw (c := 256) (by decide) (by decide)]; exact h3) u'
      rw [k1.ld, k1.br] at this
      exact this
theorem flA_WLd {V : Int32} {s : ab_X} (w : TW s.1) : WLd (flA V (nv s.1 246 31) 0 s).1 := by
  intro i g h1 h2 u
  have k1 := flA_k (V := V) (nv s.1 246 31) 0 s
  rw [k1.ns] at h1
  rw [k1.nw (c := 256) (by decide) (by decide)] at h2
  rw [k1.ld, k1.br]
  exact flA_L _ 0 s w (by omega) i g (Nat.zero_le _) h1 h2 u
/-- one minute of fire, people and crews aside -/
def stS (s : ab_X) (Wa : Nat → Int32) : ab_X := flA (nI 0) (nv s.1 246 31) 0 (fs1 s Wa)
theorem fs1_n {s : ab_X} {Wa : Nat → Int32} : nv (fs1 s Wa).1 246 31 = nv s.1 246 31 := fs1_nv (by decide) (by decide) (by decide)
theorem stS_tw {s : ab_X} {Wa : Nat → Int32} (w : TW s.1) : TW (stS s Wa).1 := flA_tw _ _ _ (fs1_tw w) (by rw [fs1_n]; omega)
theorem stS_L {s : ab_X} {Wa : Nat → Int32} (w : TW s.1) : WLd (stS s Wa).1 := by
  have := flA_WLd (V := nI 0) (fs1_tw (Wa := Wa) w)
  rw [fs1_n] at this
  exact this
theorem c_step {x s : ab_X} {Wa : Nat → Int32} {v : Nat} (hv : v = 11 ∨ v = 19) (t : TR v x.1 s.1) (w : TW s.1) (L : WLd s.1) (hw : x.1 v 7 = nI 0 → ∀ k, k < 288 → x.1 (v + 3) k = Wa k) (hb : ∀ k, k < 288 → ∃ n, n ≤ 100000 ∧ Wa k = nI n) {K : ab_X → Prop} (k : ∀ z : ab_X, TR v z.1 (stS s Wa).1 → (∀ c, c < v ∨ v + 7 < c → z.1 c = x.1 c) → (∀ f, f ≠ 7 → z.1 v f = x.1 v f) → z.1 (v + 3) = x.1 (v + 3) → z.2 = x.2 → K z) : wX3_step v (nI (nv s.1 246 31)) x K := by
  by_cases q : x.1 v 7 = nI 0
  · refine c_half hv t w (hw q) q (fun z tz z1 z2 z3 z4 => ?_)
    have n1 : nv (fs1 s Wa).1 246 31 = nv s.1 246 31 := fs1_n
    have := c_fallsA hv tz (fs1_tw w) (K := K) (fun y ty y1 y2 => by
      rw [n1] at ty
      exact k y ty (fun c hc => by rw [y1 c (by omega) (by omega) (by omega)]; exact z1 c hc) (fun f hf => by rw [y1 v (by omega) (by omega) (by omega)]; exact z2 f hf) (by rw [y1 _ (by omega) (by omega) (by omega)]; exact z3) (y2.trans z4))
    rw [n1] at this
    exact this
  · have z := t.2.2.2.2.2 q
    have e : stS s Wa = s := by
      unfold stS
      rw [fs1_cold w z hb]
      exact flA_cold w L _ 0 (by omega)
    unfold wX3_step
    simp (disch := first | assumption | omega) only [prv_n, nxt_n, q_sw, mc4, mc6, mc8, mc20, mc24, mc100, nv_rd, nb_rd, wr_rd, nI_lit, nI_add, pk_mul, pk_sub, q_div, cl_nI, vpi, q_eq, q_le, q_lt, n1_eq, n1_eq', n1_le, n1_lt, n1_ge, n1_gt, i_0m1, nlt_t, nlt_f, nle_t, nle_f, neq_f, f_below, f_within, f_isCorner, f_isIn, f_isCornerM, f_isStreet, f_isHouse, f_isCrew, f_isRow, f_has10, f_has0, jx_I, jx_N, jx_m1, jr_I, jr_N1, jr_N2, wr_2, isB_0, isB_1, true_and, and_true, and_self, false_and, and_false, true_or, or_true, false_or, or_false, not_true_eq_false, not_false_eq_true, forall_const, implies_true, false_implies, ne_eq, eq_self, if_true, if_false, Nat.zero_add, Nat.add_zero, Nat.mul_zero, Nat.zero_mul, Nat.mul_one, Nat.one_mul, Nat.add_sub_cancel, Nat.reduceEqDiff, Nat.reduceAdd, Nat.reduceMul, Nat.reduceSub, Nat.reduceLeDiff, Nat.reduceLT, Nat.reduceDiv, Nat.reduceMod, q]
    exact k x (by rw [e]; exact t) (fun _ _ => rfl) (fun _ _ => rfl) rfl rfl
