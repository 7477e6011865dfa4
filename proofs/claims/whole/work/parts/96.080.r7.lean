/-! A MINUTE, 7: crews at work, the program. -/
def rsO (s : ab_X) (j : Nat) : ab_X := wr (wr s 295 j (nI 0)) 291 j (-nI 1)
def rsN (s : ab_X) : Nat → ab_X
  | 0 => s
  | j + 1 => rsO (rsN s j) j
theorem rsN_o (s : ab_X) : ∀ j, (∀ d, d ≠ 291 → d ≠ 295 → (rsN s j).1 d = s.1 d) ∧ (rsN s j).2 = s.2
  | 0 => ⟨fun _ _ _ => rfl, rfl⟩
  | j + 1 => by
    obtain ⟨a, b⟩ := rsN_o s j
    refine ⟨fun d p q => ?_, b⟩
    show (wr (wr (rsN s j) 295 j (nI 0)) 291 j (-nI 1)).1 d = s.1 d
    rw [wr_n p, wr_n q]; exact a d p q
def tkP (Y : Nat → Nat → Int32) (h f : Nat) : Bool := decide (Y 274 (6 * h + f) = nI 0) && decide (¬ Y 272 (6 * h + f) = nI 0)
def tkO (Y : Nat → Nat → Int32) (j : Nat) : Int32 := lastB (tkP Y (nv Y 290 j)) (min (nv Y 256 (nv Y 290 j)) (nv Y 283 j))
def tkA (s : ab_X) (h f : Nat) : ab_X := wr (wr s 272 (6 * h + f) (nI (nv s.1 272 (6 * h + f) - min 2 (nv s.1 272 (6 * h + f))))) 262 h (s.1 262 h + nI (min 2 (nv s.1 272 (6 * h + f))))
def tkS (s : ab_X) (j : Nat) : ab_X := if nv s.1 286 j = 2 ∧ nv s.1 279 j = 2 ∧ ¬ tkO s.1 j = -nI 1 then tkA s (nv s.1 290 j) (tkO s.1 j).toNatClampNeg else s
abbrev AR : Type := Option (Nat × Nat × Nat × Int32)
def aimC (Y : Nat → Nat → Int32) (W : Nat → Int32) (j : Nat) : Prop := nv Y 286 j = 2 ∧ nv Y 279 j < 2 ∧ nv Y 293 j + nv Y 285 j ≤ nv Y 246 1 ∧ ¬ rmI Y W (nv Y 290 j) (tpf Y (nv Y 290 j) (nv Y 283 j)) = -nI 1
def aimR (Y : Nat → Nat → Int32) (W : Nat → Int32) (j : Nat) : Nat := (rmI Y W (nv Y 290 j) (tpf Y (nv Y 290 j) (nv Y 283 j))).toNatClampNeg
noncomputable def aimV (Y : Nat → Nat → Int32) (W : Nat → Int32) (j : Nat) : Int32 := lvV Y j (nv Y 290 j) (aimR Y W j)
noncomputable def aimO (Y : Nat → Nat → Int32) (W : Nat → Int32) (j : Nat) : AR := @ite _ (aimC Y W j) (Classical.propDecidable _) (some (aimR Y W j, nv Y 277 (hdr Y (nv Y 254 (nv Y 290 j))).toNatClampNeg, (if aimV Y W j = nI 0 then nv Y 284 j else nv Y 284 j / 2), (if aimV Y W j = nI 0 then nI (aimR Y W j / nv Y 257 (nv Y 290 j)) else -nI 1))) none
abbrev WS : Type := ab_X × (Nat → Int32) × (Nat → AR)
noncomputable def wk1 (q : WS) (j : Nat) : WS := match aimO q.1.1 q.2.1 j with
  | some (r, m, a, fl) => (wr q.1 291 j fl, updI q.2.1 (24 * nv q.1.1 290 j + r) (q.2.1 (24 * nv q.1.1 290 j + r) + nI a), fun i => if i = j then some (r, m, a, fl) else q.2.2 i)
  | none => (tkS q.1 j, q.2.1, q.2.2)
noncomputable def wkN (s : ab_X) : Nat → WS
  | 0 => (rsN s (nv s.1 246 58), fun _ => nI 0, fun _ => none)
  | j + 1 => wk1 (wkN s j) j
def cR (y : ab_X) (i : Nat) : AR → Prop
  | none => y.1 (82 + i) 17 = nI 0 ∧ y.1 (82 + i) 18 = -nI 1
  | some (r, m, a, _) => y.1 (82 + i) 17 = nI a ∧ y.1 (82 + i) 18 = nI m ∧ y.1 (82 + i) 19 = nI r
def CW (n : Nat) (y : ab_X) (q : WS) : Prop := Inv2 y q.1 ∧ (y.1 11 7 = nI 0 → ∀ k, k < 288 → y.1 14 k = q.2.1 k) ∧ ∀ i, i < n → cR y i (q.2.2 i)
/-- what a record holds -/
theorem aim_d {Y : Nat → Nat → Int32} (w : WW Y) {W : Nat → Int32} {j : Nat} (hj : j < nv Y 246 58) : (aimO Y W j = none ∧ ¬ aimC Y W j) ∨ ∃ r m a fl, aimO Y W j = some (r, m, a, fl) ∧ aimC Y W j ∧ nv Y 290 j < nv Y 246 31 ∧ r < nv Y 256 (nv Y 290 j) * nv Y 257 (nv Y 290 j) ∧ m < nv Y 246 56 ∧ 5 ≤ a ∧ a ≤ 500 ∧ aimR Y W j = r ∧ rmI Y W (nv Y 290 j) (tpf Y (nv Y 290 j) (nv Y 283 j)) = nI r ∧ (∃ hd', hd' < nv Y 246 57 ∧ hdr Y (nv Y 254 (nv Y 290 j)) = nI hd' ∧ Y 277 hd' = nI m) ∧ a = (if aimV Y W j = nI 0 then nv Y 284 j else nv Y 284 j / 2) ∧ fl = (if aimV Y W j = nI 0 then nI (r / nv Y 257 (nv Y 290 j)) else -nI 1) := by
  by_cases c : aimC Y W j
  · right
    have c' := c
    obtain ⟨c1, c2, c3, c4⟩ := c'
    obtain ⟨m0, m1, m2⟩ := (w.cr.2.2.1 j hj).2.1 c1
    obtain ⟨v1, v2, v3, v3', v4, v4', -⟩ := w.ho.1 _ m1
    obtain ⟨g0, g1, g2⟩ := w.cr.2.1 j hj
    obtain ⟨gg1, gg2⟩ := g0 c2
    have l284 := (w.cr.1 j hj).2.2.2.2.2.2.2.1.2
    have rl := rm_le w.tw m1
    have b57 := w.b57
    have tp : ∃ t, t < nv Y 256 (nv Y 290 j) ∧ tpf Y (nv Y 290 j) (nv Y 283 j) = nI t := by
      rcases tpf_d (Y := Y) (h := nv Y 290 j) (A := nv Y 283 j) v3' with e | e
      · exfalso; apply c4; unfold rmI; rw [if_pos e]
      · exact e
    obtain ⟨t, ht, et⟩ := tp
    have l3 := v3.2
    have er : rmI Y W (nv Y 290 j) (tpf Y (nv Y 290 j) (nv Y 283 j)) = rmF Y W (nv Y 290 j) (ldB Y (nv Y 290 j)) ((t + 1) * nv Y 257 (nv Y 290 j)) := by
      unfold rmI; rw [et, if_neg (by rw [n1_eq' (by omega)]; exact id), cl_nI (by omega)]
    have mn : (t + 1) * nv Y 257 (nv Y 290 j) ≤ nv Y 256 (nv Y 290 j) * nv Y 257 (nv Y 290 j) := Nat.mul_le_mul_right _ ht
    rcases rmF_d Y W (nv Y 290 j) (ldB Y (nv Y 290 j)) ((t + 1) * nv Y 257 (nv Y 290 j)) with e | ⟨r, hr, e, -⟩
    · exact absurd (er.trans e) c4
    have eR : aimR Y W j = r := by unfold aimR; rw [er, e, cl_nI (by omega)]
    have hd : ∃ hd', hd' < nv Y 246 57 ∧ hdr Y (nv Y 254 (nv Y 290 j)) = nI hd' := by
      rcases hdr_d Y (nv Y 254 (nv Y 290 j)) with e | ⟨k, hk, e, -⟩
      · exfalso
        have : tpf Y (nv Y 290 j) (nv Y 283 j) = -nI 1 := by unfold tpf; rw [if_pos e]
        rw [et] at this
        exact (n1_eq' (by omega)).mp this
      · exact ⟨k, hk, e⟩
    obtain ⟨hd', hd1, hd2⟩ := hd
    obtain ⟨a1, a2, a3⟩ := w.mh.2 hd' hd1
    refine ⟨r, nv Y 277 hd', _, _, ?_, c, m1, by omega, a3, ?_, ?_, eR, er.trans e, ⟨hd', hd1, hd2, a2.1⟩, rfl, rfl⟩
    · unfold aimO
      rw [if_pos c, eR, hd2, cl_nI (by omega)]
    · split <;> omega
    · split <;> omega
  · left
    exact ⟨by unfold aimO; rw [if_neg c], c⟩
def dn (i : Nat) : Int32 := if i = 0 then -nI 1 else nI (i - 1)
theorem dn_m {m : Nat} : nI m - nI 1 = dn m := by
  unfold dn
  by_cases e : m = 0
  · rw [if_pos e, e, i_0m1]
  · rw [if_neg e, pk_sub (by omega)]
theorem dn_s (i : Nat) : nI i + -nI 1 = dn i := by
  unfold dn
  by_cases e : i = 0
  · rw [if_pos e, e]; decide
  · rw [if_neg e, i_pm1 _ (by omega)]
theorem lastB_no {p : Nat → Bool} : ∀ {n}, (∀ i, i < n → p i = false) → lastB p n = -nI 1
  | 0, _ => rfl
  | n + 1, h => by
    show (if p n then nI n else lastB p n) = -nI 1
    rw [h n (by omega)]
    exact lastB_no (fun i hi => h i (by omega))
theorem lastB_cut {p : Nat → Bool} {m : Nat} : ∀ {n}, m ≤ n → (∀ f, m ≤ f → f < n → p f = false) → lastB p n = lastB p m
  | 0, h, _ => by rw [show m = 0 by omega]
  | n + 1, h, z => by
    by_cases e : m = n + 1
    · rw [e]
    · show (if p n then nI n else lastB p n) = lastB p m
      rw [z n (by omega) (by omega)]
      exact lastB_cut (by omega) (fun f a b => z f a (by omega))
theorem tk_I {x s : ab_X} {h f : Nat} (i : Inv2 x s) (hh : h < nv s.1 246 31) (hf : f < 6) (h0 : s.1 274 (6 * h + f) = nI 0) : Inv2 (wr (wr x (30 + 3 * h + 2) f (nI (nv s.1 272 (6 * h + f) - min 2 (nv s.1 272 (6 * h + f))))) (30 + 3 * h) 14 (s.1 262 h + nI (min 2 (nv s.1 272 (6 * h + f))))) (tkA s h f) := by
  have b31 := i.w.b31
  have l := (i.w.ho.2.2 (6 * h + f) (by omega)).1.2
  unfold tkA Inv2
  simp (disch := omega) only [mg_wc, mg_wm]
  refine i_save (j := h) (f := f) (v := nv s.1 272 (6 * h + f) - min 2 (nv s.1 272 (6 * h + f))) i ?_ hf (by omega) ?_ rfl
  · unfold nv; rw [mg_m (by decide)]; exact hh
  · rw [mg_m (by decide)]; exact h0
theorem c_takeOut {x s : ab_X} {j : Nat} (i : Inv2 x s) (hj : j < nv s.1 246 58) (h1 : nv s.1 286 j = 2) (h2 : nv s.1 279 j = 2) {K : ab_X → Prop} (k : ∀ y, Inv2 y (tkS s j) → keepT x.1 y.1 → smM x y → (∀ c, c < 30 ∨ 65 < c → y.1 c = x.1 c) → K y) : wX0_takeOut (82 + j) (30 + 3 * nv s.1 290 j) x K := by
  have w := i.w
  have b31 := w.b31
  have b58 := w.b58
  obtain ⟨m0, m1, m2⟩ := (w.cr.2.2.1 j hj).2.1 h1
  obtain ⟨t1, t2, t3, t4, -⟩ := i.r.ho.2.2.1 _ m1
  obtain ⟨v1, v2, v3, v3', v4, v4', -⟩ := w.ho.1 _ m1
  have l3 := v3.2
  obtain ⟨r0, r1, r2, r3, r4, r5, -⟩ := i.r.cr.1 j hj
  have g5 := (w.cr.1 j hj).2.2.2.2.2.2.1
  have l5 := g5.2
  generalize hh : nv s.1 290 j = h at m1 m2 t3 v3 v3' l3
  generalize hM : min (nv s.1 256 h) (nv s.1 283 j) = M
  have lM : M ≤ nv s.1 256 h := by rw [← hM]; exact Nat.min_le_left _ _
  have eO : tkO s.1 j = lastB (tkP s.1 h) M := by unfold tkO; rw [hh, hM]
  unfold wX0_takeOut
  rw [t3, v3.1, r5, g5.1, imin_I (by omega) (by omega), hM]
  have e1 : nI M - 1 = dn M := dn_m
  rw [e1]
  refine Lp1.ind (fun ii v => ∃ q, q ≤ M ∧ ii = q ∧ v = dn q ∧ ∀ f, q ≤ f → f < M → tkP s.1 h f = false) M ⟨M, Nat.le_refl _, rfl, rfl, fun f a b => by omega⟩ ?_
  rintro ii v ⟨q, hq, rfl, rfl, z⟩ L hL
  unfold lX0_takeOut_14
  by_cases e0 : ii = 0
  · have ed : dn ii = -nI 1 := by unfold dn; rw [if_pos e0]
    rw [ed]
    refine ⟨fun _ => ?_, fun u => absurd (by decide) u⟩
    have : tkS s j = s := by
      unfold tkS
      rw [if_neg (fun u => u.2.2 (by rw [eO]; exact lastB_no (fun f hf => z f (by omega) hf)))]
    rw [this] at k
    exact k x i keepT.rfl' smM.rfl' (fun _ _ => rfl)
  obtain ⟨f, rfl⟩ : ∃ f, ii = f + 1 := ⟨ii - 1, by omega⟩
  have ed : dn (f + 1) = nI f := by unfold dn; rw [if_neg e0, Nat.add_sub_cancel]
  rw [ed]
  have f6 : f < 6 := by omega
  have vf : vp_in (nI f) 6 := (vpi (by omega) (by decide)).mpr trivial
  have c2 := (i.r.ho.2.1 h f (by omega) f6).2
  have p272 := (w.ho.2.2 (6 * h + f) (by omega)).1
  have l272 := p272.2
  have next : tkP s.1 h f = false → L (nI f + (-1)) := by
    intro u
    have e2 : nI f + (-1) = dn f := dn_s f
    rw [e2]
    exact hL _ _ (by omega) ⟨f, by omega, rfl, rfl, fun g a b => by
      by_cases e : g = f
      · rw [e]; exact u
      · exact z g (by omega) b⟩
  rw [cl_nI (by omega), c2, p272.1]
  refine ⟨fun u => absurd u (nI_pos (by omega)), fun _ => ⟨vf, fun q1 => next ?_, fun q1 => ?_⟩⟩
  · have q1 : nI (nv s.1 272 (6 * h + f)) ≤ nI 0 := q1
    rw [q_le (by omega) (by omega)] at q1
    unfold tkP
    rw [decide_eq_false (p := ¬ s.1 272 (6 * h + f) = nI 0) (fun u => u (by rw [p272.1, show nv s.1 272 (6 * h + f) = 0 by omega])), Bool.and_false]
  · have q1 : ¬ nI (nv s.1 272 (6 * h + f)) ≤ nI 0 := q1
    rw [q_le (by omega) (by omega)] at q1
    refine c_fallen i.r.tr w.tw (by omega) f6 ⟨fun q2 => next ?_, fun q2 => ⟨vf, vf, vf, ?_⟩⟩
    · have q2 : ¬ s.1 274 (6 * h + f) = nI 0 := q2
      unfold tkP
      rw [decide_eq_false q2, Bool.false_and]
    · have q2 : s.1 274 (6 * h + f) = nI 0 := q2
      have ptk : tkP s.1 h f = true := by
        unfold tkP
        rw [decide_eq_true q2, decide_eq_true (p := ¬ s.1 272 (6 * h + f) = nI 0) (fun u => by rw [p272.1, q_eq (by omega) (by omega)] at u; omega)]; rfl
      have eL : lastB (tkP s.1 h) M = nI f := by
        rw [lastB_cut (m := f + 1) hq (fun g a b => z g a b)]
        show (if tkP s.1 h f then nI f else lastB (tkP s.1 h) f) = nI f
        rw [ptk]; rfl
      have eS : tkS s j = tkA s h f := by
        unfold tkS
        rw [if_pos ⟨h1, h2, by rw [eO, eL, n1_eq' (by omega)]; exact id⟩, hh, eO, eL, cl_nI (by omega)]
      have i14 := (i.r.ho.1 h (by omega)).2.2.2.2.1
      have e2 : imin 2 (nI (nv s.1 272 (6 * h + f))) = nI (min 2 (nv s.1 272 (6 * h + f))) := imin_I (by decide) (by omega)
      rw [e2, pk_sub (Nat.min_le_right _ _)]
      have e14 : (wr x (30 + 3 * h + 2) f (nI (nv s.1 272 (6 * h + f) - min 2 (nv s.1 272 (6 * h + f))))).1 (30 + 3 * h) 14 = s.1 262 h := by rw [wr_n (by omega)]; exact i14
      rw [e14]
      have g := tk_I i m1 f6 q2
      rw [← eS] at g
      exact k _ g (fun c i q => by unfold tk at q; simp (disch := omega) only [wr_ne]) ⟨fun c q => by simp (disch := omega) only [wr_n], rfl⟩ (fun c q => by simp (disch := omega) only [wr_n])
