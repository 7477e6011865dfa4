/-! what: water elsewhere. -/
theorem wrA_e {x : ab_X} {c : Nat} {f : Nat → Int32} : (wrA x c f).1 c = f := if_pos rfl
theorem wrA_n {x : ab_X} {c d : Nat} {f : Nat → Int32} (h : d ≠ c) : (wrA x c f).1 d = x.1 d := if_neg h
theorem c_become {x : ab_X} {K : ab_X → Prop} (bf : ∀ k, k < 72 → isB (x.1 16 k)) (b7 : isB (x.1 11 7)) (k : ∀ y : ab_X, (∀ c, c ≠ 19 → c ≠ 20 → c ≠ 21 → c ≠ 22 → c ≠ 23 → c ≠ 24 → y.1 c = x.1 c) → (∀ f, f ≠ 7 → y.1 19 f = x.1 19 f) → y.2 = x.2 → (∀ j, j < 288 → y.1 20 j = x.1 12 j ∧ y.1 21 j = x.1 13 j ∧ y.1 22 j = nI 0) → (∀ j, j < 72 → y.1 23 j = x.1 15 j ∧ y.1 24 j = x.1 16 j) → y.1 19 7 = x.1 11 7 → K y) : wX3_become 19 11 x K := by
  unfold wX3_become
  simp (disch := omega) only [Nat.reduceAdd, wrA_e, wrA_n, nI_lit, cl_nI, q_lt, Nat.lt_irrefl, not_false_eq_true, true_and, Nat.reduceLT, Nat.not_lt_zero, Nat.zero_add, Nat.le_refl]
  refine ⟨fun i hi => ?_, ?_⟩
  · exact bf i hi
  · refine c_fill (by decide) (fun y y1 y2 y3 y4 => ?_)
    have a7 : y.1 11 7 = x.1 11 7 := by rw [y1 11 (by decide)]; simp (disch := omega) only [wrA_n]
    refine ⟨by rw [a7]; exact b7, ?_⟩
    refine k _ (fun c h1 h2 h3 h4 h5 h6 => ?_) (fun f hf => ?_) y2 (fun j hj => ⟨?_, ?_, ?_⟩) (fun j hj => ⟨?_, ?_⟩) ?_
    · rw [wr_n h1, y1 c h4]; simp (disch := omega) only [wrA_n]
    · rw [wr_k hf, y1 19 (by decide)]; simp (disch := omega) only [wrA_n]
    · rw [wr_n (by decide), y1 20 (by decide)]; simp (disch := omega) only [wrA_n, wrA_e]
      rw [pk_cpy_in (by omega) (by omega)]; simp
    · rw [wr_n (by decide), y1 21 (by decide)]; simp (disch := omega) only [wrA_n, wrA_e]
      rw [pk_cpy_in (by omega) (by omega)]; simp
    · rw [wr_n (by decide)]; exact y3 j hj
    · rw [wr_n (by decide), y1 23 (by decide)]; simp (disch := omega) only [wrA_n, wrA_e]
      rw [pk_cpy_in (by omega) (by omega)]; simp
    · rw [wr_n (by decide), y1 24 (by decide)]; simp (disch := omega) only [wrA_n, wrA_e]
      rw [pk_cpy_in (by omega) (by omega)]; simp
    · rw [wr_e]; exact a7
/-- what falls without people leave as it is -/
def flO (s t : ab_X) : Prop := (∀ c, c ≠ 266 → c ≠ 267 → c ≠ 274 → t.1 c = s.1 c) ∧ (∀ k, 288 ≤ k → t.1 266 k = s.1 266 k ∧ t.1 267 k = s.1 267 k) ∧ (∀ k, 72 ≤ k → t.1 274 k = s.1 274 k) ∧ t.2 = s.2
theorem flO.tr {s t u : ab_X} (h : flO s t) (h2 : flO t u) : flO s u := ⟨fun c a b d => (h2.1 c a b d).trans (h.1 c a b d), fun k p => ⟨((h2.2.1 k p).1).trans (h.2.1 k p).1, ((h2.2.1 k p).2).trans (h.2.1 k p).2⟩, fun k p => (h2.2.2.1 k p).trans (h.2.2.1 k p), h2.2.2.2.trans h.2.2.2⟩
theorem flF_O {s : ab_X} {h g : Nat} (w : TW s.1) (hh : h < nv s.1 246 31) (hg : g + 1 < nv s.1 256 h) : flO s (flF (nI 0) s h g) := by
  have b := w.b
  have rm := rm_le w hh
  have f6 := (w.2.1.1 h hh).2.2.1.2
  have sm1 : (g + 1) * nv s.1 257 h = g * nv s.1 257 h + nv s.1 257 h := Nat.succ_mul _ _
  have sm2 : (g + 2) * nv s.1 257 h = (g + 1) * nv s.1 257 h + nv s.1 257 h := Nat.succ_mul _ _
  have le2 : (g + 2) * nv s.1 257 h ≤ nv s.1 256 h * nv s.1 257 h := Nat.mul_le_mul_right _ hg
  unfold flF
  split
  · unfold drV
    rw [if_pos rfl]
    refine ⟨fun c a b d => drS_o a b d, fun k p => ⟨?_, ?_⟩, fun k p => ?_, rfl⟩
    · rw [drS_266]; unfold dT; rw [if_neg (by omega), if_neg (by omega)]
    · rw [drS_267]; unfold dT; rw [if_neg (by omega), if_neg (by omega)]
    · rw [drS_274, if_neg (by omega)]
  · exact ⟨fun _ _ _ _ => rfl, fun _ _ => ⟨rfl, rfl⟩, fun _ _ => rfl, rfl⟩
theorem flD_O {h : Nat} : ∀ (j : Nat) (s : ab_X), TW s.1 → h < nv s.1 246 31 → j < nv s.1 256 h → flO s (flD (nI 0) h j s)
  | 0, s, _, _, _ => ⟨fun _ _ _ _ => rfl, fun _ _ => ⟨rfl, rfl⟩, fun _ _ => rfl, rfl⟩
  | j + 1, s, w, hh, hj => (flF_O w hh hj).tr (flD_O j _ (flF_tw w hh hj) (by rw [flF_k.ns]; exact hh) (by rw [flF_k.nw (c := 256) (by decide) (by decide)]; omega))
theorem flA_O : ∀ (m h : Nat) (s : ab_X), TW s.1 → h + m = nv s.1 246 31 → flO s (flA (nI 0) m h s)
  | 0, h, s, _, _ => ⟨fun _ _ _ _ => rfl, fun _ _ => ⟨rfl, rfl⟩, fun _ _ => rfl, rfl⟩
  | m + 1, h, s, w, e => by
    have f1 := (w.2.1.1 h (by omega)).2.2.2.1
    exact (flD_O _ _ w (by omega) (by omega)).tr (flA_O m (h + 1) _ (flD_tw _ _ w (by omega) (by omega)) (by rw [(flD_k _ _).ns]; omega))
theorem stS_o {s : ab_X} {Wa : Nat → Int32} (w : TW s.1) : (∀ c, c ≠ 266 → c ≠ 267 → c ≠ 271 → c ≠ 274 → (stS s Wa).1 c = s.1 c) ∧ (∀ k, 288 ≤ k → (stS s Wa).1 266 k = s.1 266 k ∧ (stS s Wa).1 267 k = s.1 267 k) ∧ (∀ k, 72 ≤ k → (stS s Wa).1 271 k = s.1 271 k ∧ (stS s Wa).1 274 k = s.1 274 k) ∧ (stS s Wa).2 = s.2 := by
  have b := w.b
  have o := flA_O (nv s.1 246 31) 0 (fs1 s Wa) (fs1_tw w) (by rw [fs1_n]; omega)
  obtain ⟨o1, o2, o3, o4⟩ := o
  have nvl : ∀ k, 288 ≤ k → ¬ vlb s.1 k = true := fun k hk u => by
    have := (vlb_t.mp u).1
    omega
  refine ⟨fun c h1 h2 h3 h4 => ?_, fun k hk => ⟨?_, ?_⟩, fun k hk => ⟨?_, ?_⟩, o4⟩
  · unfold stS; rw [o1 c h1 h2 h4, fs1_o h1 h2 h3]
  · unfold stS; rw [(o2 k hk).1, fs1_266]
    show (if vlb s.1 k = true then _ else _) = _
    rw [if_neg (nvl k hk)]
  · unfold stS; rw [(o2 k hk).2, fs1_267]
    show (if vlb s.1 k = true then _ else _) = _
    rw [if_neg (nvl k hk)]
  · unfold stS; rw [o1 271 (by decide) (by decide) (by decide), fs1_271]
    unfold fb1
    rw [if_neg (by omega)]
  · unfold stS; rw [o3 k hk, fs1_o (by decide) (by decide) (by decide)]
theorem keepM_fs1 {x s z : ab_X} {Wa : Nat → Int32} (m : keepM s.1 x.1) (z1 : ∀ c, c ≠ 266 → c ≠ 267 → c ≠ 269 → c ≠ 270 → c ≠ 271 → z.1 c = x.1 c) (z2 : z.1 266 = (fs1 s Wa).1 266) (z3 : z.1 267 = (fs1 s Wa).1 267) (z4 : z.1 271 = (fs1 s Wa).1 271) : keepM (fs1 s Wa).1 z.1 := by
  refine ⟨fun c p => ?_, fun f p => ?_⟩
  · by_cases e1 : c = 266
    · subst e1; exact z2
    · by_cases e2 : c = 267
      · subst e2; exact z3
      · by_cases e3 : c = 271
        · subst e3; exact z4
        · rw [z1 c e1 e2 (by unfold kM at p; omega) (by unfold kM at p; omega) e3, fs1_o e1 e2 e3]; exact m.1 c p
  · rw [z1 246 (by decide) (by decide) (by decide) (by decide) (by decide), fs1_o (by decide) (by decide) (by decide)]; exact m.2 f p
theorem m_step0 {x s : ab_X} (m : keepM s.1 x.1) (w : TW s.1) (b58 : nv s.1 246 58 ≤ 16) (v58 : s.1 246 58 = nI (nv s.1 246 58)) {K : ab_X → Prop} (k : ∀ z : ab_X, keepM (stS s (x.1 268)).1 z.1 → (∀ c, ¬ kM c → c ≠ 269 → c ≠ 270 → z.1 c = x.1 c) → z.2 = x.2 → K z) : wX12_burn (nI 0) x K := by
  refine m_half m.f w (fun z z1 z2 z3 z4 z5 => ?_)
  have mz := keepM_fs1 m z1 z3 z4 z5
  have wz := fs1_tw (Wa := x.1 268) w
  have n58 : nv (fs1 s (x.1 268)).1 246 58 = nv s.1 246 58 := fs1_nv (by decide) (by decide) (by decide)
  refine m_fallsA mz wz (by rw [n58]; exact b58) (by rw [n58, fs1_o (by decide) (by decide) (by decide)]; exact v58) (fun y my y1 y2 => ?_)
  rw [fs1_n] at my
  have fin : K y := k y my (fun c hc h1 h2 => by rw [y1 c hc]; exact z1 c (fun e => hc (by unfold kM; omega)) (fun e => hc (by unfold kM; omega)) h1 h2 (fun e => hc (by unfold kM; omega))) (y2.trans z2)
  refine Lp2.seq 0 (fun _ => nI 0) (fun _ => y) rfl rfl (fun i hi => absurd hi (Nat.not_lt_zero i)) (fun L => ?_)
  unfold lX12_burn_324
  exact ⟨fun _ => fin, fun _ => ⟨fun _ => fin, fun u => absurd rfl u⟩⟩
def stI (s : ab_X) (Wa : Nat → Int32) : Nat → ab_X
  | 0 => s
  | n + 1 => stS (stI s Wa n) Wa
theorem stI_tw {s : ab_X} {Wa : Nat → Int32} (w : TW s.1) : ∀ n, TW (stI s Wa n).1
  | 0 => w
  | n + 1 => stS_tw (stI_tw w n)
theorem stI_L {s : ab_X} {Wa : Nat → Int32} (w : TW s.1) (L : WLd s.1) : ∀ n, WLd (stI s Wa n).1
  | 0 => L
  | n + 1 => stS_L (stI_tw w n)
theorem stI_o {s : ab_X} {Wa : Nat → Int32} (w : TW s.1) : ∀ n, (∀ c, c ≠ 266 → c ≠ 267 → c ≠ 271 → c ≠ 274 → (stI s Wa n).1 c = s.1 c) ∧ (∀ k, 288 ≤ k → (stI s Wa n).1 266 k = s.1 266 k ∧ (stI s Wa n).1 267 k = s.1 267 k) ∧ (∀ k, 72 ≤ k → (stI s Wa n).1 271 k = s.1 271 k ∧ (stI s Wa n).1 274 k = s.1 274 k) ∧ (stI s Wa n).2 = s.2
  | 0 => ⟨fun _ _ _ _ _ => rfl, fun _ _ => ⟨rfl, rfl⟩, fun _ _ => ⟨rfl, rfl⟩, rfl⟩
  | n + 1 => by
    obtain ⟨a1, a2, a3, a4⟩ := stI_o w n
    obtain ⟨b1, b2, b3, b4⟩ := stS_o (Wa := Wa) (stI_tw (Wa := Wa) w n)
    exact ⟨fun c h1 h2 h3 h4 => (b1 c h1 h2 h3 h4).trans (a1 c h1 h2 h3 h4), fun k p => ⟨((b2 k p).1).trans (a2 k p).1, ((b2 k p).2).trans (a2 k p).2⟩, fun k p => ⟨((b3 k p).1).trans (a3 k p).1, ((b3 k p).2).trans (a3 k p).2⟩, b4.trans a4⟩
