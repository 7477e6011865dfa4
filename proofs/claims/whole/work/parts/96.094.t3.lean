/-! A MINUTE, 21: the fire of a minute, the reference; the sums of the lost. -/
def buU (s : ab_X) (Wa : Nat → Int32) : ab_X := flA (nI 1) (nv s.1 246 31) 0 (fs1 s Wa)
def buS (s : ab_X) (Wa : Nat → Int32) : ab_X := peS (buU s Wa)
theorem m_burn {x s : ab_X} (m : keepM s.1 x.1) (w : TW s.1) (b58 : nv s.1 246 58 ≤ 16) (v58 : s.1 246 58 = nI (nv s.1 246 58)) {Wa : Nat → Int32} (hw : ∀ k, k < 288 → x.1 268 k = Wa k) {K : ab_X → Prop} (k : ∀ z : ab_X, keepM (buS s Wa).1 z.1 → (∀ c, ¬ kM c → c ≠ 269 → c ≠ 270 → z.1 c = x.1 c) → z.2 = x.2 → K z) : wX12_burn 1 x K := by
  show wX12_burn (nI 1) x K
  refine m_half m.f w (fun z z1 z2 z3 z4 z5 => ?_)
  rw [fs1_w w hw] at z3 z4 z5
  have mz := keepM_fs1 m z1 z3 z4 z5
  have wz := fs1_tw (Wa := Wa) w
  have n58 : nv (fs1 s Wa).1 246 58 = nv s.1 246 58 := fs1_nv (by decide) (by decide) (by decide)
  refine m_fallsA mz wz (by rw [n58]; exact b58) (by rw [n58, fs1_o (by decide) (by decide) (by decide)]; exact v58) (fun y my y1 y2 => ?_)
  rw [fs1_n] at my
  refine m_people my (flA_tw _ _ _ wz (by rw [fs1_n]; omega)) (fun a ma a1 a2 => k a ma (fun c hc h1 h2 => ?_) (a2.trans (y2.trans z2)))
  rw [a1 c hc, y1 c hc]; exact z1 c (fun e => hc (by unfold kM; omega)) (fun e => hc (by unfold kM; omega)) h1 h2 (fun e => hc (by unfold kM; omega))
theorem flA_out {V : Int32} {k : Nat} : ∀ (m h : Nat) (s : ab_X), TW s.1 → h + m = nv s.1 246 31 → ¬ (k / 6 < nv s.1 246 31 ∧ k % 6 < nv s.1 256 (k / 6)) → (flA V m h s).1 274 k = s.1 274 k
  | 0, _, _, _, _, _ => rfl
  | m + 1, h, s, w, hm, q => by
    have fk := flD_k (V := V) (h := h) (nv s.1 256 h - 1) s
    obtain ⟨-, -, v3, v3', -⟩ := w.2.1.1 h (by omega)
    have l3 := v3.2
    have w' := flD_tw (V := V) (h := h) (nv s.1 256 h - 1) s w (by omega) (by omega)
    have n31 : nv (flD V h (nv s.1 256 h - 1) s).1 246 31 = nv s.1 246 31 := fk.ns
    have n256 : nv (flD V h (nv s.1 256 h - 1) s).1 256 (k / 6) = nv s.1 256 (k / 6) := fk.nw (by decide) (by decide)
    show (flA V m (h + 1) (flD V h (nv s.1 256 h - 1) s)).1 274 k = s.1 274 k
    rw [flA_out m (h + 1) _ w' (by rw [n31]; omega) (by rw [n31, n256]; exact q)]
    refine flD_274 _ s ?_
    by_cases e : k / 6 = h
    · rw [e] at q; right; omega
    · rcases Nat.lt_or_gt_of_ne e with l | l
      · left; omega
      · right; omega
theorem dd_c {Y Z : Nat → Nat → Int32} (e1 : Z 266 = Y 266) (e2 : Z 267 = Y 267) (e3 : Z 257 = Y 257) (h f q : Nat) : dd Z h f q = dd Y h f q := by
  unfold dd dB bu nv
  rw [e1, e2, e3]
def LL (s t : ab_X) (h f : Nat) : Nat := if NF s t (6 * h + f) then nv s.1 272 (6 * h + f) else min (dd t.1 h f (nv t.1 257 h)) (nv s.1 272 (6 * h + f))
def LLs (s t : ab_X) (h : Nat) : Nat → Nat
  | 0 => 0
  | f + 1 => LLs s t h f + LL s t h f
theorem LL_le {s t : ab_X} {h f : Nat} : LL s t h f ≤ nv s.1 272 (6 * h + f) := by
  unfold LL
  split
  · exact Nat.le_refl _
  · exact Nat.min_le_right _ _
theorem lo_r {Y : Nat → Nat → Int32} {h f : Nat} (hf : f < nv Y 256 h) : lo Y h (rmsN Y h) f = min (dd Y h f (nv Y 257 h)) (nv Y 272 (6 * h + f)) := by
  unfold lo
  have : min (nv Y 257 h) (rmsN Y h - f * nv Y 257 h) = nv Y 257 h := by
    have g : (f + 1) * nv Y 257 h ≤ rmsN Y h := Nat.mul_le_mul_right _ hf
    rw [Nat.add_mul] at g
    omega
  rw [this]
/-- what both lose is the same -/
theorem FR_L {s t u : ab_X} (r : FR s t u) {h f : Nat} (hf : f < nv u.1 256 h) : (NF s t (6 * h + f) → lo u.1 h (rmsN u.1 h) f = 0) ∧ (¬ NF s t (6 * h + f) → lo u.1 h (rmsN u.1 h) f = LL s t h f ∧ nv u.1 272 (6 * h + f) = nv s.1 272 (6 * h + f)) := by
  obtain ⟨r1, r2, r3, r4, r5, r6, r7, r8⟩ := r
  have d : dd u.1 h f (nv u.1 257 h) = dd t.1 h f (nv t.1 257 h) := by
    rw [dd_c (r1 266 (by unfold cs; omega)) (r1 267 (by unfold cs; omega)) (r1 257 (by unfold cs; omega))]
    unfold nv; rw [r1 257 (by unfold cs; omega)]
  refine ⟨fun v => ?_, fun v => ?_⟩
  · rw [lo_r hf]
    have : nv u.1 272 (6 * h + f) = 0 := nv_of ((r3 _).1 v) (by decide)
    rw [this, Nat.min_zero]
  · have e : nv u.1 272 (6 * h + f) = nv s.1 272 (6 * h + f) := by unfold nv; rw [(r3 _).2 v]
    refine ⟨?_, e⟩
    unfold LL
    rw [lo_r hf, if_neg v, d, e]
theorem FR_S {s t u : ab_X} (r : FR s t u) {h : Nat} : ∀ n, n ≤ nv u.1 256 h → LLs s t h n = lsF s t h n + loS u.1 h (rmsN u.1 h) n
  | 0, _ => rfl
  | n + 1, hn => by
    unfold LLs lsF loS
    rw [FR_S r n (by omega)]
    obtain ⟨a, b⟩ := FR_L r (h := h) (f := n) (by omega)
    by_cases v : NF s t (6 * h + n)
    · rw [if_pos v, a v]
      have : LL s t h n = nv s.1 272 (6 * h + n) := by unfold LL; rw [if_pos v]
      rw [this]; omega
    · rw [if_neg v, (b v).1]; omega
theorem lsF_6 {s t : ab_X} {h : Nat} : ∀ m n, (∀ f, n ≤ f → f < n + m → ¬ NF s t (6 * h + f)) → lsF s t h (n + m) = lsF s t h n
  | 0, _, _ => rfl
  | m + 1, n, e => by
    show lsF s t h (n + m) + (if NF s t (6 * h + (n + m)) then nv s.1 272 (6 * h + (n + m)) else 0) = lsF s t h n
    rw [lsF_6 m n (fun f p q => e f p (by omega)), if_neg (e (n + m) (by omega) (by omega))]; rfl
