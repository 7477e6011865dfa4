/-! A MINUTE, 18: falls with people and crews against falls without. -/
theorem fs1_w {s : ab_X} (w : TW s.1) {W W' : Nat → Int32} (h : ∀ k, k < 288 → W k = W' k) : fs1 s W = fs1 s W' := by
  have e : (fun k => if vlb s.1 k then nhK s.1 W k else s.1 266 k) = (fun k => if vlb s.1 k then nhK s.1 W' k else s.1 266 k) := by
    funext k
    by_cases q : vlb s.1 k = true
    · rw [if_pos q, if_pos q]
      have v := vlb_t.mp q
      unfold vld at v
      have b := w.b
      have ek : k % 24 / nv s.1 257 (k / 24) * nv s.1 257 (k / 24) + k % 24 % nv s.1 257 (k / 24) = k % 24 := by
        rw [Nat.mul_comm]; exact Nat.div_add_mod _ _
      unfold nhK nhI
      rw [ek, h (24 * (k / 24) + k % 24) (by omega)]
    · rw [if_neg q, if_neg q]
  unfold fs1
  rw [e]
theorem hr_i {s : ab_X} {h f : Nat} : ∀ n, (∀ c, n ≤ c → ∀ d, (hrS s h f n).1 d c = s.1 d c ∨ (d < 286 ∨ 291 < d)) ∧ (∀ c, c < n → ((s.1 286 c = nI 2 ∧ s.1 290 c = nI h ∧ s.1 291 c = nI f) → (hrS s h f n).1 286 c = nI 4 ∧ (hrS s h f n).1 287 c = s.1 280 c ∧ (hrS s h f n).1 288 c = -nI 1 ∧ (hrS s h f n).1 290 c = -nI 1 ∧ (hrS s h f n).1 291 c = -nI 1) ∧ (¬ (s.1 286 c = nI 2 ∧ s.1 290 c = nI h ∧ s.1 291 c = nI f) → ∀ d, 286 ≤ d → d ≤ 291 → (hrS s h f n).1 d c = s.1 d c))
  | 0 => ⟨fun _ _ _ => Or.inl rfl, fun c hc => by omega⟩
  | n + 1 => by
    obtain ⟨a, b⟩ := hr_i (s := s) (h := h) (f := f) n
    have g : ∀ d, 286 ≤ d → d ≤ 291 → (hrS s h f n).1 d n = s.1 d n := fun d p q => by
      rcases a n (Nat.le_refl _) d with e | e
      · exact e
      · omega
    have g280 : (hrS s h f n).1 280 n = s.1 280 n := by rw [hrS_o (by decide) n]
    have st : hrS s h f (n + 1) = if (hrS s h f n).1 286 n = nI 2 ∧ (hrS s h f n).1 290 n = nI h ∧ (hrS s h f n).1 291 n = nI f then wr (wr (wr (wr (wr (hrS s h f n) 286 n (nI 4)) 287 n ((hrS s h f n).1 280 n)) 288 n (-nI 1)) 290 n (-nI 1)) 291 n (-nI 1) else hrS s h f n := rfl
    rw [g 286 (by decide) (by decide), g 290 (by decide) (by decide), g 291 (by decide) (by decide), g280] at st
    by_cases q : s.1 286 n = nI 2 ∧ s.1 290 n = nI h ∧ s.1 291 n = nI f
    · rw [if_pos q] at st
      rw [st]
      refine ⟨fun c hc d => ?_, fun c hc => ?_⟩
      · simp (disch := omega) only [wr_ne]; exact a c (by omega) d
      · by_cases e : c = n
        · subst e
          refine ⟨fun _ => ⟨?_, ?_, ?_, ?_, ?_⟩, fun u => absurd q u⟩ <;> simp (disch := omega) only [wr_ne, wr_e]
        · simp (disch := omega) only [wr_ne]; exact b c (by omega)
    · rw [if_neg q] at st
      rw [st]
      refine ⟨fun c hc d => a c (by omega) d, fun c hc => ?_⟩
      by_cases e : c = n
      · subst e
        exact ⟨fun u => absurd u q, fun _ d p1 p2 => g d p1 p2⟩
      · exact b c (by omega)
abbrev NF (s t : ab_X) (k : Nat) : Prop := s.1 274 k = nI 0 ∧ ¬ t.1 274 k = nI 0
def HB (s t : ab_X) (i : Nat) : Prop := s.1 286 i = nI 2 ∧ ∃ h f, h < 12 ∧ f < 6 ∧ s.1 290 i = nI h ∧ s.1 291 i = nI f ∧ NF s t (6 * h + f)
def lsF (s t : ab_X) (h : Nat) : Nat → Nat
  | 0 => 0
  | f + 1 => lsF s t h f + (if NF s t (6 * h + f) then nv s.1 272 (6 * h + f) else 0)
theorem lsF_c {s t t' : ab_X} {h : Nat} : ∀ n, (∀ f, f < n → t'.1 274 (6 * h + f) = t.1 274 (6 * h + f)) → lsF s t' h n = lsF s t h n
  | 0, _ => rfl
  | n + 1, e => by
    have g : NF s t' (6 * h + n) = NF s t (6 * h + n) := by unfold NF; rw [e n (by omega)]
    unfold lsF
    rw [lsF_c n (fun f hf => e f (by omega))]
    congr 1
    simp only [g]
theorem lsF_a {s t t' : ab_X} {h g : Nat} : ∀ n, g < n → (∀ f, f < n → f ≠ g → t'.1 274 (6 * h + f) = t.1 274 (6 * h + f)) → ¬ NF s t (6 * h + g) → NF s t' (6 * h + g) → lsF s t' h n = lsF s t h n + nv s.1 272 (6 * h + g)
  | 0, h, _, _, _ => by omega
  | n + 1, hg, e, a, b => by
    unfold lsF
    by_cases q : g = n
    · subst q
      rw [lsF_c g (fun f hf => e f (by omega) (by omega)), if_neg a, if_pos b]; omega
    · have g1 : NF s t' (6 * h + n) = NF s t (6 * h + n) := by unfold NF; rw [e n (by omega) (by omega)]
      rw [lsF_a n (by omega) (fun f hf p => e f (by omega) p) a b]
      have : (if NF s t' (6 * h + n) then nv s.1 272 (6 * h + n) else 0) = (if NF s t (6 * h + n) then nv s.1 272 (6 * h + n) else 0) := by simp only [g1]
      rw [this]; omega
def cs (c : Nat) : Prop := c = 263 ∨ c = 272 ∨ (286 ≤ c ∧ c ≤ 288) ∨ c = 290 ∨ c = 291
def FR (s t u : ab_X) : Prop := (∀ c, ¬ cs c → u.1 c = t.1 c) ∧ u.2 = t.2 ∧ (∀ k, (NF s t k → u.1 272 k = nI 0) ∧ (¬ NF s t k → u.1 272 k = s.1 272 k)) ∧ (∀ h, u.1 263 h = s.1 263 h + nI (lsF s t h 6)) ∧ (∀ k, t.1 274 k = s.1 274 k ∨ NF s t k) ∧ (∀ i, nv s.1 246 58 ≤ i → ∀ d, 286 ≤ d → d ≤ 291 → u.1 d i = s.1 d i) ∧ (∀ i, i < nv s.1 246 58 → (HB s t i → u.1 286 i = nI 4 ∧ u.1 287 i = s.1 280 i ∧ u.1 288 i = -nI 1 ∧ u.1 290 i = -nI 1 ∧ u.1 291 i = -nI 1) ∧ (¬ HB s t i → ∀ d, 286 ≤ d → d ≤ 291 → u.1 d i = s.1 d i)) ∧ (∀ c, c ≠ 266 → c ≠ 267 → c ≠ 271 → c ≠ 274 → t.1 c = s.1 c)
theorem FR_0 (s : ab_X) : FR s s s := by
  have n0 : ∀ k, ¬ NF s s k := fun k u => u.2 u.1
  have l0 : ∀ h n, lsF s s h n = 0 := fun h n => by
    induction n with
    | zero => rfl
    | succ n ih => unfold lsF; rw [ih, if_neg (n0 _)]
  refine ⟨fun _ _ => rfl, rfl, fun k => ⟨fun u => absurd u (n0 k), fun _ => rfl⟩, fun h => ?_, fun _ => Or.inl rfl, fun _ _ _ _ _ => rfl, fun i _ => ⟨fun u => ?_, fun _ _ _ _ => rfl⟩, fun _ _ _ _ _ => rfl⟩
  · rw [l0]; exact (Int32.add_zero _).symm
  · obtain ⟨-, h, f, -, -, -, -, q⟩ := u
    exact absurd q (n0 _)
