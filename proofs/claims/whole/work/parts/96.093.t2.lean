/-! A MINUTE, 20: the people in the rooms, the reference. -/
def dB (Y : Nat → Nat → Int32) (k : Nat) : Bool := bu Y k && decide (600 ≤ nv Y 266 k)
def dd (Y : Nat → Nat → Int32) (h f q : Nat) : Nat := cn (fun i => dB Y (24 * h + (f * nv Y 257 h + i))) q
def lo (Y : Nat → Nat → Int32) (h r f : Nat) : Nat := min (dd Y h f (min (nv Y 257 h) (r - f * nv Y 257 h))) (nv Y 272 (6 * h + f))
def loS (Y : Nat → Nat → Int32) (h r : Nat) : Nat → Nat
  | 0 => 0
  | f + 1 => loS Y h r f + lo Y h r f
def rmsN (Y : Nat → Nat → Int32) (h : Nat) : Nat := nv Y 256 h * nv Y 257 h
def peS (u : ab_X) : ab_X := wrT (wrT u 272 (fun k => if k / 6 < nv u.1 246 31 ∧ k % 6 < nv u.1 256 (k / 6) then nI (nv u.1 272 k - lo u.1 (k / 6) (rmsN u.1 (k / 6)) (k % 6)) else u.1 272 k)) 263 (fun h => if h < nv u.1 246 31 then u.1 263 h + nI (loS u.1 h (rmsN u.1 h) (nv u.1 256 h)) else u.1 263 h)
theorem lo_0 {Y : Nat → Nat → Int32} {h f : Nat} : lo Y h 0 f = 0 := by
  unfold lo
  rw [Nat.zero_sub, Nat.min_zero]
  show min (cn _ 0) _ = 0
  exact Nat.zero_min _
theorem loS_0 {Y : Nat → Nat → Int32} {h : Nat} : ∀ n, loS Y h 0 n = 0
  | 0 => rfl
  | n + 1 => by unfold loS; rw [loS_0 n, lo_0]
theorem lo_le {Y : Nat → Nat → Int32} {h r f : Nat} : lo Y h r f ≤ nv Y 272 (6 * h + f) := Nat.min_le_right _ _
/-- one more room -/
theorem lo_s {Y : Nat → Nat → Int32} {h w f q : Nat} (ew : nv Y 257 h = w) (hq : q < w) : (∀ g, g ≠ f → lo Y h (f * w + q + 1) g = lo Y h (f * w + q) g) ∧ (dB Y (24 * h + (f * w + q)) = true → lo Y h (f * w + q) f < nv Y 272 (6 * h + f) → lo Y h (f * w + q + 1) f = lo Y h (f * w + q) f + 1) ∧ ((dB Y (24 * h + (f * w + q)) = false ∨ lo Y h (f * w + q) f = nv Y 272 (6 * h + f)) → lo Y h (f * w + q + 1) f = lo Y h (f * w + q) f) := by
  have e1 : min w (f * w + q + 1 - f * w) = q + 1 := by
    rw [show f * w + q + 1 - f * w = q + 1 by omega]; omega
  have e2 : min w (f * w + q - f * w) = q := by
    rw [show f * w + q - f * w = q by omega]; omega
  have st : dd Y h f (q + 1) = dd Y h f q + (if dB Y (24 * h + (f * w + q)) then 1 else 0) := by
    unfold dd
    rw [ew]; rfl
  refine ⟨fun g hg => ?_, fun a b => ?_, fun a => ?_⟩
  · have : min w (f * w + q + 1 - g * w) = min w (f * w + q - g * w) := by
      rcases Nat.lt_or_gt_of_ne hg with l | l
      · have : (g + 1) * w ≤ f * w := Nat.mul_le_mul_right _ l
        rw [Nat.add_mul] at this
        omega
      · have : (f + 1) * w ≤ g * w := Nat.mul_le_mul_right _ l
        rw [Nat.add_mul] at this
        omega
    unfold lo
    rw [ew, this]
  · unfold lo at b ⊢
    rw [ew, e2] at b
    rw [ew, e1, e2, st, if_pos a]
    omega
  · unfold lo at a ⊢
    rw [ew, e2] at a
    rw [ew, e1, e2, st]
    rcases a with a | a
    · rw [a]; rfl
    · split <;> omega
theorem loS_s {Y : Nat → Nat → Int32} {h r r' f : Nat} (a : ∀ g, g ≠ f → lo Y h r' g = lo Y h r g) : ∀ n, (n ≤ f → loS Y h r' n = loS Y h r n) ∧ (f < n → loS Y h r' n + lo Y h r f = loS Y h r n + lo Y h r' f)
  | 0 => ⟨fun _ => rfl, fun u => by omega⟩
  | n + 1 => by
    obtain ⟨p, q⟩ := loS_s a n
    unfold loS
    refine ⟨fun u => ?_, fun u => ?_⟩
    · rw [p (by omega), a n (by omega)]
    · by_cases e : f = n
      · subst e; rw [p (Nat.le_refl _)]; omega
      · have := q (by omega)
        rw [a n (by omega)]; omega
def pQ (u x : ab_X) (h r : Nat) (z : ab_X) : Prop := (∀ c, c ≠ 272 → c ≠ 263 → z.1 c = x.1 c) ∧ z.2 = x.2 ∧ (∀ k, ¬ (k / 6 = h ∧ k % 6 < nv u.1 256 h) → z.1 272 k = if k / 6 < h ∧ k % 6 < nv u.1 256 (k / 6) then nI (nv u.1 272 k - lo u.1 (k / 6) (rmsN u.1 (k / 6)) (k % 6)) else u.1 272 k) ∧ (∀ f, f < nv u.1 256 h → z.1 272 (6 * h + f) = nI (nv u.1 272 (6 * h + f) - lo u.1 h r f)) ∧ (∀ i, i ≠ h → z.1 263 i = if i < h then u.1 263 i + nI (loS u.1 i (rmsN u.1 i) (nv u.1 256 i)) else u.1 263 i) ∧ z.1 263 h = u.1 263 h + nI (loS u.1 h r (nv u.1 256 h))
theorem m_peH {x u z : ab_X} {h : Nat} (m : keepM u.1 x.1) (w : TW u.1) (hh : h < nv u.1 246 31) (p0 : pQ u x h 0 z) {K : ab_X → Prop} {L : Int32 → ab_X → Prop} (k : ∀ z, pQ u x h (rmsN u.1 h) z → L (nI (h + 1)) z) : Lp2 (lX12_burn_338 (nI 1) (nI h) K L) 0 z := by
  have b := w.b
  have rl := rm_le w hh
  obtain ⟨v1, v2, v3, v3', v4, v4', -⟩ := w.2.1.1 h hh
  have l3 := v3.2
  have l4 := v4.2
  have e256 := v3.1
  have e257 := v4.1
  have rN : rmsN u.1 h = nv u.1 256 h * nv u.1 257 h := rfl
  refine Lp2.ind (fun ii a z => ∃ r, r ≤ rmsN u.1 h ∧ ii = rmsN u.1 h - r ∧ a = nI r ∧ pQ u x h r z) (rmsN u.1 h) ⟨0, Nat.zero_le _, rfl, rfl, p0⟩ ?_
  rintro ii a z ⟨r, hr, hii, rfl, pz⟩ L' hL
  have pz' := pz
  obtain ⟨z1, z2, z3, z4, z5, z6⟩ := pz'
  have vh : vp_in (nI h) 12 := (vpi (by omega) (by decide)).mpr trivial
  have c256 : z.1 256 h = nI (nv u.1 256 h) := by rw [z1 256 (by decide) (by decide), m.c256]; exact e256
  have c257 : z.1 257 h = nI (nv u.1 257 h) := by rw [z1 257 (by decide) (by decide), m.c257]; exact e257
  have mf : keepF u.1 z.1 := ⟨fun c q => by rw [z1 c (by unfold kF at q; omega) (by unfold kF at q; omega)]; exact m.f.1 c q, by rw [z1 246 (by decide) (by decide)]; exact m.f.2⟩
  unfold lX12_burn_338
  have ej : nI r + 1 = nI (r + 1) := nI_add r 1
  have eh : nI h + 1 = nI (h + 1) := nI_add h 1
  rw [cl_nI (n := h) (by omega), c256, c257, pk_mul, q_le (by omega) (by omega), ej, eh]
  refine ⟨vh, vh, fun q => ?_, fun q => ?_⟩
  · have : r = rmsN u.1 h := by omega
    subst this
    exact k z pz
  have hr' : r < nv u.1 256 h * nv u.1 257 h := by omega
  obtain ⟨f, q0, hf, hq, er, ed⟩ := r_split hr'
  refine m_floorOf mf w hh (by omega) (m_burns mf w hh hr' ?_)
  rw [ed]
  have e24 : 24 * nI h + nI r = nI (24 * h + r) := by
    have : 24 * nI h = nI (24 * h) := pk_mul 24 h
    rw [this, nI_add]
  have e6 : 6 * nI h + nI f = nI (6 * h + f) := by
    have : 6 * nI h = nI (6 * h) := pk_mul 6 h
    rw [this, nI_add]
  have f6 : f < 6 := by omega
  have b266 := (w.2.2.1 (24 * h + r) (by omega)).1
  have l266 := b266.2
  have b272 := (w.2.1.2.2 (6 * h + f) (by omega)).1
  have l272 := b272.2
  have c266 : z.1 266 (24 * h + r) = nI (nv u.1 266 (24 * h + r)) := by rw [z1 266 (by decide) (by decide), m.c266]; exact b266.1
  obtain ⟨s1, s2, s3⟩ := lo_s (Y := u.1) (h := h) (f := f) (q := q0) rfl hq
  rw [← er] at s1 s2 s3
  obtain ⟨a1, a2⟩ := loS_s s1 (nv u.1 256 h)
  have ll := lo_le (Y := u.1) (h := h) (r := r) (f := f)
  have ll' := lo_le (Y := u.1) (h := h) (r := r + 1) (f := f)
  have skip : (dB u.1 (24 * h + r) = false ∨ lo u.1 h r f = nv u.1 272 (6 * h + f)) → L' (nI (r + 1)) z := by
    intro d
    have s3 := s3 d
    refine hL _ _ _ (by omega) ⟨r + 1, by omega, rfl, rfl, z1, z2, z3, fun g hg => ?_, z5, ?_⟩
    · by_cases e : g = f
      · subst e; rw [s3]; exact z4 g hg
      · rw [s1 g e]; exact z4 g hg
    · have := a2 hf
      rw [show loS u.1 h (r + 1) (nv u.1 256 h) = loS u.1 h r (nv u.1 256 h) by omega]; exact z6
  rw [e24, cl_nI (by omega), c266, e6, cl_nI (by omega), z4 f hf]
  have e600 : (nI (nv u.1 266 (24 * h + r)) < 600) ↔ nv u.1 266 (24 * h + r) < 600 := q_lt (by omega) (by decide)
  have e0 : (nI (nv u.1 272 (6 * h + f) - lo u.1 h r f) = 0) ↔ nv u.1 272 (6 * h + f) - lo u.1 h r f = 0 := q_eq (by omega) (by decide)
  rw [e600, e0]
  have v6 : vp_in (nI (6 * h + f)) 72 := (vpi (by omega) (by decide)).mpr trivial
  cases eb : bu u.1 (24 * h + r) with
  | false => exact ⟨fun _ => skip (Or.inl (by unfold dB; rw [eb]; rfl)), fun t => absurd rfl t⟩
  | true =>
    refine ⟨fun t => absurd t (by decide), fun _ => ⟨(vpi (by omega) (by decide)).mpr trivial, fun t => skip (Or.inl (by unfold dB; rw [eb, decide_eq_false (by omega)]; rfl)), fun t => ⟨v6, fun t2 => ⟨v6, v6, vh, vh, ?_⟩, fun t2 => skip (Or.inr (by omega))⟩⟩⟩
    have s2 := s2 (by unfold dB; rw [eb, decide_eq_true (by omega)]; rfl) (by omega)
    have i1 : nI (nv u.1 272 (6 * h + f) - lo u.1 h r f) - 1 = nI (nv u.1 272 (6 * h + f) - lo u.1 h (r + 1) f) := by
      have : nI (nv u.1 272 (6 * h + f) - lo u.1 h r f) - nI 1 = nI (nv u.1 272 (6 * h + f) - lo u.1 h r f - 1) := pk_sub (by omega)
      rw [s2]
      exact this
    rw [i1, wr_n (by decide), z6]
    have i2 : u.1 263 h + nI (loS u.1 h r (nv u.1 256 h)) + 1 = u.1 263 h + nI (loS u.1 h (r + 1) (nv u.1 256 h)) := by
      have := a2 hf
      have e : nI (loS u.1 h r (nv u.1 256 h)) + 1 = nI (loS u.1 h r (nv u.1 256 h) + 1) := nI_add _ 1
      rw [Int32.add_assoc, e, show loS u.1 h (r + 1) (nv u.1 256 h) = loS u.1 h r (nv u.1 256 h) + 1 by omega]
    rw [i2]
    refine hL _ _ _ (by omega) ⟨r + 1, by omega, rfl, rfl, fun c p p' => by rw [wr_n p', wr_n p]; exact z1 c p p', z2, fun kk p => ?_, fun g hg => ?_, fun i p => ?_, by rw [wr_e]⟩
    · rw [wr_n (by decide), wr_ne (Or.inr (fun e => p ⟨by omega, by omega⟩))]; exact z3 kk p
    · rw [wr_n (by decide)]
      by_cases e : g = f
      · subst e; rw [wr_e]
      · rw [wr_ne (by omega), s1 g e]; exact z4 g hg
    · rw [wr_ne (by omega), wr_n (by decide)]; exact z5 i p
theorem peS_o (u : ab_X) : (∀ c, c ≠ 272 → c ≠ 263 → (peS u).1 c = u.1 c) ∧ (peS u).2 = u.2 := ⟨fun c p q => by unfold peS; rw [wrT_n q, wrT_n p], rfl⟩
theorem m_people {x u : ab_X} (m : keepM u.1 x.1) (w : TW u.1) {K : ab_X → Prop} (k : ∀ z : ab_X, keepM (peS u).1 z.1 → (∀ c, ¬ kM c → z.1 c = x.1 c) → z.2 = x.2 → K z) : Lp2 (lX12_burn_324 (nI 1) K) 0 x := by
  have b := w.b
  refine Lp2.ind (fun ii a z => ∃ h, h ≤ nv u.1 246 31 ∧ ii = nv u.1 246 31 - h ∧ a = nI h ∧ (∀ c, c ≠ 272 → c ≠ 263 → z.1 c = x.1 c) ∧ z.2 = x.2 ∧ (∀ k, z.1 272 k = if k / 6 < h ∧ k % 6 < nv u.1 256 (k / 6) then nI (nv u.1 272 k - lo u.1 (k / 6) (rmsN u.1 (k / 6)) (k % 6)) else u.1 272 k) ∧ (∀ i, z.1 263 i = if i < h then u.1 263 i + nI (loS u.1 i (rmsN u.1 i) (nv u.1 256 i)) else u.1 263 i)) (nv u.1 246 31) ⟨0, Nat.zero_le _, rfl, rfl, fun _ _ _ => rfl, rfl, fun k => by rw [if_neg (fun t => by omega), m.c272], fun i => by rw [if_neg (by omega), m.c263]⟩ ?_
  rintro ii a z ⟨h, hh, hii, rfl, z1, z2, z3, z4⟩ L hL
  have e31 : z.1 246 31 = nI (nv u.1 246 31) := by rw [z1 246 (by decide) (by decide), m.s31]; exact w.1.1
  unfold lX12_burn_324
  rw [e31, q_le (by omega) (by omega)]
  refine ⟨fun q => ?_, fun q => ⟨fun t => absurd t (by decide), fun _ => ?_⟩⟩
  · have : h = nv u.1 246 31 := by omega
    subst this
    refine k z ⟨fun c p => ?_, fun f p => ?_⟩ (fun c p => z1 c (fun e => p (by unfold kM; omega)) (fun e => p (by unfold kM; omega))) z2
    · by_cases e : c = 272
      · subst e
        unfold peS
        rw [wrT_n (by decide), wrT_e]
        exact funext z3
      by_cases e' : c = 263
      · subst e'
        unfold peS
        rw [wrT_e]
        exact funext z4
      rw [z1 c e e', (peS_o u).1 c e e']; exact m.1 c p
    · rw [z1 246 (by decide) (by decide), (peS_o u).1 246 (by decide) (by decide)]; exact m.2 f p
  · have hh' : h < nv u.1 246 31 := by omega
    obtain ⟨v1, v2, v3, v3', v4, v4', -⟩ := w.2.1.1 h hh'
    have l3 := v3.2
    have b272 : ∀ f, f < nv u.1 256 h → u.1 272 (6 * h + f) = nI (nv u.1 272 (6 * h + f)) := fun f hf => (w.2.1.2.2 (6 * h + f) (by omega)).1.1
    refine m_peH m w hh' ⟨z1, z2, fun kk _ => z3 kk, fun f hf => ?_, fun i _ => z4 i, ?_⟩ (fun y hy => ?_)
    · rw [z3, if_neg (fun t => by omega), lo_0, Nat.sub_zero]; exact b272 f hf
    · rw [z4, if_neg (by omega), loS_0]; exact (Int32.add_zero _).symm
    · obtain ⟨y1, y2, y3, y4, y5, y6⟩ := hy
      refine hL _ _ _ (by omega) ⟨h + 1, by omega, rfl, rfl, y1, y2, fun kk => ?_, fun i => ?_⟩
      · by_cases e : kk / 6 = h ∧ kk % 6 < nv u.1 256 h
        · have ek : kk = 6 * h + kk % 6 := by omega
          have := y4 (kk % 6) e.2
          rw [← ek] at this
          rw [this, if_pos ⟨by omega, by rw [e.1]; exact e.2⟩, e.1]
        · rw [y3 kk e]
          by_cases t : kk / 6 < h ∧ kk % 6 < nv u.1 256 (kk / 6)
          · rw [if_pos t, if_pos ⟨by omega, t.2⟩]
          · rw [if_neg t, if_neg (fun t' => ?_)]
            by_cases e2 : kk / 6 = h
            · exact e ⟨e2, by rw [← e2]; exact t'.2⟩
            · exact t ⟨by omega, t'.2⟩
      · by_cases e : i = h
        · subst e; rw [y6, if_pos (by omega)]
        · rw [y5 i e]
          by_cases t : i < h
          · rw [if_pos t, if_pos (by omega)]
          · rw [if_neg t, if_neg (by omega)]
