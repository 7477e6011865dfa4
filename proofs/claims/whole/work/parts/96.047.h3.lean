/-! THE FIRE: tables, room by room. -/
def vld (Y : Nat → Nat → Int32) (k : Nat) : Prop := k / 24 < nv Y 246 31 ∧ k % 24 < nv Y 256 (k / 24) * nv Y 257 (k / 24)
theorem vld_of {Y : Nat → Nat → Int32} (w : TW Y) {h r : Nat} (hh : h < nv Y 246 31) (hr : r < nv Y 256 h * nv Y 257 h) : vld Y (24 * h + r) ∧ (24 * h + r) / 24 = h ∧ (24 * h + r) % 24 = r := by
  have rm := rm_le w hh
  have e1 : (24 * h + r) / 24 = h := by omega
  have e2 : (24 * h + r) % 24 = r := by omega
  refine ⟨?_, e1, e2⟩
  unfold vld
  rw [e1, e2]
  exact ⟨hh, hr⟩
def Tab (Y : Nat → Nat → Int32) (old new : Nat → Int32) (p : Nat) (c : Nat → Int32) : Prop := ∀ k, ((k < p ∧ vld Y k) → c k = new k) ∧ (¬ (k < p ∧ vld Y k) → c k = old k)
theorem Tab_0 {Y : Nat → Nat → Int32} {old new : Nat → Int32} : Tab Y old new 0 old := fun k => ⟨fun u => absurd u.1 (Nat.not_lt_zero k), fun _ => rfl⟩
theorem Tab_at {Y : Nat → Nat → Int32} {old new c : Nat → Int32} {p k : Nat} (t : Tab Y old new p c) (h : p ≤ k) : c k = old k := (t k).2 (fun u => by omega)
theorem Tab_n {Y : Nat → Nat → Int32} {old new c c' : Nat → Int32} {p : Nat} (t : Tab Y old new p c) (v : vld Y p) (e1 : c' p = new p) (e2 : ∀ k, k ≠ p → c' k = c k) : Tab Y old new (p + 1) c' := by
  intro k
  by_cases e : k = p
  · subst e
    exact ⟨fun _ => e1, fun u => absurd ⟨Nat.lt_succ_self k, v⟩ u⟩
  · rw [e2 k e]
    exact ⟨fun u => (t k).1 ⟨by omega, u.2⟩, fun u => (t k).2 (fun u' => u ⟨by omega, u'.2⟩)⟩
theorem Tab_r {Y : Nat → Nat → Int32} {old new c : Nat → Int32} {h : Nat} (t : Tab Y old new (24 * h + nv Y 256 h * nv Y 257 h) c) (rm : nv Y 256 h * nv Y 257 h ≤ 24) : Tab Y old new (24 * (h + 1)) c := by
  intro k
  have key : (k < 24 * (h + 1) ∧ vld Y k) ↔ (k < 24 * h + nv Y 256 h * nv Y 257 h ∧ vld Y k) := by
    constructor
    · intro u
      refine ⟨?_, u.2⟩
      by_cases q : k / 24 = h
      · have v := u.2.2
        rw [q] at v
        omega
      · have := u.1
        omega
    · intro u
      exact ⟨by omega, u.2⟩
  rw [key]
  exact t k
theorem Tab_e {Y : Nat → Nat → Int32} {old new c : Nat → Int32} {p : Nat} (t : Tab Y old new p c) (hp : 24 * nv Y 246 31 ≤ p) (k : Nat) : (vld Y k → c k = new k) ∧ (¬ vld Y k → c k = old k) := by
  refine ⟨fun v => (t k).1 ⟨?_, v⟩, fun v => (t k).2 (fun u => v u.2)⟩
  have := v.1
  omega
/-- what a room loses -/
def lsI (Y : Nat → Nat → Int32) (k : Nat) : Int32 := if bu Y k = true then imin (Y 267 k) (nI 1 + Y 266 k / nI 250) else nI 0
/-- what has burnt on a floor after q of its rooms -/
def sB (Y : Nat → Nat → Int32) (h f : Nat) : Nat → Int32
  | 0 => Y 271 (6 * h + f)
  | q + 1 => sB Y h f q + lsI Y (24 * h + (f * nv Y 257 h + q))
/-- how many rooms of the floor lie below p -/
def qn (Y : Nat → Nat → Int32) (h f p : Nat) : Nat := min (nv Y 257 h) (p - (24 * h + f * nv Y 257 h))
def TabB (Y : Nat → Nat → Int32) (old : Nat → Int32) (p : Nat) (c : Nat → Int32) : Prop := (∀ h f, h < nv Y 246 31 → f < nv Y 256 h → c (6 * h + f) = sB Y h f (qn Y h f p)) ∧ (∀ k, ¬ (k / 6 < nv Y 246 31 ∧ k % 6 < nv Y 256 (k / 6)) → c k = old k)
theorem TabB_0 {Y : Nat → Nat → Int32} : TabB Y (Y 271) 0 (Y 271) := by
  refine ⟨fun h f hh hf => ?_, fun _ _ => rfl⟩
  have : qn Y h f 0 = 0 := by unfold qn; omega
  rw [this]; rfl
theorem qn_same {Y : Nat → Nat → Int32} (w : TW Y) {h f q h' f' : Nat} (hh : h < nv Y 246 31) (hf : f < nv Y 256 h) (hq : q < nv Y 257 h) (hh' : h' < nv Y 246 31) (hf' : f' < nv Y 256 h') (ne : ¬ (h' = h ∧ f' = f)) : qn Y h' f' (24 * h + (f * nv Y 257 h + q) + 1) = qn Y h' f' (24 * h + (f * nv Y 257 h + q)) := by
  have rm := rm_le w hh
  have rm' := rm_le w hh'
  have rl := rmlt hf hq
  unfold qn
  by_cases e : h' = h
  · subst e
    by_cases lt : f' < f
    · have : (f' + 1) * nv Y 257 h' ≤ f * nv Y 257 h' := Nat.mul_le_mul_right _ lt
      have sm1 : (f' + 1) * nv Y 257 h' = f' * nv Y 257 h' + nv Y 257 h' := Nat.succ_mul _ _
      omega
    · have : (f + 1) * nv Y 257 h' ≤ f' * nv Y 257 h' := Nat.mul_le_mul_right _ (by omega)
      have sm1 : (f + 1) * nv Y 257 h' = f * nv Y 257 h' + nv Y 257 h' := Nat.succ_mul _ _
      omega
  · have : (f' + 1) * nv Y 257 h' ≤ nv Y 256 h' * nv Y 257 h' := Nat.mul_le_mul_right _ hf'
    have sm1 : (f' + 1) * nv Y 257 h' = f' * nv Y 257 h' + nv Y 257 h' := Nat.succ_mul _ _
    by_cases lt : h' < h
    · omega
    · omega
theorem qn_at {Y : Nat → Nat → Int32} {h f q : Nat} (hq : q ≤ nv Y 257 h) : qn Y h f (24 * h + (f * nv Y 257 h + q)) = q := by unfold qn; omega
theorem TabB_n {Y : Nat → Nat → Int32} (w : TW Y) {old c c' : Nat → Int32} {h f q : Nat} (hh : h < nv Y 246 31) (hf : f < nv Y 256 h) (hq : q < nv Y 257 h) (t : TabB Y old (24 * h + (f * nv Y 257 h + q)) c) (e1 : c' (6 * h + f) = c (6 * h + f) + lsI Y (24 * h + (f * nv Y 257 h + q))) (e2 : ∀ k, k ≠ 6 * h + f → c' k = c k) : TabB Y old (24 * h + (f * nv Y 257 h + q) + 1) c' := by
  have f6 := (w.2.1.1 h hh).2.2.1.2
  refine ⟨fun h' f' hh' hf' => ?_, fun k nk => ?_⟩
  · have f6' := (w.2.1.1 h' hh').2.2.1.2
    by_cases e : h' = h ∧ f' = f
    · obtain ⟨rfl, rfl⟩ := e
      have a1 : qn Y h' f' (24 * h' + (f' * nv Y 257 h' + q) + 1) = q + 1 := by unfold qn; omega
      rw [e1, t.1 h' f' hh' hf', qn_at (by omega), a1]; rfl
    · rw [e2 _ (by omega), t.1 h' f' hh' hf', qn_same w hh hf hq hh' hf' e]
  · rw [e2 k (fun e => nk (by rw [e, show (6 * h + f) / 6 = h by omega, show (6 * h + f) % 6 = f by omega]; exact ⟨hh, hf⟩))]
    exact t.2 k nk
theorem TabB_r {Y : Nat → Nat → Int32} (w : TW Y) {old c : Nat → Int32} {h : Nat} (hh : h < nv Y 246 31) (t : TabB Y old (24 * h + nv Y 256 h * nv Y 257 h) c) : TabB Y old (24 * (h + 1)) c := by
  have rm := rm_le w hh
  refine ⟨fun h' f' hh' hf' => ?_, t.2⟩
  rw [t.1 h' f' hh' hf']
  congr 1
  have : (f' + 1) * nv Y 257 h' ≤ nv Y 256 h' * nv Y 257 h' := Nat.mul_le_mul_right _ hf'
  have sm1 : (f' + 1) * nv Y 257 h' = f' * nv Y 257 h' + nv Y 257 h' := Nat.succ_mul _ _
  have rm' := rm_le w hh'
  unfold qn
  by_cases e : h' = h
  · subst e; omega
  · omega
/-- the new heat of a room; Wa: the water -/
def nhI (Y : Nat → Nat → Int32) (Wa : Nat → Int32) (h f q : Nat) : Int32 := if Y 274 (6 * h + f) = nI 0 then imax (nI 0) (imin (nI 1000) (Y 266 (24 * h + (f * nv Y 257 h + q)) + ((gnI Y h f q + (glI Y h (prv Y h) f + glI Y h (nxt Y (nv Y 246 31) h) f)) - Wa (24 * h + (f * nv Y 257 h + q)) / nI 4))) else nI 0
def nhK (Y : Nat → Nat → Int32) (Wa : Nat → Int32) (k : Nat) : Int32 := nhI Y Wa (k / 24) (k % 24 / nv Y 257 (k / 24)) (k % 24 % nv Y 257 (k / 24))
theorem nhK_of {Y : Nat → Nat → Int32} (w : TW Y) {Wa : Nat → Int32} {h f q : Nat} (hh : h < nv Y 246 31) (hf : f < nv Y 256 h) (hq : q < nv Y 257 h) : nhK Y Wa (24 * h + (f * nv Y 257 h + q)) = nhI Y Wa h f q := by
  obtain ⟨-, e1, e2⟩ := vld_of w hh (rmlt hf hq)
  have d := dvm (f := f) hq
  unfold nhK
  rw [e1, e2, d.1, d.2]
