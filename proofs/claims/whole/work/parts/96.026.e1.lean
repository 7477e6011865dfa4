/-! COMING: where one can be, minute by minute. -/
def pN (t : Nat) : Nat := t / 360 - 4 * (t / 360 / 4)
theorem pN_lt (t : Nat) : pN t < 4 := by unfold pN; omega
def cst (Y : Nat → Nat → Int32) (s p v : Nat) : Nat := (nv Y 249 s * nv Y 250 (4 * s + p) * v + 9999) / 10000
def adB (B : Nat → Nat → Bool) (t c : Nat) : Nat → Nat → Bool := fun t' c' => B t' c' || (decide (t' = t) && decide (c' = c))
def spS (Y : Nat → Nat → Int32) (v m p : Nat) (row : Nat → Bool) (s : Nat) (B : Nat → Nat → Bool) : Nat → Nat → Bool :=
  if Y 252 s = nI 0 ∧ m + cst Y s p v ≤ 600 then (if row (nv Y 248 s) then adB (if row (nv Y 247 s) then adB B (m + cst Y s p v) (nv Y 248 s) else B) (m + cst Y s p v) (nv Y 247 s) else (if row (nv Y 247 s) then adB B (m + cst Y s p v) (nv Y 248 s) else B)) else B
def spr (Y : Nat → Nat → Int32) (v m p : Nat) (row : Nat → Bool) : Nat → (Nat → Nat → Bool) → (Nat → Nat → Bool)
  | 0, B => B
  | s + 1, B => spS Y v m p row s (spr Y v m p row s B)
def Am (Y : Nat → Nat → Int32) (v mi fr : Nat) : Nat → (Nat → Nat → Bool)
  | 0 => fun t c => decide (t = 0) && decide (c = fr)
  | m + 1 => spr Y v m (pN (mi + m)) (Am Y v mi fr m m) (nv Y 246 9) (Am Y v mi fr m)
/-- the answer: the first minute at which one is there -/
def cmr (Y : Nat → Nat → Int32) (fr to mi v : Nat) : Int32 := if fstB (fun m => Am Y v mi fr m m to) 0 601 = -nI 1 then -nI 1 else nI mi + fstB (fun m => Am Y v mi fr m m to) 0 601
theorem fstB_no {p : Nat → Bool} : ∀ {n i : Nat}, (∀ j, i ≤ j → j < i + n → p j = false) → fstB p i n = -nI 1
  | 0, i, _ => rfl
  | n + 1, i, h => by
    show (if p i then nI i else fstB p (i + 1) n) = -nI 1
    rw [h i (by omega) (by omega)]
    exact fstB_no (fun j h1 h2 => h j (by omega) (by omega))
theorem fstB_yes {p : Nat → Bool} : ∀ {n i m : Nat}, i ≤ m → m < i + n → p m = true → (∀ j, i ≤ j → j < m → p j = false) → fstB p i n = nI m
  | 0, i, m, h1, h2, _, _ => by omega
  | n + 1, i, m, h1, h2, h3, h4 => by
    show (if p i then nI i else fstB p (i + 1) n) = nI m
    by_cases e : i = m
    · subst e; rw [h3]; rfl
    · rw [h4 i (by omega) (by omega)]
      exact fstB_yes (by omega) (by omega) h3 (fun j h5 h6 => h4 j (by omega) h6)
theorem fstB_d (p : Nat → Bool) (n i : Nat) : (fstB p i n = -nI 1 ∧ ∀ j, i ≤ j → j < i + n → p j = false) ∨ ∃ m, i ≤ m ∧ m < i + n ∧ p m = true ∧ fstB p i n = nI m ∧ ∀ j, i ≤ j → j < m → p j = false := by
  by_cases h : ∃ m, i ≤ m ∧ m < i + n ∧ p m = true
  · obtain ⟨m, ⟨h1, h2, h3⟩, h4⟩ := pk_least (fun m => i ≤ m ∧ m < i + n ∧ p m = true) h
    have h5 : ∀ j, i ≤ j → j < m → p j = false := fun j p1 p2 => by
      cases q : p j
      · rfl
      · exact absurd ⟨p1, by omega, q⟩ (h4 j p2)
    exact Or.inr ⟨m, h1, h2, h3, fstB_yes h1 h2 h3 h5, h5⟩
  · left
    have h5 : ∀ j, i ≤ j → j < i + n → p j = false := fun j p1 p2 => by
      cases q : p j
      · rfl
      · exact absurd ⟨j, p1, p2, q⟩ h
    exact ⟨fstB_no h5, h5⟩
/-- the costs of the streets -/
theorem cst_b {Y : Nat → Nat → Int32} (w : WW Y) {s p v : Nat} (hs : s < nv Y 246 9) (hp : p < 4) (hv : 50 ≤ v) (hv2 : v ≤ 300) : 1 ≤ cst Y s p v ∧ cst Y s p v ≤ 300 ∧ nv Y 249 s * nv Y 250 (4 * s + p) ≤ 8000 ∧ nv Y 249 s * nv Y 250 (4 * s + p) * v ≤ 2400000 := by
  obtain ⟨-, -, w3, w4⟩ := w.st.1 s hs
  obtain ⟨w5, w6⟩ := w.st.2.2 (4 * s + p) (by omega)
  have u1 : 1 * 100 ≤ nv Y 249 s * nv Y 250 (4 * s + p) := Nat.mul_le_mul w4 w6
  have u2 : nv Y 249 s * nv Y 250 (4 * s + p) ≤ 20 * 400 := Nat.mul_le_mul w3.2 w5.2
  have u3 : 100 * 50 ≤ nv Y 249 s * nv Y 250 (4 * s + p) * v := Nat.mul_le_mul (by omega) hv
  have u4 : nv Y 249 s * nv Y 250 (4 * s + p) * v ≤ 8000 * 300 := Nat.mul_le_mul (by omega) hv2
  unfold cst
  omega
theorem adB_o {B : Nat → Nat → Bool} {t c t' c' : Nat} (h : t' ≠ t) : adB B t c t' c' = B t' c' := by unfold adB; rw [decide_eq_false h]; simp
/-- a step changes no row up to its own -/
theorem spr_row {Y : Nat → Nat → Int32} (w : WW Y) {v m p : Nat} {row : Nat → Bool} (hp : p < 4) (hv : 50 ≤ v) (hv2 : v ≤ 300) {B : Nat → Nat → Bool} : ∀ {s : Nat}, s ≤ nv Y 246 9 → ∀ t c, t ≤ m → spr Y v m p row s B t c = B t c
  | 0, _, t, c, _ => rfl
  | s + 1, hs, t, c, ht => by
    show spS Y v m p row s (spr Y v m p row s B) t c = B t c
    have ih := spr_row w (row := row) hp hv hv2 (B := B) (s := s) (by omega) t c ht
    have cb := (cst_b w (show s < nv Y 246 9 by omega) hp hv hv2).1
    have ne : t ≠ m + cst Y s p v := by omega
    unfold spS
    split
    · split
      · rw [adB_o ne]
        split
        · rw [adB_o ne]; exact ih
        · exact ih
      · split
        · rw [adB_o ne]; exact ih
        · exact ih
    · exact ih
theorem spr_s (Y : Nat → Nat → Int32) (v m p : Nat) (row : Nat → Bool) (s : Nat) (B : Nat → Nat → Bool) : spr Y v m p row (s + 1) B = spS Y v m p row s (spr Y v m p row s B) := rfl
theorem adB_in {B : Nat → Nat → Bool} {t c t' c' : Nat} (h : adB B t c t' c' = true) : B t' c' = true ∨ (t' = t ∧ c' = c) := by
  unfold adB at h
  rw [Bool.or_eq_true, Bool.and_eq_true] at h
  exact h.elim Or.inl (fun u => Or.inr ⟨of_decide_eq_true u.1, of_decide_eq_true u.2⟩)
/-- all that is reached lies in a set that the open streets don't leave -/
theorem spr_in {Y : Nat → Nat → Int32} {v m p : Nat} {row S : Nat → Bool} {B : Nat → Nat → Bool} (hr : ∀ c, row c = true → S c = true) (hB : ∀ t c, B t c = true → S c = true) : ∀ {n : Nat}, (∀ s, s < n → Y 252 s = nI 0 → (S (nv Y 247 s) = true → S (nv Y 248 s) = true) ∧ (S (nv Y 248 s) = true → S (nv Y 247 s) = true)) → ∀ t c, spr Y v m p row n B t c = true → S c = true
  | 0, _, t, c, h => hB t c h
  | s + 1, hc, t, c, h => by
    have ih := spr_in (Y := Y) (v := v) (m := m) (p := p) hr hB (n := s) (fun s' hs' => hc s' (by omega))
    rw [spr_s] at h
    have cl := hc s (by omega)
    unfold spS at h
    split at h
    · rename_i ho
      have cl := cl ho.1
      have one : ∀ t c, (if row (nv Y 247 s) then adB (spr Y v m p row s B) (m + cst Y s p v) (nv Y 248 s) else spr Y v m p row s B) t c = true → S c = true := by
        intro t c h
        split at h
        · rename_i r1
          rcases adB_in h with h | h
          · exact ih t c h
          · rw [h.2]; exact cl.1 (hr _ r1)
        · exact ih t c h
      split at h
      · rename_i r2
        rcases adB_in h with h | h
        · exact one t c h
        · rw [h.2]; exact cl.2 (hr _ r2)
      · exact one t c h
    · exact ih t c h
theorem Am_in {Y : Nat → Nat → Int32} {v mi fr : Nat} {S : Nat → Bool} (h0 : S fr = true) (hc : ∀ s, s < nv Y 246 9 → Y 252 s = nI 0 → (S (nv Y 247 s) = true → S (nv Y 248 s) = true) ∧ (S (nv Y 248 s) = true → S (nv Y 247 s) = true)) : ∀ (m t c : Nat), Am Y v mi fr m t c = true → S c = true
  | 0, t, c, h => by
    have h' : (decide (t = 0) && decide (c = fr)) = true := h
    rw [Bool.and_eq_true] at h'
    rw [of_decide_eq_true h'.2]; exact h0
  | m + 1, t, c, h => spr_in (fun c h => Am_in h0 hc m m c h) (fun t c h => Am_in h0 hc m t c h) hc t c h
theorem Am_20 {Y : Nat → Nat → Int32} (w : WW Y) {v mi fr : Nat} (hf : fr < 20) (m t c : Nat) (h : Am Y v mi fr m t c = true) : c < 20 := by
  refine of_decide_eq_true (Am_in (S := fun c => decide (c < 20)) (decide_eq_true hf) (fun s hs _ => ?_) m t c h)
  obtain ⟨w1, w2, -⟩ := w.st.1 s hs
  have u1 := w1.2
  have u2 := w2.2
  exact ⟨fun _ => decide_eq_true (by omega), fun _ => decide_eq_true (by omega)⟩
theorem Am_row {Y : Nat → Nat → Int32} (w : WW Y) {v mi fr m : Nat} (hv : 50 ≤ v) (hv2 : v ≤ 300) {t c : Nat} (ht : t ≤ m) : Am Y v mi fr (m + 1) t c = Am Y v mi fr m t c := spr_row w (pN_lt _) hv hv2 (Nat.le_refl _) t c ht
theorem spr_0 {Y : Nat → Nat → Int32} {v m p : Nat} {row : Nat → Bool} (hr : ∀ c, row c = false) {B : Nat → Nat → Bool} : ∀ n, spr Y v m p row n B = B
  | 0 => rfl
  | s + 1 => by
    rw [spr_s, spr_0 hr s]
    unfold spS
    rw [hr, hr]
    simp
