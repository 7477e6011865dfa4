/-! ROUNDS: the search that goes down first; nothing of the machine. -/
def bt2 (W M : Nat) : Option (Nat × Nat × List Nat) → Prop
  | none => True
  | some b => btr W M b.1 b.2.1
/-- what a search over X makes of the best -/
def Pst (sW sM : List Nat → Nat) (X : List Nat → Prop) (b b' : Option (Nat × Nat × List Nat)) : Prop :=
  (b' = b ∧ ∀ L, X L → ¬ bt2 (sW L) (sM L) b) ∨ (∃ B, b' = some (sW B, sM B, B) ∧ X B ∧ bt2 (sW B) (sM B) b ∧ ∀ L, X L → ¬ btr (sW L) (sM L) (sW B) (sM B) ∧ (sW L = sW B → sM L = sM B → lxL B L))
theorem bt2_tr {W M W' M' : Nat} {b : Option (Nat × Nat × List Nat)} (h : bt2 W' M' b) (h2 : ¬ btr W' M' W M) : bt2 W M b := by
  cases b with
  | none => trivial
  | some b =>
    have h : btr W' M' b.1 b.2.1 := h
    show btr W M b.1 b.2.1
    unfold btr at *
    omega
theorem Pst.e {sW sM : List Nat → Nat} {X : List Nat → Prop} {b : Option (Nat × Nat × List Nat)} (h : ∀ L, ¬ X L) : Pst sW sM X b b := Or.inl ⟨rfl, fun L q => absurd q (h L)⟩
theorem Pst.mono {sW sM : List Nat → Nat} {X X' : List Nat → Prop} {b b' : Option (Nat × Nat × List Nat)} (h : Pst sW sM X b b') (e : ∀ L, X L ↔ X' L) : Pst sW sM X' b b' := by
  have : X = X' := funext (fun L => propext (e L))
  rw [← this]; exact h
theorem Pst.tr {sW sM : List Nat → Nat} {X1 X2 : List Nat → Prop} {b b1 b2 : Option (Nat × Nat × List Nat)} (h1 : Pst sW sM X1 b b1) (h2 : Pst sW sM X2 b1 b2) (lx : ∀ L1 L2, X1 L1 → X2 L2 → lxL L1 L2) : Pst sW sM (fun L => X1 L ∨ X2 L) b b2 := by
  rcases h1 with ⟨rfl, n1⟩ | ⟨B1, rfl, x1, t1, d1⟩
  · rcases h2 with ⟨rfl, n2⟩ | ⟨B2, rfl, x2, t2, d2⟩
    · exact Or.inl ⟨rfl, fun L q => q.elim (n1 L) (n2 L)⟩
    · refine Or.inr ⟨B2, rfl, Or.inr x2, t2, fun L q => ?_⟩
      rcases q with q | q
      · have nb : ¬ bt2 (sW L) (sM L) b1 := n1 L q
        refine ⟨fun u => nb (bt2_tr t2 (by unfold btr at *; omega)), fun e1 e2 => absurd ?_ nb⟩
        rw [e1, e2]; exact t2
      · exact d2 L q
  · rcases h2 with ⟨rfl, n2⟩ | ⟨B2, rfl, x2, t2, d2⟩
    · refine Or.inr ⟨B1, rfl, Or.inl x1, t1, fun L q => ?_⟩
      rcases q with q | q
      · exact d1 L q
      · exact ⟨n2 L q, fun _ _ => lx B1 L x1 q⟩
    · have t2' : btr (sW B2) (sM B2) (sW B1) (sM B1) := t2
      refine Or.inr ⟨B2, rfl, Or.inr x2, bt2_tr t1 (by unfold btr at *; omega), fun L q => ?_⟩
      rcases q with q | q
      · have := (d1 L q).1
        refine ⟨by unfold btr at *; omega, fun e1 e2 => ?_⟩
        exfalso
        unfold btr at *
        omega
      · exact d2 L q
/-- tours that go on behind p over S -/
def XT (n : Nat) (S : Nat → Bool) (sM : List Nat → Nat) (most : Nat) (p : List Nat) (L : List Nat) : Prop := ∃ q, L = p ++ q ∧ q.Nodup ∧ (∀ i, i ∈ q → i < n ∧ S i = true) ∧ sM L ≤ most
/-- p itself; those that go on with one below k -/
def XK (n : Nat) (S : Nat → Bool) (sM : List Nat → Nat) (most : Nat) (p : List Nat) (k : Nat) (L : List Nat) : Prop := (L = p ∧ sM L ≤ most) ∨ ∃ i q, i < k ∧ L = p ++ i :: q ∧ (i :: q).Nodup ∧ (∀ j, j ∈ i :: q → j < n ∧ S j = true) ∧ sM L ≤ most
def rmS (S : Nat → Bool) (h : Nat) (i : Nat) : Bool := S i && !decide (i = h)
theorem XK_n {n : Nat} {S : Nat → Bool} {sM : List Nat → Nat} {most : Nat} {p L : List Nat} : XK n S sM most p n L ↔ XT n S sM most p L := by
  constructor
  · rintro (⟨rfl, h⟩ | ⟨i, q, hi, rfl, h1, h2, h3⟩)
    · exact ⟨[], by simp, List.nodup_nil, fun i q => absurd q List.not_mem_nil, h⟩
    · exact ⟨i :: q, rfl, h1, h2, h3⟩
  · rintro ⟨q, rfl, h1, h2, h3⟩
    cases q with
    | nil => exact Or.inl ⟨by simp, h3⟩
    | cons i q => exact Or.inr ⟨i, q, (h2 i (List.mem_cons_self ..)).1, rfl, h1, h2, h3⟩
theorem XK_s {n : Nat} {S : Nat → Bool} {sM : List Nat → Nat} {most : Nat} {p : List Nat} {k : Nat} (hk : k < n) (hS : S k = true) (L : List Nat) : (XK n S sM most p k L ∨ XT n (rmS S k) sM most (p ++ [k]) L) ↔ XK n S sM most p (k + 1) L := by
  constructor
  · rintro ((h | ⟨i, q, hi, h⟩) | ⟨q, e, h1, h2, h3⟩)
    · exact Or.inl h
    · exact Or.inr ⟨i, q, by omega, h⟩
    · refine Or.inr ⟨k, q, by omega, by rw [e, List.append_assoc]; rfl, List.nodup_cons.mpr ⟨fun u => ?_, h1⟩, fun j hj => ?_, h3⟩
      · have := (h2 k u).2
        unfold rmS at this
        simp at this
      · rcases List.mem_cons.mp hj with rfl | u
        · exact ⟨hk, hS⟩
        · have := h2 j u
          unfold rmS at this
          simp at this
          exact ⟨this.1, this.2.1⟩
  · rintro (h | ⟨i, q, hi, e, h1, h2, h3⟩)
    · exact Or.inl (Or.inl h)
    · by_cases ei : i = k
      · subst ei
        have h1 := List.nodup_cons.mp h1
        refine Or.inr ⟨q, by rw [e, List.append_assoc]; rfl, h1.2, fun j hj => ⟨(h2 j (List.mem_cons_of_mem _ hj)).1, ?_⟩, h3⟩
        unfold rmS
        have : j ≠ i := fun u => h1.1 (u ▸ hj)
        simp [this, (h2 j (List.mem_cons_of_mem _ hj)).2]
      · exact Or.inl (Or.inr ⟨i, q, by omega, e, h1, h2, h3⟩)
theorem XK_f {n : Nat} {S : Nat → Bool} {sM : List Nat → Nat} {most : Nat} {p : List Nat} {k : Nat} (hS : S k = false ∨ ∀ q, most < sM (p ++ k :: q)) (L : List Nat) : XK n S sM most p k L ↔ XK n S sM most p (k + 1) L := by
  constructor
  · rintro (h | ⟨i, q, hi, h⟩)
    · exact Or.inl h
    · exact Or.inr ⟨i, q, by omega, h⟩
  · rintro (h | ⟨i, q, hi, e, h1, h2, h3⟩)
    · exact Or.inl h
    · refine Or.inr ⟨i, q, ?_, e, h1, h2, h3⟩
      rcases Nat.lt_or_ge i k with u | u
      · exact u
      · have ei : i = k := by omega
        subst ei
        exfalso
        rcases hS with hS | hS
        · have := (h2 i (List.mem_cons_self ..)).2
          rw [hS] at this; cases this
        · have := hS q
          rw [← e] at this
          omega
theorem XK_lx {n : Nat} {S S' : Nat → Bool} {sM : List Nat → Nat} {most : Nat} {p : List Nat} {k : Nat} (L1 L2 : List Nat) (h1 : XK n S sM most p k L1) (h2 : XT n S' sM most (p ++ [k]) L2) : lxL L1 L2 := by
  obtain ⟨q2, e2, -⟩ := h2
  rw [List.append_assoc] at e2
  rw [e2]
  rcases h1 with ⟨rfl, -⟩ | ⟨i, q, hi, rfl, -⟩
  · have := lxL_app L1 [] ([k] ++ q2) trivial
    rw [List.append_nil] at this
    exact this
  · exact lxL_app p _ _ (Or.inl hi)
theorem cn_rm {S : Nat → Bool} {h : Nat} (hS : S h = true) : ∀ n, cn S n = cn (rmS S h) n + (if h < n then 1 else 0)
  | 0 => rfl
  | n + 1 => by
    have ih := cn_rm hS n
    show cn S n + (if S n then 1 else 0) = cn (rmS S h) n + (if rmS S h n then 1 else 0) + _
    by_cases e : n = h
    · subst e
      have r : rmS S n n = false := by unfold rmS; simp
      rw [ih, r, hS, if_neg (Nat.lt_irrefl _), if_pos (Nat.lt_succ_self _)]
      simp
    · have r : rmS S h n = S n := by unfold rmS; simp [e]
      rw [ih, r]
      by_cases q : h < n
      · rw [if_pos q, if_pos (by omega : h < n + 1)]; omega
      · rw [if_neg q, if_neg (by omega : ¬ h < n + 1)]; omega
theorem cn_z {S : Nat → Bool} : ∀ n, cn S n = 0 → ∀ i, i < n → S i = false
  | 0, _, i, hi => absurd hi (Nat.not_lt_zero i)
  | n + 1, h, i, hi => by
    have h : cn S n + (if S n then 1 else 0) = 0 := h
    by_cases e : i = n
    · subst e
      cases q : S i
      · rfl
      · rw [q] at h; simp at h
    · exact cn_z n (by omega) i (by omega)
