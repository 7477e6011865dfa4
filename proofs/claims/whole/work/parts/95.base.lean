/-! PURE ROWS: loops by an index that falls, small methods. -/
theorem Lp1.ind {A0 : Type} {F : (A0 → Prop) → A0 → Prop} {a0 : A0} (J : Nat → A0 → Prop) (i0 : Nat) (h0 : J i0 a0) (hs : ∀ i b0, J i b0 → ∀ L : A0 → Prop, (∀ j a0, j < i → J j a0 → L a0) → F L b0) : Lp1 F a0 := by
  have ex : ∀ (b0 : A0), ∃ m : Nat, (∃ i, J i b0) → (J m b0 ∧ ∀ j, j < m → ¬ J j b0) := by
    intro b0
    by_cases h : ∃ i, J i b0
    · obtain ⟨m, h1, h2⟩ := pk_least (fun i => J i b0) h
      exact ⟨m, fun _ => ⟨h1, h2⟩⟩
    · exact ⟨0, fun h' => absurd h' h⟩
  refine ⟨fun a0 => ∃ i, J i a0, fun a0 => Classical.choose (ex a0), ⟨i0, h0⟩, fun b0 hb => ?_⟩
  have hc := Classical.choose_spec (ex b0) hb
  refine hs (Classical.choose (ex b0)) b0 hc.1 _ (fun j a0 hj hJ => ⟨⟨j, hJ⟩, ?_⟩)
  have hc2 := Classical.choose_spec (ex a0) ⟨j, hJ⟩
  have : ¬ j < Classical.choose (ex a0) := fun h => hc2.2 j h hJ
  show Classical.choose (ex a0) < Classical.choose (ex b0)
  omega
/-- a loop that goes through f 0, f 1, .., f n -/
theorem Lp1.seq {A0 : Type} {F : (A0 → Prop) → A0 → Prop} {a0 : A0} (n : Nat) (f0 : Nat → A0) (e0 : a0 = f0 0) (hs : ∀ i, i < n → ∀ L : A0 → Prop, L (f0 (i + 1)) → F L (f0 i)) (he : ∀ L : A0 → Prop, F L (f0 n)) : Lp1 F a0 := by
  refine Lp1.ind (fun i b0 => i ≤ n ∧ b0 = f0 (n - i)) n ⟨Nat.le_refl n, by rw [Nat.sub_self]; exact e0⟩ ?_
  intro i b0 hJ L hL
  obtain ⟨hi, rfl⟩ := hJ
  cases i with
  | zero => exact he L
  | succ i =>
    refine hs (n - (i + 1)) (by omega) L (hL i _ (Nat.lt_succ_self i) ⟨by omega, by rw [show n - (i + 1) + 1 = n - i by omega]⟩)
theorem Lp2.ind {A0 A1 : Type} {F : (A0 → A1 → Prop) → A0 → A1 → Prop} {a0 : A0} {a1 : A1} (J : Nat → A0 → A1 → Prop) (i0 : Nat) (h0 : J i0 a0 a1) (hs : ∀ i b0 b1, J i b0 b1 → ∀ L : A0 → A1 → Prop, (∀ j a0 a1, j < i → J j a0 a1 → L a0 a1) → F L b0 b1) : Lp2 F a0 a1 := by
  have ex : ∀ (b0 : A0) (b1 : A1), ∃ m : Nat, (∃ i, J i b0 b1) → (J m b0 b1 ∧ ∀ j, j < m → ¬ J j b0 b1) := by
    intro b0 b1
    by_cases h : ∃ i, J i b0 b1
    · obtain ⟨m, h1, h2⟩ := pk_least (fun i => J i b0 b1) h
      exact ⟨m, fun _ => ⟨h1, h2⟩⟩
    · exact ⟨0, fun h' => absurd h' h⟩
  refine ⟨fun a0 a1 => ∃ i, J i a0 a1, fun a0 a1 => Classical.choose (ex a0 a1), ⟨i0, h0⟩, fun b0 b1 hb => ?_⟩
  have hc := Classical.choose_spec (ex b0 b1) hb
  refine hs (Classical.choose (ex b0 b1)) b0 b1 hc.1 _ (fun j a0 a1 hj hJ => ⟨⟨j, hJ⟩, ?_⟩)
  have hc2 := Classical.choose_spec (ex a0 a1) ⟨j, hJ⟩
  have : ¬ j < Classical.choose (ex a0 a1) := fun h => hc2.2 j h hJ
  show Classical.choose (ex a0 a1) < Classical.choose (ex b0 b1)
  omega
/-- a loop that goes through f 0, f 1, .., f n -/
theorem Lp2.seq {A0 A1 : Type} {F : (A0 → A1 → Prop) → A0 → A1 → Prop} {a0 : A0} {a1 : A1} (n : Nat) (f0 : Nat → A0) (f1 : Nat → A1) (e0 : a0 = f0 0) (e1 : a1 = f1 0) (hs : ∀ i, i < n → ∀ L : A0 → A1 → Prop, L (f0 (i + 1)) (f1 (i + 1)) → F L (f0 i) (f1 i)) (he : ∀ L : A0 → A1 → Prop, F L (f0 n) (f1 n)) : Lp2 F a0 a1 := by
  refine Lp2.ind (fun i b0 b1 => i ≤ n ∧ b0 = f0 (n - i) ∧ b1 = f1 (n - i)) n ⟨Nat.le_refl n, by rw [Nat.sub_self]; exact e0, by rw [Nat.sub_self]; exact e1⟩ ?_
  intro i b0 b1 hJ L hL
  obtain ⟨hi, rfl, rfl⟩ := hJ
  cases i with
  | zero => exact he L
  | succ i =>
    refine hs (n - (i + 1)) (by omega) L (hL i _ _ (Nat.lt_succ_self i) ⟨by omega, by rw [show n - (i + 1) + 1 = n - i by omega], by rw [show n - (i + 1) + 1 = n - i by omega]⟩)
theorem Lp3.ind {A0 A1 A2 : Type} {F : (A0 → A1 → A2 → Prop) → A0 → A1 → A2 → Prop} {a0 : A0} {a1 : A1} {a2 : A2} (J : Nat → A0 → A1 → A2 → Prop) (i0 : Nat) (h0 : J i0 a0 a1 a2) (hs : ∀ i b0 b1 b2, J i b0 b1 b2 → ∀ L : A0 → A1 → A2 → Prop, (∀ j a0 a1 a2, j < i → J j a0 a1 a2 → L a0 a1 a2) → F L b0 b1 b2) : Lp3 F a0 a1 a2 := by
  have ex : ∀ (b0 : A0) (b1 : A1) (b2 : A2), ∃ m : Nat, (∃ i, J i b0 b1 b2) → (J m b0 b1 b2 ∧ ∀ j, j < m → ¬ J j b0 b1 b2) := by
    intro b0 b1 b2
    by_cases h : ∃ i, J i b0 b1 b2
    · obtain ⟨m, h1, h2⟩ := pk_least (fun i => J i b0 b1 b2) h
      exact ⟨m, fun _ => ⟨h1, h2⟩⟩
    · exact ⟨0, fun h' => absurd h' h⟩
  refine ⟨fun a0 a1 a2 => ∃ i, J i a0 a1 a2, fun a0 a1 a2 => Classical.choose (ex a0 a1 a2), ⟨i0, h0⟩, fun b0 b1 b2 hb => ?_⟩
  have hc := Classical.choose_spec (ex b0 b1 b2) hb
  refine hs (Classical.choose (ex b0 b1 b2)) b0 b1 b2 hc.1 _ (fun j a0 a1 a2 hj hJ => ⟨⟨j, hJ⟩, ?_⟩)
  have hc2 := Classical.choose_spec (ex a0 a1 a2) ⟨j, hJ⟩
  have : ¬ j < Classical.choose (ex a0 a1 a2) := fun h => hc2.2 j h hJ
  show Classical.choose (ex a0 a1 a2) < Classical.choose (ex b0 b1 b2)
  omega
/-- a loop that goes through f 0, f 1, .., f n -/
theorem Lp3.seq {A0 A1 A2 : Type} {F : (A0 → A1 → A2 → Prop) → A0 → A1 → A2 → Prop} {a0 : A0} {a1 : A1} {a2 : A2} (n : Nat) (f0 : Nat → A0) (f1 : Nat → A1) (f2 : Nat → A2) (e0 : a0 = f0 0) (e1 : a1 = f1 0) (e2 : a2 = f2 0) (hs : ∀ i, i < n → ∀ L : A0 → A1 → A2 → Prop, L (f0 (i + 1)) (f1 (i + 1)) (f2 (i + 1)) → F L (f0 i) (f1 i) (f2 i)) (he : ∀ L : A0 → A1 → A2 → Prop, F L (f0 n) (f1 n) (f2 n)) : Lp3 F a0 a1 a2 := by
  refine Lp3.ind (fun i b0 b1 b2 => i ≤ n ∧ b0 = f0 (n - i) ∧ b1 = f1 (n - i) ∧ b2 = f2 (n - i)) n ⟨Nat.le_refl n, by rw [Nat.sub_self]; exact e0, by rw [Nat.sub_self]; exact e1, by rw [Nat.sub_self]; exact e2⟩ ?_
  intro i b0 b1 b2 hJ L hL
  obtain ⟨hi, rfl, rfl, rfl⟩ := hJ
  cases i with
  | zero => exact he L
  | succ i =>
    refine hs (n - (i + 1)) (by omega) L (hL i _ _ _ (Nat.lt_succ_self i) ⟨by omega, by rw [show n - (i + 1) + 1 = n - i by omega], by rw [show n - (i + 1) + 1 = n - i by omega], by rw [show n - (i + 1) + 1 = n - i by omega]⟩)
theorem Lp4.ind {A0 A1 A2 A3 : Type} {F : (A0 → A1 → A2 → A3 → Prop) → A0 → A1 → A2 → A3 → Prop} {a0 : A0} {a1 : A1} {a2 : A2} {a3 : A3} (J : Nat → A0 → A1 → A2 → A3 → Prop) (i0 : Nat) (h0 : J i0 a0 a1 a2 a3) (hs : ∀ i b0 b1 b2 b3, J i b0 b1 b2 b3 → ∀ L : A0 → A1 → A2 → A3 → Prop, (∀ j a0 a1 a2 a3, j < i → J j a0 a1 a2 a3 → L a0 a1 a2 a3) → F L b0 b1 b2 b3) : Lp4 F a0 a1 a2 a3 := by
  have ex : ∀ (b0 : A0) (b1 : A1) (b2 : A2) (b3 : A3), ∃ m : Nat, (∃ i, J i b0 b1 b2 b3) → (J m b0 b1 b2 b3 ∧ ∀ j, j < m → ¬ J j b0 b1 b2 b3) := by
    intro b0 b1 b2 b3
    by_cases h : ∃ i, J i b0 b1 b2 b3
    · obtain ⟨m, h1, h2⟩ := pk_least (fun i => J i b0 b1 b2 b3) h
      exact ⟨m, fun _ => ⟨h1, h2⟩⟩
    · exact ⟨0, fun h' => absurd h' h⟩
  refine ⟨fun a0 a1 a2 a3 => ∃ i, J i a0 a1 a2 a3, fun a0 a1 a2 a3 => Classical.choose (ex a0 a1 a2 a3), ⟨i0, h0⟩, fun b0 b1 b2 b3 hb => ?_⟩
  have hc := Classical.choose_spec (ex b0 b1 b2 b3) hb
  refine hs (Classical.choose (ex b0 b1 b2 b3)) b0 b1 b2 b3 hc.1 _ (fun j a0 a1 a2 a3 hj hJ => ⟨⟨j, hJ⟩, ?_⟩)
  have hc2 := Classical.choose_spec (ex a0 a1 a2 a3) ⟨j, hJ⟩
  have : ¬ j < Classical.choose (ex a0 a1 a2 a3) := fun h => hc2.2 j h hJ
  show Classical.choose (ex a0 a1 a2 a3) < Classical.choose (ex b0 b1 b2 b3)
  omega
/-- a loop that goes through f 0, f 1, .., f n -/
theorem Lp4.seq {A0 A1 A2 A3 : Type} {F : (A0 → A1 → A2 → A3 → Prop) → A0 → A1 → A2 → A3 → Prop} {a0 : A0} {a1 : A1} {a2 : A2} {a3 : A3} (n : Nat) (f0 : Nat → A0) (f1 : Nat → A1) (f2 : Nat → A2) (f3 : Nat → A3) (e0 : a0 = f0 0) (e1 : a1 = f1 0) (e2 : a2 = f2 0) (e3 : a3 = f3 0) (hs : ∀ i, i < n → ∀ L : A0 → A1 → A2 → A3 → Prop, L (f0 (i + 1)) (f1 (i + 1)) (f2 (i + 1)) (f3 (i + 1)) → F L (f0 i) (f1 i) (f2 i) (f3 i)) (he : ∀ L : A0 → A1 → A2 → A3 → Prop, F L (f0 n) (f1 n) (f2 n) (f3 n)) : Lp4 F a0 a1 a2 a3 := by
  refine Lp4.ind (fun i b0 b1 b2 b3 => i ≤ n ∧ b0 = f0 (n - i) ∧ b1 = f1 (n - i) ∧ b2 = f2 (n - i) ∧ b3 = f3 (n - i)) n ⟨Nat.le_refl n, by rw [Nat.sub_self]; exact e0, by rw [Nat.sub_self]; exact e1, by rw [Nat.sub_self]; exact e2, by rw [Nat.sub_self]; exact e3⟩ ?_
  intro i b0 b1 b2 b3 hJ L hL
  obtain ⟨hi, rfl, rfl, rfl, rfl⟩ := hJ
  cases i with
  | zero => exact he L
  | succ i =>
    refine hs (n - (i + 1)) (by omega) L (hL i _ _ _ _ (Nat.lt_succ_self i) ⟨by omega, by rw [show n - (i + 1) + 1 = n - i by omega], by rw [show n - (i + 1) + 1 = n - i by omega], by rw [show n - (i + 1) + 1 = n - i by omega], by rw [show n - (i + 1) + 1 = n - i by omega]⟩)
theorem Lp5.ind {A0 A1 A2 A3 A4 : Type} {F : (A0 → A1 → A2 → A3 → A4 → Prop) → A0 → A1 → A2 → A3 → A4 → Prop} {a0 : A0} {a1 : A1} {a2 : A2} {a3 : A3} {a4 : A4} (J : Nat → A0 → A1 → A2 → A3 → A4 → Prop) (i0 : Nat) (h0 : J i0 a0 a1 a2 a3 a4) (hs : ∀ i b0 b1 b2 b3 b4, J i b0 b1 b2 b3 b4 → ∀ L : A0 → A1 → A2 → A3 → A4 → Prop, (∀ j a0 a1 a2 a3 a4, j < i → J j a0 a1 a2 a3 a4 → L a0 a1 a2 a3 a4) → F L b0 b1 b2 b3 b4) : Lp5 F a0 a1 a2 a3 a4 := by
  have ex : ∀ (b0 : A0) (b1 : A1) (b2 : A2) (b3 : A3) (b4 : A4), ∃ m : Nat, (∃ i, J i b0 b1 b2 b3 b4) → (J m b0 b1 b2 b3 b4 ∧ ∀ j, j < m → ¬ J j b0 b1 b2 b3 b4) := by
    intro b0 b1 b2 b3 b4
    by_cases h : ∃ i, J i b0 b1 b2 b3 b4
    · obtain ⟨m, h1, h2⟩ := pk_least (fun i => J i b0 b1 b2 b3 b4) h
      exact ⟨m, fun _ => ⟨h1, h2⟩⟩
    · exact ⟨0, fun h' => absurd h' h⟩
  refine ⟨fun a0 a1 a2 a3 a4 => ∃ i, J i a0 a1 a2 a3 a4, fun a0 a1 a2 a3 a4 => Classical.choose (ex a0 a1 a2 a3 a4), ⟨i0, h0⟩, fun b0 b1 b2 b3 b4 hb => ?_⟩
  have hc := Classical.choose_spec (ex b0 b1 b2 b3 b4) hb
  refine hs (Classical.choose (ex b0 b1 b2 b3 b4)) b0 b1 b2 b3 b4 hc.1 _ (fun j a0 a1 a2 a3 a4 hj hJ => ⟨⟨j, hJ⟩, ?_⟩)
  have hc2 := Classical.choose_spec (ex a0 a1 a2 a3 a4) ⟨j, hJ⟩
  have : ¬ j < Classical.choose (ex a0 a1 a2 a3 a4) := fun h => hc2.2 j h hJ
  show Classical.choose (ex a0 a1 a2 a3 a4) < Classical.choose (ex b0 b1 b2 b3 b4)
  omega
/-- a loop that goes through f 0, f 1, .., f n -/
theorem Lp5.seq {A0 A1 A2 A3 A4 : Type} {F : (A0 → A1 → A2 → A3 → A4 → Prop) → A0 → A1 → A2 → A3 → A4 → Prop} {a0 : A0} {a1 : A1} {a2 : A2} {a3 : A3} {a4 : A4} (n : Nat) (f0 : Nat → A0) (f1 : Nat → A1) (f2 : Nat → A2) (f3 : Nat → A3) (f4 : Nat → A4) (e0 : a0 = f0 0) (e1 : a1 = f1 0) (e2 : a2 = f2 0) (e3 : a3 = f3 0) (e4 : a4 = f4 0) (hs : ∀ i, i < n → ∀ L : A0 → A1 → A2 → A3 → A4 → Prop, L (f0 (i + 1)) (f1 (i + 1)) (f2 (i + 1)) (f3 (i + 1)) (f4 (i + 1)) → F L (f0 i) (f1 i) (f2 i) (f3 i) (f4 i)) (he : ∀ L : A0 → A1 → A2 → A3 → A4 → Prop, F L (f0 n) (f1 n) (f2 n) (f3 n) (f4 n)) : Lp5 F a0 a1 a2 a3 a4 := by
  refine Lp5.ind (fun i b0 b1 b2 b3 b4 => i ≤ n ∧ b0 = f0 (n - i) ∧ b1 = f1 (n - i) ∧ b2 = f2 (n - i) ∧ b3 = f3 (n - i) ∧ b4 = f4 (n - i)) n ⟨Nat.le_refl n, by rw [Nat.sub_self]; exact e0, by rw [Nat.sub_self]; exact e1, by rw [Nat.sub_self]; exact e2, by rw [Nat.sub_self]; exact e3, by rw [Nat.sub_self]; exact e4⟩ ?_
  intro i b0 b1 b2 b3 b4 hJ L hL
  obtain ⟨hi, rfl, rfl, rfl, rfl, rfl⟩ := hJ
  cases i with
  | zero => exact he L
  | succ i =>
    refine hs (n - (i + 1)) (by omega) L (hL i _ _ _ _ _ (Nat.lt_succ_self i) ⟨by omega, by rw [show n - (i + 1) + 1 = n - i by omega], by rw [show n - (i + 1) + 1 = n - i by omega], by rw [show n - (i + 1) + 1 = n - i by omega], by rw [show n - (i + 1) + 1 = n - i by omega], by rw [show n - (i + 1) + 1 = n - i by omega]⟩)
theorem Lp6.ind {A0 A1 A2 A3 A4 A5 : Type} {F : (A0 → A1 → A2 → A3 → A4 → A5 → Prop) → A0 → A1 → A2 → A3 → A4 → A5 → Prop} {a0 : A0} {a1 : A1} {a2 : A2} {a3 : A3} {a4 : A4} {a5 : A5} (J : Nat → A0 → A1 → A2 → A3 → A4 → A5 → Prop) (i0 : Nat) (h0 : J i0 a0 a1 a2 a3 a4 a5) (hs : ∀ i b0 b1 b2 b3 b4 b5, J i b0 b1 b2 b3 b4 b5 → ∀ L : A0 → A1 → A2 → A3 → A4 → A5 → Prop, (∀ j a0 a1 a2 a3 a4 a5, j < i → J j a0 a1 a2 a3 a4 a5 → L a0 a1 a2 a3 a4 a5) → F L b0 b1 b2 b3 b4 b5) : Lp6 F a0 a1 a2 a3 a4 a5 := by
  have ex : ∀ (b0 : A0) (b1 : A1) (b2 : A2) (b3 : A3) (b4 : A4) (b5 : A5), ∃ m : Nat, (∃ i, J i b0 b1 b2 b3 b4 b5) → (J m b0 b1 b2 b3 b4 b5 ∧ ∀ j, j < m → ¬ J j b0 b1 b2 b3 b4 b5) := by
    intro b0 b1 b2 b3 b4 b5
    by_cases h : ∃ i, J i b0 b1 b2 b3 b4 b5
    · obtain ⟨m, h1, h2⟩ := pk_least (fun i => J i b0 b1 b2 b3 b4 b5) h
      exact ⟨m, fun _ => ⟨h1, h2⟩⟩
    · exact ⟨0, fun h' => absurd h' h⟩
  refine ⟨fun a0 a1 a2 a3 a4 a5 => ∃ i, J i a0 a1 a2 a3 a4 a5, fun a0 a1 a2 a3 a4 a5 => Classical.choose (ex a0 a1 a2 a3 a4 a5), ⟨i0, h0⟩, fun b0 b1 b2 b3 b4 b5 hb => ?_⟩
  have hc := Classical.choose_spec (ex b0 b1 b2 b3 b4 b5) hb
  refine hs (Classical.choose (ex b0 b1 b2 b3 b4 b5)) b0 b1 b2 b3 b4 b5 hc.1 _ (fun j a0 a1 a2 a3 a4 a5 hj hJ => ⟨⟨j, hJ⟩, ?_⟩)
  have hc2 := Classical.choose_spec (ex a0 a1 a2 a3 a4 a5) ⟨j, hJ⟩
  have : ¬ j < Classical.choose (ex a0 a1 a2 a3 a4 a5) := fun h => hc2.2 j h hJ
  show Classical.choose (ex a0 a1 a2 a3 a4 a5) < Classical.choose (ex b0 b1 b2 b3 b4 b5)
  omega
/-- a loop that goes through f 0, f 1, .., f n -/
theorem Lp6.seq {A0 A1 A2 A3 A4 A5 : Type} {F : (A0 → A1 → A2 → A3 → A4 → A5 → Prop) → A0 → A1 → A2 → A3 → A4 → A5 → Prop} {a0 : A0} {a1 : A1} {a2 : A2} {a3 : A3} {a4 : A4} {a5 : A5} (n : Nat) (f0 : Nat → A0) (f1 : Nat → A1) (f2 : Nat → A2) (f3 : Nat → A3) (f4 : Nat → A4) (f5 : Nat → A5) (e0 : a0 = f0 0) (e1 : a1 = f1 0) (e2 : a2 = f2 0) (e3 : a3 = f3 0) (e4 : a4 = f4 0) (e5 : a5 = f5 0) (hs : ∀ i, i < n → ∀ L : A0 → A1 → A2 → A3 → A4 → A5 → Prop, L (f0 (i + 1)) (f1 (i + 1)) (f2 (i + 1)) (f3 (i + 1)) (f4 (i + 1)) (f5 (i + 1)) → F L (f0 i) (f1 i) (f2 i) (f3 i) (f4 i) (f5 i)) (he : ∀ L : A0 → A1 → A2 → A3 → A4 → A5 → Prop, F L (f0 n) (f1 n) (f2 n) (f3 n) (f4 n) (f5 n)) : Lp6 F a0 a1 a2 a3 a4 a5 := by
  refine Lp6.ind (fun i b0 b1 b2 b3 b4 b5 => i ≤ n ∧ b0 = f0 (n - i) ∧ b1 = f1 (n - i) ∧ b2 = f2 (n - i) ∧ b3 = f3 (n - i) ∧ b4 = f4 (n - i) ∧ b5 = f5 (n - i)) n ⟨Nat.le_refl n, by rw [Nat.sub_self]; exact e0, by rw [Nat.sub_self]; exact e1, by rw [Nat.sub_self]; exact e2, by rw [Nat.sub_self]; exact e3, by rw [Nat.sub_self]; exact e4, by rw [Nat.sub_self]; exact e5⟩ ?_
  intro i b0 b1 b2 b3 b4 b5 hJ L hL
  obtain ⟨hi, rfl, rfl, rfl, rfl, rfl, rfl⟩ := hJ
  cases i with
  | zero => exact he L
  | succ i =>
    refine hs (n - (i + 1)) (by omega) L (hL i _ _ _ _ _ _ (Nat.lt_succ_self i) ⟨by omega, by rw [show n - (i + 1) + 1 = n - i by omega], by rw [show n - (i + 1) + 1 = n - i by omega], by rw [show n - (i + 1) + 1 = n - i by omega], by rw [show n - (i + 1) + 1 = n - i by omega], by rw [show n - (i + 1) + 1 = n - i by omega], by rw [show n - (i + 1) + 1 = n - i by omega]⟩)
theorem Lp7.ind {A0 A1 A2 A3 A4 A5 A6 : Type} {F : (A0 → A1 → A2 → A3 → A4 → A5 → A6 → Prop) → A0 → A1 → A2 → A3 → A4 → A5 → A6 → Prop} {a0 : A0} {a1 : A1} {a2 : A2} {a3 : A3} {a4 : A4} {a5 : A5} {a6 : A6} (J : Nat → A0 → A1 → A2 → A3 → A4 → A5 → A6 → Prop) (i0 : Nat) (h0 : J i0 a0 a1 a2 a3 a4 a5 a6) (hs : ∀ i b0 b1 b2 b3 b4 b5 b6, J i b0 b1 b2 b3 b4 b5 b6 → ∀ L : A0 → A1 → A2 → A3 → A4 → A5 → A6 → Prop, (∀ j a0 a1 a2 a3 a4 a5 a6, j < i → J j a0 a1 a2 a3 a4 a5 a6 → L a0 a1 a2 a3 a4 a5 a6) → F L b0 b1 b2 b3 b4 b5 b6) : Lp7 F a0 a1 a2 a3 a4 a5 a6 := by
  have ex : ∀ (b0 : A0) (b1 : A1) (b2 : A2) (b3 : A3) (b4 : A4) (b5 : A5) (b6 : A6), ∃ m : Nat, (∃ i, J i b0 b1 b2 b3 b4 b5 b6) → (J m b0 b1 b2 b3 b4 b5 b6 ∧ ∀ j, j < m → ¬ J j b0 b1 b2 b3 b4 b5 b6) := by
    intro b0 b1 b2 b3 b4 b5 b6
    by_cases h : ∃ i, J i b0 b1 b2 b3 b4 b5 b6
    · obtain ⟨m, h1, h2⟩ := pk_least (fun i => J i b0 b1 b2 b3 b4 b5 b6) h
      exact ⟨m, fun _ => ⟨h1, h2⟩⟩
    · exact ⟨0, fun h' => absurd h' h⟩
  refine ⟨fun a0 a1 a2 a3 a4 a5 a6 => ∃ i, J i a0 a1 a2 a3 a4 a5 a6, fun a0 a1 a2 a3 a4 a5 a6 => Classical.choose (ex a0 a1 a2 a3 a4 a5 a6), ⟨i0, h0⟩, fun b0 b1 b2 b3 b4 b5 b6 hb => ?_⟩
  have hc := Classical.choose_spec (ex b0 b1 b2 b3 b4 b5 b6) hb
  refine hs (Classical.choose (ex b0 b1 b2 b3 b4 b5 b6)) b0 b1 b2 b3 b4 b5 b6 hc.1 _ (fun j a0 a1 a2 a3 a4 a5 a6 hj hJ => ⟨⟨j, hJ⟩, ?_⟩)
  have hc2 := Classical.choose_spec (ex a0 a1 a2 a3 a4 a5 a6) ⟨j, hJ⟩
  have : ¬ j < Classical.choose (ex a0 a1 a2 a3 a4 a5 a6) := fun h => hc2.2 j h hJ
  show Classical.choose (ex a0 a1 a2 a3 a4 a5 a6) < Classical.choose (ex b0 b1 b2 b3 b4 b5 b6)
  omega
/-- a loop that goes through f 0, f 1, .., f n -/
theorem Lp7.seq {A0 A1 A2 A3 A4 A5 A6 : Type} {F : (A0 → A1 → A2 → A3 → A4 → A5 → A6 → Prop) → A0 → A1 → A2 → A3 → A4 → A5 → A6 → Prop} {a0 : A0} {a1 : A1} {a2 : A2} {a3 : A3} {a4 : A4} {a5 : A5} {a6 : A6} (n : Nat) (f0 : Nat → A0) (f1 : Nat → A1) (f2 : Nat → A2) (f3 : Nat → A3) (f4 : Nat → A4) (f5 : Nat → A5) (f6 : Nat → A6) (e0 : a0 = f0 0) (e1 : a1 = f1 0) (e2 : a2 = f2 0) (e3 : a3 = f3 0) (e4 : a4 = f4 0) (e5 : a5 = f5 0) (e6 : a6 = f6 0) (hs : ∀ i, i < n → ∀ L : A0 → A1 → A2 → A3 → A4 → A5 → A6 → Prop, L (f0 (i + 1)) (f1 (i + 1)) (f2 (i + 1)) (f3 (i + 1)) (f4 (i + 1)) (f5 (i + 1)) (f6 (i + 1)) → F L (f0 i) (f1 i) (f2 i) (f3 i) (f4 i) (f5 i) (f6 i)) (he : ∀ L : A0 → A1 → A2 → A3 → A4 → A5 → A6 → Prop, F L (f0 n) (f1 n) (f2 n) (f3 n) (f4 n) (f5 n) (f6 n)) : Lp7 F a0 a1 a2 a3 a4 a5 a6 := by
  refine Lp7.ind (fun i b0 b1 b2 b3 b4 b5 b6 => i ≤ n ∧ b0 = f0 (n - i) ∧ b1 = f1 (n - i) ∧ b2 = f2 (n - i) ∧ b3 = f3 (n - i) ∧ b4 = f4 (n - i) ∧ b5 = f5 (n - i) ∧ b6 = f6 (n - i)) n ⟨Nat.le_refl n, by rw [Nat.sub_self]; exact e0, by rw [Nat.sub_self]; exact e1, by rw [Nat.sub_self]; exact e2, by rw [Nat.sub_self]; exact e3, by rw [Nat.sub_self]; exact e4, by rw [Nat.sub_self]; exact e5, by rw [Nat.sub_self]; exact e6⟩ ?_
  intro i b0 b1 b2 b3 b4 b5 b6 hJ L hL
  obtain ⟨hi, rfl, rfl, rfl, rfl, rfl, rfl, rfl⟩ := hJ
  cases i with
  | zero => exact he L
  | succ i =>
    refine hs (n - (i + 1)) (by omega) L (hL i _ _ _ _ _ _ _ (Nat.lt_succ_self i) ⟨by omega, by rw [show n - (i + 1) + 1 = n - i by omega], by rw [show n - (i + 1) + 1 = n - i by omega], by rw [show n - (i + 1) + 1 = n - i by omega], by rw [show n - (i + 1) + 1 = n - i by omega], by rw [show n - (i + 1) + 1 = n - i by omega], by rw [show n - (i + 1) + 1 = n - i by omega], by rw [show n - (i + 1) + 1 = n - i by omega]⟩)
theorem Lp8.ind {A0 A1 A2 A3 A4 A5 A6 A7 : Type} {F : (A0 → A1 → A2 → A3 → A4 → A5 → A6 → A7 → Prop) → A0 → A1 → A2 → A3 → A4 → A5 → A6 → A7 → Prop} {a0 : A0} {a1 : A1} {a2 : A2} {a3 : A3} {a4 : A4} {a5 : A5} {a6 : A6} {a7 : A7} (J : Nat → A0 → A1 → A2 → A3 → A4 → A5 → A6 → A7 → Prop) (i0 : Nat) (h0 : J i0 a0 a1 a2 a3 a4 a5 a6 a7) (hs : ∀ i b0 b1 b2 b3 b4 b5 b6 b7, J i b0 b1 b2 b3 b4 b5 b6 b7 → ∀ L : A0 → A1 → A2 → A3 → A4 → A5 → A6 → A7 → Prop, (∀ j a0 a1 a2 a3 a4 a5 a6 a7, j < i → J j a0 a1 a2 a3 a4 a5 a6 a7 → L a0 a1 a2 a3 a4 a5 a6 a7) → F L b0 b1 b2 b3 b4 b5 b6 b7) : Lp8 F a0 a1 a2 a3 a4 a5 a6 a7 := by
  have ex : ∀ (b0 : A0) (b1 : A1) (b2 : A2) (b3 : A3) (b4 : A4) (b5 : A5) (b6 : A6) (b7 : A7), ∃ m : Nat, (∃ i, J i b0 b1 b2 b3 b4 b5 b6 b7) → (J m b0 b1 b2 b3 b4 b5 b6 b7 ∧ ∀ j, j < m → ¬ J j b0 b1 b2 b3 b4 b5 b6 b7) := by
    intro b0 b1 b2 b3 b4 b5 b6 b7
    by_cases h : ∃ i, J i b0 b1 b2 b3 b4 b5 b6 b7
    · obtain ⟨m, h1, h2⟩ := pk_least (fun i => J i b0 b1 b2 b3 b4 b5 b6 b7) h
      exact ⟨m, fun _ => ⟨h1, h2⟩⟩
    · exact ⟨0, fun h' => absurd h' h⟩
  refine ⟨fun a0 a1 a2 a3 a4 a5 a6 a7 => ∃ i, J i a0 a1 a2 a3 a4 a5 a6 a7, fun a0 a1 a2 a3 a4 a5 a6 a7 => Classical.choose (ex a0 a1 a2 a3 a4 a5 a6 a7), ⟨i0, h0⟩, fun b0 b1 b2 b3 b4 b5 b6 b7 hb => ?_⟩
  have hc := Classical.choose_spec (ex b0 b1 b2 b3 b4 b5 b6 b7) hb
  refine hs (Classical.choose (ex b0 b1 b2 b3 b4 b5 b6 b7)) b0 b1 b2 b3 b4 b5 b6 b7 hc.1 _ (fun j a0 a1 a2 a3 a4 a5 a6 a7 hj hJ => ⟨⟨j, hJ⟩, ?_⟩)
  have hc2 := Classical.choose_spec (ex a0 a1 a2 a3 a4 a5 a6 a7) ⟨j, hJ⟩
  have : ¬ j < Classical.choose (ex a0 a1 a2 a3 a4 a5 a6 a7) := fun h => hc2.2 j h hJ
  show Classical.choose (ex a0 a1 a2 a3 a4 a5 a6 a7) < Classical.choose (ex b0 b1 b2 b3 b4 b5 b6 b7)
  omega
/-- a loop that goes through f 0, f 1, .., f n -/
theorem Lp8.seq {A0 A1 A2 A3 A4 A5 A6 A7 : Type} {F : (A0 → A1 → A2 → A3 → A4 → A5 → A6 → A7 → Prop) → A0 → A1 → A2 → A3 → A4 → A5 → A6 → A7 → Prop} {a0 : A0} {a1 : A1} {a2 : A2} {a3 : A3} {a4 : A4} {a5 : A5} {a6 : A6} {a7 : A7} (n : Nat) (f0 : Nat → A0) (f1 : Nat → A1) (f2 : Nat → A2) (f3 : Nat → A3) (f4 : Nat → A4) (f5 : Nat → A5) (f6 : Nat → A6) (f7 : Nat → A7) (e0 : a0 = f0 0) (e1 : a1 = f1 0) (e2 : a2 = f2 0) (e3 : a3 = f3 0) (e4 : a4 = f4 0) (e5 : a5 = f5 0) (e6 : a6 = f6 0) (e7 : a7 = f7 0) (hs : ∀ i, i < n → ∀ L : A0 → A1 → A2 → A3 → A4 → A5 → A6 → A7 → Prop, L (f0 (i + 1)) (f1 (i + 1)) (f2 (i + 1)) (f3 (i + 1)) (f4 (i + 1)) (f5 (i + 1)) (f6 (i + 1)) (f7 (i + 1)) → F L (f0 i) (f1 i) (f2 i) (f3 i) (f4 i) (f5 i) (f6 i) (f7 i)) (he : ∀ L : A0 → A1 → A2 → A3 → A4 → A5 → A6 → A7 → Prop, F L (f0 n) (f1 n) (f2 n) (f3 n) (f4 n) (f5 n) (f6 n) (f7 n)) : Lp8 F a0 a1 a2 a3 a4 a5 a6 a7 := by
  refine Lp8.ind (fun i b0 b1 b2 b3 b4 b5 b6 b7 => i ≤ n ∧ b0 = f0 (n - i) ∧ b1 = f1 (n - i) ∧ b2 = f2 (n - i) ∧ b3 = f3 (n - i) ∧ b4 = f4 (n - i) ∧ b5 = f5 (n - i) ∧ b6 = f6 (n - i) ∧ b7 = f7 (n - i)) n ⟨Nat.le_refl n, by rw [Nat.sub_self]; exact e0, by rw [Nat.sub_self]; exact e1, by rw [Nat.sub_self]; exact e2, by rw [Nat.sub_self]; exact e3, by rw [Nat.sub_self]; exact e4, by rw [Nat.sub_self]; exact e5, by rw [Nat.sub_self]; exact e6, by rw [Nat.sub_self]; exact e7⟩ ?_
  intro i b0 b1 b2 b3 b4 b5 b6 b7 hJ L hL
  obtain ⟨hi, rfl, rfl, rfl, rfl, rfl, rfl, rfl, rfl⟩ := hJ
  cases i with
  | zero => exact he L
  | succ i =>
    refine hs (n - (i + 1)) (by omega) L (hL i _ _ _ _ _ _ _ _ (Nat.lt_succ_self i) ⟨by omega, by rw [show n - (i + 1) + 1 = n - i by omega], by rw [show n - (i + 1) + 1 = n - i by omega], by rw [show n - (i + 1) + 1 = n - i by omega], by rw [show n - (i + 1) + 1 = n - i by omega], by rw [show n - (i + 1) + 1 = n - i by omega], by rw [show n - (i + 1) + 1 = n - i by omega], by rw [show n - (i + 1) + 1 = n - i by omega], by rw [show n - (i + 1) + 1 = n - i by omega]⟩)
def ib (p : Prop) [Decidable p] : Int32 := if p then 1 else 0
theorem ib_0 {p : Prop} [Decidable p] : ib p = 0 ↔ ¬ p := by
  unfold ib
  by_cases h : p
  · rw [if_pos h]
    exact ⟨fun e => absurd e (by decide), fun e => absurd h e⟩
  · rw [if_neg h]
    exact ⟨fun _ => h, fun _ => rfl⟩
theorem ib_t {p : Prop} [Decidable p] (h : p) : ib p = 1 := if_pos h
theorem ib_f {p : Prop} [Decidable p] (h : ¬ p) : ib p = 0 := if_neg h
theorem ib_B {p : Prop} [Decidable p] : isB (ib p) := by
  by_cases h : p
  · exact Or.inr (ib_t h)
  · exact Or.inl (ib_f h)
theorem wr_rd (x : ab_X) (c k : Nat) (v : Int32) (c' k' : Nat) : (wr x c k v).1 c' k' = if c' = c ∧ k' = k then v else x.1 c' k' := by
  show (if c' = c then upd (x.1 c) k v else x.1 c') k' = _
  by_cases hc : c' = c
  · subst hc
    by_cases hk : k' = k
    · subst hk
      simp [upd]
    · simp [upd, hk]
  · simp [hc]
theorem wr_c {x : ab_X} {c k c' : Nat} {v : Int32} (h : c' ≠ c) : (wr x c k v).1 c' = x.1 c' := if_neg h
theorem wr_ck {x : ab_X} {c k k' : Nat} {v : Int32} (h : k' ≠ k) : (wr x c k v).1 c k' = x.1 c k' := by rw [wr_rd]; simp [h]
theorem wr_s {x : ab_X} {c k : Nat} {v : Int32} : (wr x c k v).1 c k = v := by rw [wr_rd]; simp
theorem wr_2 {x : ab_X} {c k : Nat} {v : Int32} : (wr x c k v).2 = x.2 := rfl
theorem i_nlt {a b : Int32} : ¬ a < b ↔ b ≤ a := Int32.not_lt
theorem i_nle {a b : Int32} : ¬ a ≤ b ↔ b < a := Int32.not_le
/-- a test of two sides, as one condition -/
theorem two_if {a b : Prop} [Decidable a] [Decidable b] {K : Int32 → Prop} : ((a → K 0) ∧ (¬ a → ((b → K 0) ∧ (¬ b → K 1)))) ↔ K (ib (¬ a ∧ ¬ b)) := by
  by_cases ha : a
  · simp [ha, ib_f (p := ¬ a ∧ ¬ b) (fun h => h.1 ha), ib]
  · by_cases hb : b
    · simp [ha, hb, ib]
    · simp [ha, hb, ib]
theorem br_iff {p : Prop} [Decidable p] {A B : Prop} : ((ib p = 0 → A) ∧ (¬ ib p = 0 → B)) ↔ ((¬ p → A) ∧ (p → B)) := by
  rw [ib_0]
  constructor
  · exact fun h => ⟨h.1, fun hp => h.2 (fun hn => hn hp)⟩
  · exact fun h => ⟨h.1, fun hn => h.2 (Classical.byContradiction hn)⟩
theorem br_iff' {p : Prop} [Decidable p] {A B : Prop} : ((¬ ib p = 0 → A) ∧ (ib p = 0 → B)) ↔ ((p → A) ∧ (¬ p → B)) := by
  rw [and_comm, br_iff, and_comm]
/-- the class's and the reference's tests of a range -/
abbrev iR (a lo hi : Int32) : Prop := ¬ a < lo ∧ ¬ hi < a
abbrev iX (a n : Int32) : Prop := ¬ a < 0 ∧ ¬ n ≤ a
theorem e_below {a n : Int32} {x : ab_X} {K : Int32 → Prop} : wX11_below a n x K ↔ K (ib (iX a n)) := by unfold wX11_below; exact two_if
theorem e_within {a lo hi : Int32} {x : ab_X} {K : Int32 → Prop} : wX11_within a lo hi x K ↔ K (ib (iR a lo hi)) := by unfold wX11_within; exact two_if
theorem e_isCorner {a : Int32} {x : ab_X} {K : Int32 → Prop} : wX11_isCorner a x K ↔ K (ib (iX a 20)) := by unfold wX11_isCorner; exact two_if
theorem e_isIn {a lo hi : Int32} {x : ab_X} {K : Int32 → Prop} : wX12_isIn a lo hi x K ↔ K (ib (iR a lo hi)) := by unfold wX12_isIn; exact two_if
theorem e_isCornerM {a : Int32} {x : ab_X} {K : Int32 → Prop} : wX12_isCorner a x K ↔ K (ib (iX a 20)) := by unfold wX12_isCorner; exact two_if
theorem e_isStreet {a : Int32} {x : ab_X} {K : Int32 → Prop} : wX12_isStreet a x K ↔ K (ib (iX a (x.1 246 9))) := by unfold wX12_isStreet; exact two_if
theorem e_isHouse {a : Int32} {x : ab_X} {K : Int32 → Prop} : wX12_isHouse a x K ↔ K (ib (iX a (x.1 246 31))) := by unfold wX12_isHouse; exact two_if
theorem e_isCrew {a : Int32} {x : ab_X} {K : Int32 → Prop} : wX12_isCrew a x K ↔ K (ib (iX a (x.1 246 58))) := by unfold wX12_isCrew; exact two_if
theorem e_isRow {a : Int32} {x : ab_X} {K : Int32 → Prop} : wX12_isRow a x K ↔ K (ib (iX a (x.1 246 116))) := by unfold wX12_isRow; exact two_if
theorem e_has10 {a : Int32} {x : ab_X} {K : Int32 → Prop} : wX10_has a x K ↔ K (ib (iX a (x.1 9 2))) := by unfold wX10_has; rw [e_below]; exact ⟨fun h => h.2, fun h => ⟨ib_B, h⟩⟩
theorem e_has0 {a : Int32} {x : ab_X} {K : Int32 → Prop} : wX0_has a x K ↔ K (ib (iX a (x.1 66 3))) := by unfold wX0_has; rw [e_below]; exact ⟨fun h => h.2, fun h => ⟨ib_B, h⟩⟩
/-- a number that passes the test is one of 0 .. n - 1 -/
theorem iX_of {a : Int32} {n : Nat} (hn : n < 2 ^ 31) (h : iX a (nI n)) : ∃ j, j < n ∧ a = nI j := by
  rcases pk_ix a hn with h1 | h1 | h1
  · exact absurd h1 h.1
  · exact absurd h1 h.2
  · exact h1
theorem iX_nI {j n : Nat} (hn : n < 2 ^ 31) : iX (nI j) (nI n) ∧ j < 2 ^ 31 ↔ j < n := by
  constructor
  · intro ⟨h, hj⟩
    obtain ⟨k, hk, e⟩ := iX_of hn h
    have := (nI_eq hj (by omega)).mp e
    omega
  · intro h
    exact ⟨⟨nI_pos (by omega), nI_ge h hn⟩, by omega⟩
