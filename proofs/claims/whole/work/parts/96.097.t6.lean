/-! A MINUTE, 24: who worked on what fell is hurt, the program. -/
def F91 (s : ab_X) : Prop := ∀ i, i < nv s.1 246 58 → s.1 286 i = nI 2 → ∃ h, h < nv s.1 246 31 ∧ s.1 290 i = nI h ∧ (s.1 291 i = -nI 1 ∨ ∃ f, f < nv s.1 256 h ∧ s.1 291 i = nI f ∧ s.1 274 (6 * h + f) = nI 0)
def HC (s t y z : ab_X) (j : Nat) : Prop := (∀ c, c < 82 ∨ 82 + j ≤ c → z.1 c = y.1 c) ∧ z.2 = y.2 ∧ (∀ i, i < j → (HB s t i → z.1 (82 + i) 8 = nI 4 ∧ z.1 (82 + i) 9 = y.1 (82 + i) 1 ∧ z.1 (82 + i) 10 = -nI 1 ∧ z.1 (82 + i) 12 = -nI 1 ∧ z.1 (82 + i) 13 = -nI 1 ∧ ∀ f, f ≠ 8 → f ≠ 9 → f ≠ 10 → f ≠ 12 → f ≠ 13 → z.1 (82 + i) f = y.1 (82 + i) f) ∧ (¬ HB s t i → z.1 (82 + i) = y.1 (82 + i)))
theorem c_hurtF {s t y : ab_X} (b58 : nv s.1 246 58 ≤ 16) (b31 : nv s.1 246 31 ≤ 12) (b256 : ∀ h, h < nv s.1 246 31 → nv s.1 256 h ≤ 6) (w : F91 s) (bs : ∀ i, i < nv s.1 246 58 → ∃ n, n ≤ 4 ∧ s.1 286 i = nI n) (y66 : y.1 66 3 = nI (nv s.1 246 58)) (y8 : ∀ i, i < nv s.1 246 58 → y.1 (82 + i) 8 = s.1 286 i ∧ y.1 (82 + i) 12 = s.1 290 i ∧ y.1 (82 + i) 13 = s.1 291 i) (y9 : y.1 9 2 = nI (nv s.1 246 31)) (y3 : ∀ h, h < nv s.1 246 31 → y.1 (30 + 3 * h) 3 = nI (nv s.1 256 h) ∧ y.1 (30 + 3 * h) 0 = nI h) (y16 : ∀ k, k < 72 → y.1 16 k = t.1 274 k ∧ isB (t.1 274 k)) {K : ab_X → Prop} (k : ∀ z, HC s t y z (nv s.1 246 58) → K z) : wX0_hurtFallen y K := by
  unfold wX0_hurtFallen
  refine Lp2.ind (fun ii a z => ∃ j, j ≤ nv s.1 246 58 ∧ ii = nv s.1 246 58 - j ∧ a = nI j ∧ HC s t y z j) (nv s.1 246 58) ⟨0, Nat.zero_le _, rfl, rfl, fun _ _ => rfl, rfl, fun i hi => by omega⟩ ?_
  rintro ii a z ⟨j, hj, hii, rfl, hz⟩ L hL
  have hz' := hz
  obtain ⟨z1, z2, z3⟩ := hz'
  unfold lX0_hurtFallen_2
  have ej : nI j + 1 = nI (j + 1) := nI_add j 1
  rw [z1 66 (by omega), y66, q_le (by omega) (by omega), ej]
  refine ⟨fun q => ?_, fun q => ⟨(vpi (by omega) (by decide)).mpr trivial, ?_⟩⟩
  · have : j = nv s.1 246 58 := by omega
    subst this
    exact k z hz
  have hj' : j < nv s.1 246 58 := by omega
  obtain ⟨c8, c12, c13⟩ := y8 j hj'
  obtain ⟨n, hn, en⟩ := bs j hj'
  have ez : z.1 (82 + j) = y.1 (82 + j) := z1 _ (by omega)
  have skip : ¬ HB s t j → L (nI (j + 1)) z := fun u => hL _ _ _ (by omega) ⟨j + 1, by omega, rfl, rfl, fun c p => z1 c (by omega), z2, fun i hi => by
    by_cases e : i = j
    · subst e; exact ⟨fun v => absurd v u, fun _ => ez⟩
    · exact z3 i (by omega)⟩
  rw [cl_nI (by omega), ez, c8, c12, c13]
  have e2 : (s.1 286 j = 2) ↔ (s.1 286 j = nI 2) := Iff.rfl
  rw [e2]
  refine ⟨fun u => skip (fun v => u v.1), fun u => ?_⟩
  obtain ⟨h, hh, eh, hf⟩ := w j hj' u
  have vh : vp_in (nI h) 12 := (vpi (by omega) (by decide)).mpr trivial
  obtain ⟨d3, d0⟩ := y3 h hh
  have z3' : z.1 (30 + 3 * h) 3 = nI (nv s.1 256 h) := by rw [z1 _ (by omega)]; exact d3
  have z0' : z.1 (30 + 3 * h) 0 = nI h := by rw [z1 _ (by omega)]; exact d0
  have z9 : z.1 9 2 = nI (nv s.1 246 31) := by rw [z1 9 (by omega)]; exact y9
  unfold wX10_hasFloor
  rw [eh, f_has10, z9, jx_I hh (by omega), cl_nI (by omega), z3', f_below]
  rcases hf with e | ⟨f, hf, e, e0⟩
  · rw [e, jx_m1]
    refine ⟨fun v => absurd v (by decide), fun _ => ⟨vh, fun _ => ⟨fun _ => skip ?_, fun v => absurd rfl v⟩, fun v => absurd rfl v⟩⟩
    rintro ⟨-, h', f', -, l2, -, e', -⟩
    rw [e] at e'
    exact (n1_eq (by omega)).mp e'
  · have f6 : f < 6 := by have := b256 h hh; omega
    have bf := b256 h hh
    rw [e, jx_I hf (by omega)]
    have e6 : nI h * 6 + nI f = nI (6 * h + f) := by
      have : (6 : Int32) = nI 6 := rfl
      rw [this, pk_mul, nI_add, Nat.mul_comm]
    obtain ⟨g1, g2⟩ := y16 (6 * h + f) (by omega)
    have g16 : z.1 (11 + 5) (6 * h + f) = t.1 274 (6 * h + f) := by rw [z1 (11 + 5) (by omega)]; exact g1
    refine ⟨fun v => absurd v (by decide), fun _ => ⟨vh, fun v => absurd v (by decide), fun _ => ⟨fun v => absurd v (by decide), fun _ => ⟨vh, ?_⟩⟩⟩⟩
    unfold wX3_hasFallen wX4_storey
    rw [z0', e6]
    show vp_in (nI (6 * h + f)) 72 ∧ isB (z.1 (11 + 5) (nI (6 * h + f)).toNatClampNeg) ∧ ((z.1 (11 + 5) (nI (6 * h + f)).toNatClampNeg = 0 → L (nI (j + 1)) z) ∧ (¬ z.1 (11 + 5) (nI (6 * h + f)).toNatClampNeg = 0 → wX2_set (82 + j) 4 (y.1 (82 + j) 1) (-1) z (fun x5 => L (nI (j + 1)) x5)))
    rw [cl_nI (by omega), g16]
    refine ⟨(vpi (by omega) (by decide)).mpr trivial, g2, fun v => skip ?_, fun v => ?_⟩
    · rintro ⟨-, h', f', l1, l2, e1, e3, e4⟩
      rw [eh] at e1
      rw [e] at e3
      have a1 := (q_eq (by omega) (by omega)).mp e1
      have a2 := (q_eq (by omega) (by omega)).mp e3
      subst a1 a2
      exact e4.2 v
    · have hb : HB s t j := ⟨u, h, f, by omega, f6, eh, e, e0, v⟩
      unfold wX2_set wX2_leaveWork
      refine hL _ _ _ (by omega) ⟨j + 1, by omega, rfl, rfl, fun c p => ?_, z2, fun i hi => ?_⟩
      · simp (disch := omega) only [wr_n]; exact z1 c (by omega)
      · by_cases ei : i = j
        · subst ei
          refine ⟨fun _ => ⟨?_, ?_, ?_, ?_, ?_, fun f a b c d e => ?_⟩, fun v' => absurd hb v'⟩
          · simp (disch := omega) only [wr_ne, wr_e]; rfl
          · simp (disch := omega) only [wr_ne, wr_e]
          · simp (disch := omega) only [wr_ne, wr_e]; rfl
          · simp (disch := omega) only [wr_ne, wr_e]; rfl
          · simp (disch := omega) only [wr_ne, wr_e]; rfl
          · simp (disch := omega) only [wr_ne]; rw [ez]
        · have g := z3 i (by omega)
          have ew : (wr (wr (wr (wr (wr z (82 + j) 12 (-1)) (82 + j) 13 (-1)) (82 + j) 8 4) (82 + j) 9 (y.1 (82 + j) 1)) (82 + j) 10 (-1)).1 (82 + i) = z.1 (82 + i) := by simp (disch := omega) only [wr_n]
          rw [ew]; exact g
