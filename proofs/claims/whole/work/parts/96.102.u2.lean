/-! A MINUTE, 29: calls are closed where nothing burns any more. -/
theorem i_closeP {x : ab_X} {k v : Nat} (h : InvP x) (hk : k < nv x.1 246 92) (hv : v = 1 ∨ v = 2) {z : ab_X} {t : Int32} (e : z = wr (wr (wr (wr x (98 + k) 2 (nI v)) (98 + k) 4 t) 312 k (nI v)) 314 k t) : InvP z := by
  subst e
  have b92 := h.2.b92
  refine InvP_chgP h (L := [(98, 157), (312, 312), (314, 314)]) (S := [0]) (C := []) ?chg (Or.inl rfl) (Or.inl rfl) (Or.inl rfl) (Or.inl rfl) (Or.inl rfl) (Or.inl rfl) (Or.inr ?ca) (Or.inl rfl) (Or.inl rfl) (Or.inl rfl) (Or.inl ⟨rfl, rfl⟩) (Or.inl rfl) (Or.inl rfl) (Or.inl rfl) (Or.inl rfl) (Or.inl rfl) (Or.inl rfl) (Or.inl rfl) (Or.inr ?wca) (Or.inl rfl)
  case chg =>
    refine ⟨fun c p q r => ?_, fun f p => ?_, fun c f p q => ?_⟩
    · have r0 : c < 98 ∨ 157 < c := r (98, 157) (by simp); have r1 : c < 312 ∨ 312 < c := r (312, 312) (by simp); have r2 : c < 314 ∨ 314 < c := r (314, 314) (by simp); unfold scC at q; simp (disch := omega) only [wr_n]
    · have s0 : f ≠ 0 := fun e => p (by rw [e]; simp); simp (disch := omega) only [wr_ne]
    · unfold scC at p; simp (disch := omega) only [wr_ne]
  case ca =>
    obtain ⟨s1, s2⟩ := h.1.ca
    refine ⟨fun j p => ?_, fun j p q => ?_⟩
    · have p : j < nv x.1 246 92 := by unfold nv at p; simp (disch := omega) only [wr_n] at p; exact p
      obtain ⟨c0, c1, c2, c3, c4, c5, c6, c7, c8⟩ := s1 j p
      by_cases e : j = k
      · subst e
        refine ⟨?_, ?_, ?_, ?_, ?_, ?_, ?_, ?_, ?_⟩ <;> simp (disch := omega) only [wr_ne, wr_e] <;> assumption
      · refine ⟨?_, ?_, ?_, ?_, ?_, ?_, ?_, ?_, ?_⟩ <;> simp (disch := omega) only [wr_ne, wr_e] <;> assumption
    · have p : nv x.1 246 92 ≤ j := by unfold nv at p; simp (disch := omega) only [wr_n] at p; exact p
      obtain ⟨c0, c1, c2, c3, c4, c5, c6⟩ := s2 j p q
      refine ⟨?_, ?_, ?_, ?_, ?_, ?_, ?_⟩ <;> simp (disch := omega) only [wr_ne, wr_e] <;> assumption
  case wca =>
    obtain ⟨s1, s2, s3⟩ := h.2.ca
    have n92 : nv (wr (wr (wr (wr x (98 + k) 2 (nI v)) (98 + k) 4 t) 312 k (nI v)) 314 k t).1 246 92 = nv x.1 246 92 := by unfold nv; simp (disch := omega) only [wr_n]
    have o : ∀ d j, 246 ≤ d → (d ≠ 312 ∧ d ≠ 314 ∨ j ≠ k) → (wr (wr (wr (wr x (98 + k) 2 (nI v)) (98 + k) 4 t) 312 k (nI v)) 314 k t).1 d j = x.1 d j := fun d j p q => by simp (disch := omega) only [wr_ne]
    have e1 : (wr (wr (wr (wr x (98 + k) 2 (nI v)) (98 + k) 4 t) 312 k (nI v)) 314 k t).1 312 k = nI v := by rw [wr_n (by decide), wr_e]
    generalize wr (wr (wr (wr x (98 + k) 2 (nI v)) (98 + k) 4 t) 312 k (nI v)) 314 k t = z at *
    have on : ∀ d j, 246 ≤ d → (d ≠ 312 ∧ d ≠ 314 ∨ j ≠ k) → nv z.1 d j = nv x.1 d j := fun d j p q => by unfold nv; rw [o d j p q]
    refine ⟨fun j p => ?_, fun j p q => ?_, fun i j p q r1 r2 => ?_⟩
    · rw [n92] at p
      obtain ⟨a1, a2, a3, a4, a5, a6⟩ := s1 j p
      unfold nbd at a1 a2 a3 a4 ⊢
      rw [o 310 j (by decide) (by omega), o 311 j (by decide) (by omega), o 313 j (by decide) (by omega), o 318 j (by decide) (by omega), on 310 j (by decide) (by omega), on 311 j (by decide) (by omega), on 313 j (by decide) (by omega), on 246 1 (by decide) (by omega)]
      refine ⟨a1, a2, ?_, a4, a5, a6⟩
      by_cases e : j = k
      · subst e
        have : nv z.1 312 j = v := nv_of e1 (by omega)
        rw [this]; exact ⟨e1, by omega⟩
      · rw [o 312 j (by decide) (by omega), on 312 j (by decide) (by omega)]; exact a3
    · rw [n92] at p
      rw [o 312 j (by decide) (by omega), o 315 j (by decide) (by omega), o 316 j (by decide) (by omega), o 317 j (by decide) (by omega), o 318 j (by decide) (by omega)]
      exact s2 j p q
    · rw [n92] at q
      have nz : ∀ m, z.1 312 m = nI 0 → m ≠ k := fun m u e => by
        rw [e, e1] at u
        rcases hv with rfl | rfl
        · exact absurd u (by decide)
        · exact absurd u (by decide)
      have d1 := nz i r1
      have d2 := nz j r2
      rw [o 312 i (by decide) (by omega)] at r1
      rw [o 312 j (by decide) (by omega)] at r2
      rw [o 310 i (by decide) (by omega), o 310 j (by decide) (by omega)]
      exact s3 i j p q r1 r2
