/-! A MINUTE, 25: what holds after the fire. -/
theorem RR_fire {X Y X' Y' : Nat → Nat → Int32} {D : Nat → UInt64} (w : WW Y) (h : RR X Y D) (ca : ∀ c, c < 11 ∨ (18 < c ∧ c < 30) ∨ (65 < c ∧ c < 82) ∨ (97 < c ∧ c < 246) → X' c = X c) (va : ∀ c, 246 ≤ c → c ≠ 263 → ¬ (266 ≤ c ∧ c ≤ 267) → c ≠ 271 → c ≠ 272 → c ≠ 274 → ¬ (286 ≤ c ∧ c ≤ 291) → Y' c = Y c) (ho : Rho X' Y') (fi : Rfi X' Y') (cr : Rcr X' Y') (who : Who Y') (wfi : Wfi Y') (wcr : Wcr Y') : RR X' Y' D ∧ WWp Y' := by
  have s : ∀ f, Y' 246 f = Y 246 f := fun f => by rw [va 246 (by decide) (by decide) (by decide) (by decide) (by decide) (by decide) (by decide)]
  have vm : ∀ c, 246 ≤ c → (c < 263 ∨ (264 ≤ c ∧ c ≤ 265) ∨ (268 ≤ c ∧ c ≤ 270) ∨ c = 273 ∨ (275 ≤ c ∧ c ≤ 285) ∨ 292 ≤ c) → Y' c = Y c := fun c p q => va c p (by omega) (by omega) (by omega) (by omega) (by omega) (by omega)
  refine ⟨⟨?_, ?_, ho, fi, ?_, cr, ?_, ?_, ?_, ?_, fun k p => ?_⟩, ⟨?_, ?_, ?_, who, wfi, ?_, wcr, ?_, ?_⟩⟩
  · refine Rsc_fr h.sc ?_ ?_ ?_ ?_ ?_ ?_ ?_ ?_ ?_ ?_ ?_ ?_ (s _) (s _) (s _) (s _) (s _) (s _) (s _) (s _) (s _) (s _) (s _) (s _)
    all_goals rw [ca _ (by omega)]
  · exact Rst_fr h.st (fun i p q => ca i (by omega)) (fun i p q => vm i (by omega) (by omega)) (s _)
  · exact Rmh_fr h.mh (fun i p q => ca i (by omega)) (fun i p q => vm i (by omega) (by omega)) (s _) (s _)
  · exact Rca_fr h.ca (fun i p q => ca i (by omega)) (fun i p q => vm i (by omega) (by omega)) (s _) (fun i p => by have := w.b92; omega)
  · exact Rev_fr h.ev (fun i p q => ca i (by omega)) (fun i p q => vm i (by omega) (by omega)) (fun i p q => vm i (by omega) (by omega)) (s _) (s _)
  · exact Rta_fr h.ta (fun i p q => ca i (by omega)) (fun i p q => vm i (by omega) (by omega)) (s _)
  · exact Rro_fr h.ro (fun i p q => ca i (by omega)) (fun i p q => vm i (by omega) (by omega)) (s _) rfl
  · rw [vm 268 (by omega) (by omega)]; exact h.wa k p
  · exact Wsc_fr w.sc (s _) (s _) (s _) (s _) (s _) (s _) (s _) (s _) (s _) (s _) (s _) (s _)
  · exact Wst_fr w.st (fun i p q => vm i (by omega) (by omega)) (fun i p q => vm i (by omega) (by omega)) (s _)
  · exact Wwk_fr w.wk (fun i p q => vm i (by omega) (by omega))
  · exact Wmh_fr w.mh (fun i p q => vm i (by omega) (by omega)) (s _) (s _)
  · exact Wca_fr w.ca (fun i p q => vm i (by omega) (by omega)) (s _) (s _)
  · exact Wev_fr w.ev (fun i p q => vm i (by omega) (by omega)) (fun i p q => vm i (by omega) (by omega)) (s _) (s _) (s _) (s _)
/-- the people: both sides alike -/
theorem vK {s t u z y : ab_X} (r : FR s t u) (w : TW t.1) (out : ∀ k, ¬ (k / 6 < nv t.1 246 31 ∧ k % 6 < nv t.1 256 (k / 6)) → t.1 274 k = s.1 274 k) (py : PQ s t z (nv t.1 246 31) 0 y) (v272 : ∀ k, k < 72 → s.1 272 k = nI (nv s.1 272 k)) : (∀ i g, i < 12 → g < 6 → y.1 (30 + 3 * i + 2) g = (peS u).1 272 (6 * i + g)) ∧ (∀ i, i < 12 → y.1 (30 + 3 * i) 15 = (peS u).1 263 i) := by
  have rr := r
  obtain ⟨r1, r2, r3, r4, r5, r6, r7, r8⟩ := rr
  have b := w.b
  have n31 : nv u.1 246 31 = nv t.1 246 31 := by unfold nv; rw [r1 246 (by unfold cs; omega)]
  have n256 : ∀ i, nv u.1 256 i = nv t.1 256 i := fun i => by unfold nv; rw [r1 256 (by unfold cs; omega)]
  have nof : ∀ i g, g < 6 → ¬ (i < nv t.1 246 31 ∧ g < nv t.1 256 i) → ¬ NF s t (6 * i + g) := fun i g hg q v => by
    have := out (6 * i + g) (by rw [show (6 * i + g) / 6 = i by omega, show (6 * i + g) % 6 = g by omega]; exact q)
    exact v.2 (by rw [this]; exact v.1)
  refine ⟨fun i g p p' => ?_, fun i p => ?_⟩
  · rw [py.2.1 i g p p']
    have e1 : (peS u).1 272 (6 * i + g) = if i < nv t.1 246 31 ∧ g < nv t.1 256 i then nI (nv u.1 272 (6 * i + g) - lo u.1 i (rmsN u.1 i) g) else u.1 272 (6 * i + g) := by
      unfold peS
      rw [wrT_n (by decide), wrT_e, show (6 * i + g) / 6 = i by omega, show (6 * i + g) % 6 = g by omega, n31, n256]
    rw [e1]
    by_cases q : i < nv t.1 246 31 ∧ g < nv t.1 256 i
    · rw [if_pos (Or.inl q), if_pos q]
      obtain ⟨a, c⟩ := FR_L r (h := i) (f := g) (by rw [n256]; exact q.2)
      by_cases v : NF s t (6 * i + g)
      · rw [nv_of ((r3 _).1 v) (by decide), Nat.zero_sub]
        unfold LL
        rw [if_pos v, Nat.sub_self]
      · rw [(c v).1, (c v).2]
    · rw [if_neg (fun q' => q (by rcases q' with q' | q'; exact q'; omega)), if_neg q, (r3 _).2 (nof i g p' q)]
      exact (v272 _ (by omega)).symm
  · rw [py.2.2 i p]
    have e1 : (peS u).1 263 i = if i < nv t.1 246 31 then u.1 263 i + nI (loS u.1 i (rmsN u.1 i) (nv t.1 256 i)) else u.1 263 i := by
      unfold peS
      rw [wrT_e, n31, n256]
    rw [e1, r4]
    by_cases q : i < nv t.1 246 31
    · rw [if_pos q, if_pos q]
      have l3 := (w.2.1.1 i q).2.2.1.2
      have e6 : lsF s t i 6 = lsF s t i (nv t.1 256 i) := by
        have := lsF_6 (s := s) (t := t) (h := i) (6 - nv t.1 256 i) (nv t.1 256 i) (fun f a c => nof i f (by omega) (fun u => by omega))
        rw [show nv t.1 256 i + (6 - nv t.1 256 i) = 6 by omega] at this
        exact this
      rw [e6, Int32.add_assoc, nI_add, FR_S r (nv t.1 256 i) (by rw [n256]; exact Nat.le_refl _)]
    · rw [if_neg q, if_neg q]
      have e6 : lsF s t i 6 = 0 := lsF_6 (s := s) (t := t) (h := i) 6 0 (fun f a c => nof i f (by omega) (fun u => by omega))
      rw [e6]
      have : (if i = nv t.1 246 31 then LLs s t (nv t.1 246 31) 0 else 0) = 0 := by split <;> rfl
      rw [this]
