/-! THE INVARIANT between the class's cells and the reference's, piece by piece; first calls. -/
/-- streets: their number, ends, lengths, what is shut, what jams; the walks are one table -/
def Iv_st (x : ab_X) : Prop := ∃ n, n ≤ 40 ∧ x.1 1 7 = nI n ∧ x.1 246 9 = nI n ∧
  (∀ s, s < n → ∃ a b l, a < 20 ∧ b < 20 ∧ 1 ≤ l ∧ l ≤ 20 ∧ x.1 2 s = nI a ∧ x.1 247 s = nI a ∧ x.1 3 s = nI b ∧ x.1 248 s = nI b ∧ x.1 4 s = nI l ∧ x.1 249 s = nI l) ∧
  (∀ s, s < 40 → isB (x.1 5 s) ∧ x.1 252 s = x.1 5 s) ∧
  (∀ k, k < 160 → ∃ j, 100 ≤ j ∧ j ≤ 400 ∧ x.1 6 k = nI j) ∧ (∀ k, k < 4 * n → x.1 250 k = x.1 6 k) ∧ (∀ k, 4 * n ≤ k → k < 160 → x.1 6 k = nI 100)
/-- the walks -/
def Iv_wk (x : ab_X) : Prop := ∀ k, k < 400 → x.1 251 k = x.1 7 k ∧ ∃ w, w ≤ 1000000 ∧ x.1 7 k = nI w
/-- mains and heads -/
def Iv_mh (x : ab_X) : Prop := ∃ m h, m ≤ 6 ∧ h ≤ 20 ∧ x.1 9 6 = nI m ∧ x.1 246 56 = nI m ∧ x.1 9 9 = nI h ∧ x.1 246 57 = nI h ∧
  (∀ k, k < m → x.1 275 k = x.1 27 k ∧ ∃ g, 10 ≤ g ∧ g ≤ 2000 ∧ x.1 27 k = nI g) ∧ (∀ k, k < h → x.1 276 k = x.1 28 k ∧ x.1 277 k = x.1 29 k ∧ ∃ c j, c < 20 ∧ j < m ∧ x.1 28 k = nI c ∧ x.1 29 k = nI j)
theorem iX_t {j n : Nat} (h : j < n) (hn : n < 2 ^ 31) : iX (nI j) (nI n) := ⟨nI_pos (by omega), nI_ge h hn⟩
theorem two_w {x : ab_X} {c k c' k' : Nat} {v v' : Int32} (h : c ≠ c') : wr (wr x c k v) c' k' v' = wr (wr x c' k' v') c k v := by
  refine Prod.ext ?_ rfl
  funext j i
  rw [wr_rd, wr_rd, wr_rd, wr_rd]
  by_cases h1 : j = c ∧ i = k
  · have h2 : ¬ (j = c' ∧ i = k') := fun q => h (h1.1.symm.trans q.1)
    simp [h1, h2]
    intro q
    exact absurd q h
  · by_cases h2 : j = c' ∧ i = k' <;> simp [h1, h2]
theorem Iv_st.keep {x y : ab_X} (h : Iv_st x) (e : ∀ c, c = 1 ∨ c = 2 ∨ c = 3 ∨ c = 4 ∨ c = 5 ∨ c = 6 ∨ c = 247 ∨ c = 248 ∨ c = 249 ∨ c = 250 ∨ c = 252 → y.1 c = x.1 c) (e9 : y.1 246 9 = x.1 246 9) : Iv_st y := by
  unfold Iv_st
  rw [e 1 (by simp), e 2 (by simp), e 3 (by simp), e 4 (by simp), e 5 (by simp), e 6 (by simp), e 247 (by simp), e 248 (by simp), e 249 (by simp), e 250 (by simp), e 252 (by simp), e9]
  exact h
/-- the reference's 'thrown' is nobody's -/
theorem Iv_st.thrown {x : ab_X} {v : Int32} (h : Iv_st x) : Iv_st (wr x 246 0 v) := h.keep (fun c hc => wr_c (by rcases hc with rfl | rfl | rfl | rfl | rfl | rfl | rfl | rfl | rfl | rfl | rfl <;> decide)) (wr_ck (by decide))
/-- what jam and closed ask for in common -/
theorem p_closed {x : ab_X} {a b : Int32} (hb : isB b) (h : Iv_st x) {K : ab_X → Prop} (hk : ∀ y, Iv_st y → (∀ c, c ≠ 5 → c ≠ 252 → c ≠ 246 → y.1 c = x.1 c) → (∀ k, k ≠ 0 → y.1 246 k = x.1 246 k) → y.2 = x.2 → K y) :
    wX11_closed a b x (fun r y => wX12_closed a b y (fun r' z => r = r' ∧ K z)) := by
  obtain ⟨n, hn, e1, e2, h3, h4, h5, h6, h7⟩ := id h
  unfold wX11_closed wX12_closed
  simp only [e_below, e_isStreet, br_iff]
  have r9 : (wr x 246 0 0).1 246 9 = nI n := (wr_ck (by decide)).trans e2
  have base : K (wr x 246 0 0) := hk _ h.thrown (fun c h1 h2 h3 => wr_c h3) (fun k hk => wr_ck hk) rfl
  rw [e1]
  refine ⟨fun hX => ?_, fun hX => ?_⟩
  · rw [r9]
    exact ⟨fun _ => ⟨rfl, base⟩, fun q => absurd q hX⟩
  · obtain ⟨j, hj, rfl⟩ := iX_of (by omega) hX
    have hin : vp_in (nI j) 40 := vp_in_nI (by omega) (by decide)
    have cl : (nI j).toNatClampNeg = j := nI_clamp (by omega)
    rw [cl]
    refine ⟨hin, fun hne => ⟨hin, hb, ?_⟩, fun heq => ?_⟩
    · have r9' : (wr (wr x 5 j b) 246 0 0).1 246 9 = nI n := by rw [wr_ck (by decide), wr_c (by decide)]; exact e2
      rw [r9']
      refine ⟨fun q => absurd hX q, fun _ => ⟨hin, fun hne2 => ⟨hin, hb, rfl, ?_⟩, fun heq2 => ?_⟩⟩
      · refine hk _ ?_ ?_ ?_ rfl
        · refine ⟨n, hn, ?_, ?_, ?_, ?_, ?_, ?_, ?_⟩
          · rw [wr_c (by decide), wr_c (by decide), wr_c (by decide)]; exact e1
          · rw [wr_c (by decide), wr_ck (by decide), wr_c (by decide)]; exact e2
          · intro s hs
            have := h3 s hs
            simpa only [wr_rd] using this
          · intro s hs
            have := h4 s hs
            simp only [wr_rd]
            by_cases hs2 : s = j
            · subst hs2
              simp [hb]
            · simpa [hs2] using this
          · intro k hk2
            have := h5 k hk2
            simpa only [wr_rd] using this
          · intro k hk2
            have := h6 k hk2
            simpa only [wr_rd] using this
          · intro k hk1 hk2
            have := h7 k hk1 hk2
            simpa only [wr_rd] using this
        · intro c c1 c2 c3
          rw [wr_c c2, wr_c c3, wr_c c1]
        · intro k hk0
          rw [wr_c (by decide), wr_ck hk0, wr_c (by decide)]
      · exfalso
        rw [wr_c (by decide), wr_c (by decide)] at heq2
        exact hne (by rw [← (h4 j (by omega)).2]; exact heq2)
    · rw [r9]
      refine ⟨fun q => absurd hX q, fun _ => ⟨hin, fun hne2 => ?_, fun _ => ⟨rfl, base⟩⟩⟩
      exfalso
      rw [wr_c (by decide)] at hne2
      exact hne2 (by rw [(h4 j (by omega)).2]; exact heq)
