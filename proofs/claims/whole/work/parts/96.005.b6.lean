/-! ONE crew, one call, one house changes. -/
theorem Rcr_pt {X Z : Nat → Nat → Int32} {j : Nat} (h : Rcr X X) (hn : Z 246 58 = X 246 58) (b : nv X 246 58 ≤ 16) (oc : ∀ c f, c < 16 → c ≠ j → Z (82 + c) f = X (82 + c) f) (om : ∀ d k, 279 ≤ d → d ≤ 298 → k ≠ j → Z d k = X d k) (hj : j < nv X 246 58) (own : Z (82 + j) 0 = Z 279 j ∧ Z (82 + j) 1 = Z 280 j ∧ Z (82 + j) 2 = Z 298 j ∧ Z (82 + j) 3 = Z 281 j ∧ Z (82 + j) 4 = Z 282 j ∧ Z (82 + j) 5 = Z 283 j ∧ Z (82 + j) 6 = Z 284 j ∧ Z (82 + j) 7 = Z 285 j ∧ Z (82 + j) 8 = Z 286 j ∧ Z (82 + j) 9 = Z 287 j ∧ Z (82 + j) 10 = Z 288 j ∧ Z (82 + j) 11 = Z 289 j ∧ Z (82 + j) 12 = Z 290 j ∧ Z (82 + j) 13 = Z 291 j ∧ Z (82 + j) 14 = Z 293 j ∧ Z (82 + j) 15 = Z 292 j ∧ Z (82 + j) 16 = Z 295 j) : Rcr Z Z := by
  have en : nv Z 246 58 = nv X 246 58 := by unfold nv; rw [hn]
  refine ⟨fun c p => ?_, fun c p q => ?_⟩
  · rw [en] at p
    by_cases e : c = j
    · subst e; exact own
    · have := h.1 c p
      rw [oc c 0 (by omega) e, om 279 c (by decide) (by decide) e, oc c 1 (by omega) e, om 280 c (by decide) (by decide) e, oc c 2 (by omega) e, om 298 c (by decide) (by decide) e, oc c 3 (by omega) e, om 281 c (by decide) (by decide) e, oc c 4 (by omega) e, om 282 c (by decide) (by decide) e, oc c 5 (by omega) e, om 283 c (by decide) (by decide) e, oc c 6 (by omega) e, om 284 c (by decide) (by decide) e, oc c 7 (by omega) e, om 285 c (by decide) (by decide) e, oc c 8 (by omega) e, om 286 c (by decide) (by decide) e, oc c 9 (by omega) e, om 287 c (by decide) (by decide) e, oc c 10 (by omega) e, om 288 c (by decide) (by decide) e, oc c 11 (by omega) e, om 289 c (by decide) (by decide) e, oc c 12 (by omega) e, om 290 c (by decide) (by decide) e, oc c 13 (by omega) e, om 291 c (by decide) (by decide) e, oc c 14 (by omega) e, om 293 c (by decide) (by decide) e, oc c 15 (by omega) e, om 292 c (by decide) (by decide) e, oc c 16 (by omega) e, om 295 c (by decide) (by decide) e]
      exact this
  · rw [en] at p
    have := h.2 c p q
    rw [oc c 8 q (by omega), oc c 10 q (by omega), oc c 11 q (by omega), oc c 12 q (by omega), oc c 13 q (by omega), oc c 14 q (by omega), oc c 15 q (by omega), oc c 16 q (by omega)]
    exact this
theorem Wcr_pt {X Z : Nat → Nat → Int32} {j : Nat} (h : Wcr X) (hn : Z 246 58 = X 246 58) (hn2 : Z 246 92 = X 246 92) (hn3 : Z 246 31 = X 246 31) (hn4 : Z 246 1 = X 246 1) (h5 : Z 254 = X 254) (om : ∀ d k, 279 ≤ d → d ≤ 298 → k ≠ j → Z d k = X d k) (hj : j < nv X 246 58) (o1 : nbd Z 279 j 3 ∧ nbd Z 280 j 19 ∧ isB (Z 298 j) ∧ nbd Z 281 j 150 ∧ 50 ≤ nv Z 281 j ∧ nbd Z 282 j 9 ∧ nbd Z 283 j 3000 ∧ nbd Z 284 j 500 ∧ nbd Z 285 j 30 ∧ nbd Z 286 j 4 ∧ nbd Z 287 j 19 ∧ nbd Z 292 j 300 ∧ nbd Z 293 j 20000 ∧ nv Z 293 j ≤ nv Z 246 1) (o2 : (nv Z 279 j < 2 → 100 ≤ nv Z 283 j ∧ 10 ≤ nv Z 284 j) ∧ (nv Z 279 j = 0 → nv Z 285 j = 0) ∧ (nv Z 279 j = 2 → 1 ≤ nv Z 283 j ∧ nv Z 283 j ≤ 6)) (o3 : (nv Z 286 j = 1 → nbd Z 289 j 59 ∧ nv Z 289 j < nv Z 246 92) ∧ (nv Z 286 j = 2 → nbd Z 290 j 11 ∧ nv Z 290 j < nv Z 246 31 ∧ Z 254 (nv Z 290 j) = Z 287 j) ∧ (¬ nv Z 286 j = 2 → Z 290 j = -nI 1 ∧ Z 291 j = -nI 1) ∧ (nv Z 286 j = 0 ∨ nv Z 286 j = 2 → Z 288 j = -nI 1)) : Wcr Z := by
  have en : nv Z 246 58 = nv X 246 58 := by unfold nv; rw [hn]
  have en2 : nv Z 246 92 = nv X 246 92 := by unfold nv; rw [hn2]
  have en3 : nv Z 246 31 = nv X 246 31 := by unfold nv; rw [hn3]
  have en4 : nv Z 246 1 = nv X 246 1 := by unfold nv; rw [hn4]
  have nvm : ∀ d k, 279 ≤ d → d ≤ 298 → k ≠ j → nv Z d k = nv X d k := fun d k p q e => by unfold nv; rw [om d k p q e]
  obtain ⟨s1, s2, s3, s4⟩ := h
  refine ⟨fun c p => ?_, fun c p => ?_, fun c p => ?_, fun c p q => ?_⟩
  · rw [en] at p
    by_cases e : c = j
    · subst e; exact o1
    · have := s1 c p
      simp only [nbd, nvm 279 c (by decide) (by decide) e, nvm 280 c (by decide) (by decide) e, nvm 281 c (by decide) (by decide) e, nvm 282 c (by decide) (by decide) e, nvm 283 c (by decide) (by decide) e, nvm 284 c (by decide) (by decide) e, nvm 285 c (by decide) (by decide) e, nvm 286 c (by decide) (by decide) e, nvm 287 c (by decide) (by decide) e, nvm 288 c (by decide) (by decide) e, nvm 289 c (by decide) (by decide) e, nvm 290 c (by decide) (by decide) e, nvm 291 c (by decide) (by decide) e, nvm 292 c (by decide) (by decide) e, nvm 293 c (by decide) (by decide) e, nvm 295 c (by decide) (by decide) e, nvm 298 c (by decide) (by decide) e, om 279 c (by decide) (by decide) e, om 280 c (by decide) (by decide) e, om 281 c (by decide) (by decide) e, om 282 c (by decide) (by decide) e, om 283 c (by decide) (by decide) e, om 284 c (by decide) (by decide) e, om 285 c (by decide) (by decide) e, om 286 c (by decide) (by decide) e, om 287 c (by decide) (by decide) e, om 288 c (by decide) (by decide) e, om 289 c (by decide) (by decide) e, om 290 c (by decide) (by decide) e, om 291 c (by decide) (by decide) e, om 292 c (by decide) (by decide) e, om 293 c (by decide) (by decide) e, om 295 c (by decide) (by decide) e, om 298 c (by decide) (by decide) e, en4] at this ⊢
      exact this
  · rw [en] at p
    by_cases e : c = j
    · subst e; exact o2
    · have := s2 c p
      simp only [nvm 279 c (by decide) (by decide) e, nvm 280 c (by decide) (by decide) e, nvm 281 c (by decide) (by decide) e, nvm 282 c (by decide) (by decide) e, nvm 283 c (by decide) (by decide) e, nvm 284 c (by decide) (by decide) e, nvm 285 c (by decide) (by decide) e, nvm 286 c (by decide) (by decide) e, nvm 287 c (by decide) (by decide) e, nvm 288 c (by decide) (by decide) e, nvm 289 c (by decide) (by decide) e, nvm 290 c (by decide) (by decide) e, nvm 291 c (by decide) (by decide) e, nvm 292 c (by decide) (by decide) e, nvm 293 c (by decide) (by decide) e, nvm 295 c (by decide) (by decide) e, nvm 298 c (by decide) (by decide) e] at this ⊢
      exact this
  · rw [en] at p
    by_cases e : c = j
    · subst e; exact o3
    · have := s3 c p
      simp only [nbd, nvm 279 c (by decide) (by decide) e, nvm 280 c (by decide) (by decide) e, nvm 281 c (by decide) (by decide) e, nvm 282 c (by decide) (by decide) e, nvm 283 c (by decide) (by decide) e, nvm 284 c (by decide) (by decide) e, nvm 285 c (by decide) (by decide) e, nvm 286 c (by decide) (by decide) e, nvm 287 c (by decide) (by decide) e, nvm 288 c (by decide) (by decide) e, nvm 289 c (by decide) (by decide) e, nvm 290 c (by decide) (by decide) e, nvm 291 c (by decide) (by decide) e, nvm 292 c (by decide) (by decide) e, nvm 293 c (by decide) (by decide) e, nvm 295 c (by decide) (by decide) e, nvm 298 c (by decide) (by decide) e, om 279 c (by decide) (by decide) e, om 280 c (by decide) (by decide) e, om 281 c (by decide) (by decide) e, om 282 c (by decide) (by decide) e, om 283 c (by decide) (by decide) e, om 284 c (by decide) (by decide) e, om 285 c (by decide) (by decide) e, om 286 c (by decide) (by decide) e, om 287 c (by decide) (by decide) e, om 288 c (by decide) (by decide) e, om 289 c (by decide) (by decide) e, om 290 c (by decide) (by decide) e, om 291 c (by decide) (by decide) e, om 292 c (by decide) (by decide) e, om 293 c (by decide) (by decide) e, om 295 c (by decide) (by decide) e, om 298 c (by decide) (by decide) e, en2, en3, h5] at this ⊢
      exact this
  · rw [en] at p
    have := s4 c p q
    have e : c ≠ j := by omega
    simp only [om 279 c (by decide) (by decide) e, om 280 c (by decide) (by decide) e, om 281 c (by decide) (by decide) e, om 282 c (by decide) (by decide) e, om 283 c (by decide) (by decide) e, om 284 c (by decide) (by decide) e, om 285 c (by decide) (by decide) e, om 286 c (by decide) (by decide) e, om 287 c (by decide) (by decide) e, om 288 c (by decide) (by decide) e, om 289 c (by decide) (by decide) e, om 290 c (by decide) (by decide) e, om 291 c (by decide) (by decide) e, om 292 c (by decide) (by decide) e, om 293 c (by decide) (by decide) e, om 295 c (by decide) (by decide) e, om 298 c (by decide) (by decide) e] at this ⊢
    exact this
