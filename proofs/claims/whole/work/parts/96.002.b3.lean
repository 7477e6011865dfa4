/-! FRAMES of the groups (printed by wip/lc/mkB3.py). -/
theorem wor_cg {Y Y' : Nat → Nat → Int32} (e1 : Y' 254 = Y 254) (e2 : Y' 256 = Y 256) (e3 : Y' 257 = Y 257) (e4 : Y' 266 = Y 266) (e5 : Y' 267 = Y 267) (e6 : Y' 246 31 = Y 246 31) : ∀ c, wor Y' c = wor Y c := by
  have b : ∀ k, bu Y' k = bu Y k := by intro k; unfold bu nv; rw [e4, e5]
  have g : ∀ h, bg Y' h = bg Y h := by
    intro h
    have e : (fun r => bu Y' (24 * h + r)) = (fun r => bu Y (24 * h + r)) := by funext r; exact b _
    unfold bg nv
    rw [e, e2, e3]
  have w : ∀ c n, wo Y' c n = wo Y c n := by
    intro c n
    induction n with
    | zero => rfl
    | succ n ih =>
      show (if Y' 254 n = c ∧ (wo Y' c n).2 < bg Y' n then (nI n, bg Y' n) else wo Y' c n) = (if Y 254 n = c ∧ (wo Y c n).2 < bg Y n then (nI n, bg Y n) else wo Y c n)
      rw [ih, g, e1]
  intro c
  unfold wor
  rw [w]
  unfold nv
  rw [e6]
theorem Rsc_fr {X Y X' Y' : Nat → Nat → Int32} (h : Rsc X Y) (hs0 : X' 1 7 = X 1 7) (hs1 : X' 9 2 = X 9 2) (hs2 : X' 9 6 = X 9 6) (hs3 : X' 9 9 = X 9 9) (hs4 : X' 66 3 = X 66 3) (hs5 : X' 66 5 = X 66 5) (hs6 : X' 66 7 = X 66 7) (hs7 : X' 66 12 = X 66 12) (hs8 : X' 158 1 = X 158 1) (hs9 : X' 165 4 = X 165 4) (hs10 : X' 165 9 = X 165 9) (hs11 : X' 0 9 = X 0 9) (ht0 : Y' 246 9 = Y 246 9) (ht1 : Y' 246 31 = Y 246 31) (ht2 : Y' 246 56 = Y 246 56) (ht3 : Y' 246 57 = Y 246 57) (ht4 : Y' 246 58 = Y 246 58) (ht5 : Y' 246 92 = Y 246 92) (ht6 : Y' 246 71 = Y 246 71) (ht7 : Y' 246 1 = Y 246 1) (ht8 : Y' 246 70 = Y 246 70) (ht9 : Y' 246 72 = Y 246 72) (ht10 : Y' 246 99 = Y 246 99) (ht11 : Y' 246 116 = Y 246 116) : Rsc X' Y' := by
  have nt0 : nv Y' 246 9 = nv Y 246 9 := by unfold nv; rw [ht0]
  have nt1 : nv Y' 246 31 = nv Y 246 31 := by unfold nv; rw [ht1]
  have nt2 : nv Y' 246 56 = nv Y 246 56 := by unfold nv; rw [ht2]
  have nt3 : nv Y' 246 57 = nv Y 246 57 := by unfold nv; rw [ht3]
  have nt4 : nv Y' 246 58 = nv Y 246 58 := by unfold nv; rw [ht4]
  have nt5 : nv Y' 246 92 = nv Y 246 92 := by unfold nv; rw [ht5]
  have nt6 : nv Y' 246 71 = nv Y 246 71 := by unfold nv; rw [ht6]
  have nt7 : nv Y' 246 1 = nv Y 246 1 := by unfold nv; rw [ht7]
  have nt8 : nv Y' 246 70 = nv Y 246 70 := by unfold nv; rw [ht8]
  have nt9 : nv Y' 246 72 = nv Y 246 72 := by unfold nv; rw [ht9]
  have nt10 : nv Y' 246 99 = nv Y 246 99 := by unfold nv; rw [ht10]
  have nt11 : nv Y' 246 116 = nv Y 246 116 := by unfold nv; rw [ht11]
  unfold Rsc at h ⊢
  simp only [nt0, nt1, nt2, nt3, nt4, nt5, nt6, nt7, nt8, nt9, nt10, nt11, hs0, hs1, hs2, hs3, hs4, hs5, hs6, hs7, hs8, hs9, hs10, hs11, ht0, ht1, ht2, ht3, ht4, ht5, ht6, ht7, ht8, ht9, ht10, ht11]
  exact h
theorem Rst_fr {X Y X' Y' : Nat → Nat → Int32} (h : Rst X Y) (hx0 : ∀ c, 2 ≤ c → c ≤ 7 → X' c = X c) (hy0 : ∀ c, 247 ≤ c → c ≤ 252 → Y' c = Y c) (ht0 : Y' 246 9 = Y 246 9) : Rst X' Y' := by
  have nt0 : nv Y' 246 9 = nv Y 246 9 := by unfold nv; rw [ht0]
  have nc0 : ∀ c k, 247 ≤ c → c ≤ 252 → nv Y' c k = nv Y c k := by intro c k h1 h2; unfold nv; rw [hy0 c h1 h2]
  unfold Rst at h ⊢
  simp only [nt0, nc0 247 _ (by decide) (by decide), nc0 248 _ (by decide) (by decide), nc0 249 _ (by decide) (by decide), nc0 250 _ (by decide) (by decide), nc0 251 _ (by decide) (by decide), nc0 252 _ (by decide) (by decide), hx0 2 (by decide) (by decide), hx0 3 (by decide) (by decide), hx0 4 (by decide) (by decide), hx0 5 (by decide) (by decide), hx0 6 (by decide) (by decide), hx0 7 (by decide) (by decide), hy0 247 (by decide) (by decide), hy0 248 (by decide) (by decide), hy0 249 (by decide) (by decide), hy0 250 (by decide) (by decide), hy0 251 (by decide) (by decide), hy0 252 (by decide) (by decide), ht0]
  exact h
theorem Rho_fr {X Y X' Y' : Nat → Nat → Int32} (h : Rho X Y) (hx0 : ∀ c, 30 ≤ c → c ≤ 65 → X' c = X c) (hy0 : ∀ c, 254 ≤ c → c ≤ 265 → Y' c = Y c) (hy1 : ∀ c, 272 ≤ c → c ≤ 273 → Y' c = Y c) (ht0 : Y' 246 31 = Y 246 31) (bd : ∀ h, h < nv Y 246 31 → 30 + 3 * h ≤ 65) : Rho X' Y' := by
  have nt0 : nv Y' 246 31 = nv Y 246 31 := by unfold nv; rw [ht0]
  have nc0 : ∀ c k, 254 ≤ c → c ≤ 265 → nv Y' c k = nv Y c k := by intro c k h1 h2; unfold nv; rw [hy0 c h1 h2]
  have nc1 : ∀ c k, 272 ≤ c → c ≤ 273 → nv Y' c k = nv Y c k := by intro c k h1 h2; unfold nv; rw [hy1 c h1 h2]
  obtain ⟨h1, h2, h3, h4⟩ := h
  have hx : ∀ h f, h < 12 → f < 3 → X' (30 + 3 * h + f) = X (30 + 3 * h + f) := fun h f p q => hx0 _ (by omega) (by omega)
  have hz : ∀ h, h < 12 → X' (30 + 3 * h) = X (30 + 3 * h) := fun h p => hx0 _ (by omega) (by omega)
  have ep : ∀ h, prv Y' h = prv Y h := by intro h; unfold prv; rw [hy0 254 (by decide) (by decide)]
  have en : ∀ n h, nxt Y' n h = nxt Y n h := by intro n h; unfold nxt; rw [hy0 254 (by decide) (by decide)]
  refine ⟨fun h p => ?_, fun h f p q => ?_, fun h p => ?_, fun h p q => ?_⟩
  · rw [hz h p]
    simp only [hy0 254 (by decide) (by decide), hy0 255 (by decide) (by decide), hy0 256 (by decide) (by decide), hy0 257 (by decide) (by decide), hy0 258 (by decide) (by decide), hy0 259 (by decide) (by decide), hy0 260 (by decide) (by decide), hy0 261 (by decide) (by decide), hy0 262 (by decide) (by decide), hy0 263 (by decide) (by decide), hy0 264 (by decide) (by decide), hy0 265 (by decide) (by decide), hy1 272 (by decide) (by decide), hy1 273 (by decide) (by decide)]
    exact h1 h p
  · rw [hx h 1 p (by decide), hx h 2 p (by decide)]
    simp only [hy0 254 (by decide) (by decide), hy0 255 (by decide) (by decide), hy0 256 (by decide) (by decide), hy0 257 (by decide) (by decide), hy0 258 (by decide) (by decide), hy0 259 (by decide) (by decide), hy0 260 (by decide) (by decide), hy0 261 (by decide) (by decide), hy0 262 (by decide) (by decide), hy0 263 (by decide) (by decide), hy0 264 (by decide) (by decide), hy0 265 (by decide) (by decide), hy1 272 (by decide) (by decide), hy1 273 (by decide) (by decide)]
    exact h2 h f p q
  · rw [nt0] at p
    by_cases q : h < 12
    · rw [hz h q]
      simp only [hy0 254 (by decide) (by decide), hy0 255 (by decide) (by decide), hy0 256 (by decide) (by decide), hy0 257 (by decide) (by decide), hy0 258 (by decide) (by decide), hy0 259 (by decide) (by decide), hy0 260 (by decide) (by decide), hy0 261 (by decide) (by decide), hy0 262 (by decide) (by decide), hy0 263 (by decide) (by decide), hy0 264 (by decide) (by decide), hy0 265 (by decide) (by decide), hy1 272 (by decide) (by decide), hy1 273 (by decide) (by decide), ep, en, nt0]
      exact h3 h p
    · rw [hx0 (30 + 3 * h) (by omega) (bd h p)]
      simp only [hy0 254 (by decide) (by decide), hy0 255 (by decide) (by decide), hy0 256 (by decide) (by decide), hy0 257 (by decide) (by decide), hy0 258 (by decide) (by decide), hy0 259 (by decide) (by decide), hy0 260 (by decide) (by decide), hy0 261 (by decide) (by decide), hy0 262 (by decide) (by decide), hy0 263 (by decide) (by decide), hy0 264 (by decide) (by decide), hy0 265 (by decide) (by decide), hy1 272 (by decide) (by decide), hy1 273 (by decide) (by decide), ep, en, nt0]
      exact h3 h p
  · rw [nt0] at p
    rw [hz h q]
    exact h4 h p q
theorem Rfi_fr {X Y X' Y' : Nat → Nat → Int32} (h : Rfi X Y) (hx0 : ∀ c, 12 ≤ c → c ≤ 13 → X' c = X c) (hx1 : ∀ c, 15 ≤ c → c ≤ 17 → X' c = X c) (hx2 : ∀ c, 24 ≤ c → c ≤ 25 → X' c = X c) (hs0 : X' 11 7 = X 11 7) (hy0 : ∀ c, 266 ≤ c → c ≤ 267 → Y' c = Y c) (hy1 : ∀ c, 271 ≤ c → c ≤ 271 → Y' c = Y c) (hy2 : ∀ c, 274 ≤ c → c ≤ 274 → Y' c = Y c) : Rfi X' Y' := by
  have nc0 : ∀ c k, 266 ≤ c → c ≤ 267 → nv Y' c k = nv Y c k := by intro c k h1 h2; unfold nv; rw [hy0 c h1 h2]
  have nc1 : ∀ c k, 271 ≤ c → c ≤ 271 → nv Y' c k = nv Y c k := by intro c k h1 h2; unfold nv; rw [hy1 c h1 h2]
  have nc2 : ∀ c k, 274 ≤ c → c ≤ 274 → nv Y' c k = nv Y c k := by intro c k h1 h2; unfold nv; rw [hy2 c h1 h2]
  unfold Rfi at h ⊢
  simp only [nc0 266 _ (by decide) (by decide), nc0 267 _ (by decide) (by decide), nc1 271 _ (by decide) (by decide), nc2 274 _ (by decide) (by decide), hx0 12 (by decide) (by decide), hx0 13 (by decide) (by decide), hx1 15 (by decide) (by decide), hx1 16 (by decide) (by decide), hx1 17 (by decide) (by decide), hx2 24 (by decide) (by decide), hx2 25 (by decide) (by decide), hs0, hy0 266 (by decide) (by decide), hy0 267 (by decide) (by decide), hy1 271 (by decide) (by decide), hy2 274 (by decide) (by decide)]
  exact h
theorem Rmh_fr {X Y X' Y' : Nat → Nat → Int32} (h : Rmh X Y) (hx0 : ∀ c, 27 ≤ c → c ≤ 29 → X' c = X c) (hy0 : ∀ c, 275 ≤ c → c ≤ 277 → Y' c = Y c) (ht0 : Y' 246 56 = Y 246 56) (ht1 : Y' 246 57 = Y 246 57) : Rmh X' Y' := by
  have nt0 : nv Y' 246 56 = nv Y 246 56 := by unfold nv; rw [ht0]
  have nt1 : nv Y' 246 57 = nv Y 246 57 := by unfold nv; rw [ht1]
  have nc0 : ∀ c k, 275 ≤ c → c ≤ 277 → nv Y' c k = nv Y c k := by intro c k h1 h2; unfold nv; rw [hy0 c h1 h2]
  unfold Rmh at h ⊢
  simp only [nt0, nt1, nc0 275 _ (by decide) (by decide), nc0 276 _ (by decide) (by decide), nc0 277 _ (by decide) (by decide), hx0 27 (by decide) (by decide), hx0 28 (by decide) (by decide), hx0 29 (by decide) (by decide), hy0 275 (by decide) (by decide), hy0 276 (by decide) (by decide), hy0 277 (by decide) (by decide), ht0, ht1]
  exact h
theorem Rcr_fr {X Y X' Y' : Nat → Nat → Int32} (h : Rcr X Y) (hx : ∀ c f, c < 16 → f ≤ 16 → X' (82 + c) f = X (82 + c) f) (hy0 : ∀ c, 279 ≤ c → c ≤ 293 → Y' c = Y c) (hy1 : ∀ c, 295 ≤ c → c ≤ 295 → Y' c = Y c) (hy2 : ∀ c, 298 ≤ c → c ≤ 298 → Y' c = Y c) (ht0 : Y' 246 58 = Y 246 58) (bd : ∀ c, c < nv Y 246 58 → 82 + c ≤ 97) : Rcr X' Y' := by
  have nt0 : nv Y' 246 58 = nv Y 246 58 := by unfold nv; rw [ht0]
  have nc0 : ∀ c k, 279 ≤ c → c ≤ 293 → nv Y' c k = nv Y c k := by intro c k h1 h2; unfold nv; rw [hy0 c h1 h2]
  have nc1 : ∀ c k, 295 ≤ c → c ≤ 295 → nv Y' c k = nv Y c k := by intro c k h1 h2; unfold nv; rw [hy1 c h1 h2]
  have nc2 : ∀ c k, 298 ≤ c → c ≤ 298 → nv Y' c k = nv Y c k := by intro c k h1 h2; unfold nv; rw [hy2 c h1 h2]
  obtain ⟨h1, h2⟩ := h
  refine ⟨fun c p => ?_, fun c p q => ?_⟩
  · rw [nt0] at p
    have q : c < 16 := by have := bd c p; omega
    simp only [hx c 0 q (by decide), hx c 1 q (by decide), hx c 2 q (by decide), hx c 3 q (by decide), hx c 4 q (by decide), hx c 5 q (by decide), hx c 6 q (by decide), hx c 7 q (by decide), hx c 8 q (by decide), hx c 9 q (by decide), hx c 10 q (by decide), hx c 11 q (by decide), hx c 12 q (by decide), hx c 13 q (by decide), hx c 14 q (by decide), hx c 15 q (by decide), hx c 16 q (by decide), hy0 279 (by decide) (by decide), hy0 280 (by decide) (by decide), hy0 281 (by decide) (by decide), hy0 282 (by decide) (by decide), hy0 283 (by decide) (by decide), hy0 284 (by decide) (by decide), hy0 285 (by decide) (by decide), hy0 286 (by decide) (by decide), hy0 287 (by decide) (by decide), hy0 288 (by decide) (by decide), hy0 289 (by decide) (by decide), hy0 290 (by decide) (by decide), hy0 291 (by decide) (by decide), hy0 292 (by decide) (by decide), hy0 293 (by decide) (by decide), hy1 295 (by decide) (by decide), hy2 298 (by decide) (by decide), ht0]
    exact h1 c p
  · rw [nt0] at p
    simp only [hx c 8 q (by decide), hx c 10 q (by decide), hx c 11 q (by decide), hx c 12 q (by decide), hx c 13 q (by decide), hx c 14 q (by decide), hx c 15 q (by decide), hx c 16 q (by decide)]
    exact h2 c p q
theorem Rca_fr {X Y X' Y' : Nat → Nat → Int32} (h : Rca X Y) (hx0 : ∀ c, 98 ≤ c → c ≤ 157 → X' c = X c) (hy0 : ∀ c, 310 ≤ c → c ≤ 318 → Y' c = Y c) (ht0 : Y' 246 92 = Y 246 92) (bd : ∀ c, c < nv Y 246 92 → 98 + c ≤ 157) : Rca X' Y' := by
  have nt0 : nv Y' 246 92 = nv Y 246 92 := by unfold nv; rw [ht0]
  have nc0 : ∀ c k, 310 ≤ c → c ≤ 318 → nv Y' c k = nv Y c k := by intro c k h1 h2; unfold nv; rw [hy0 c h1 h2]
  obtain ⟨h1, h2⟩ := h
  refine ⟨fun c p => ?_, fun c p q => ?_⟩
  · rw [nt0] at p
    rw [hx0 (98 + c) (by omega) (bd c p)]
    simp only [hy0 310 (by decide) (by decide), hy0 311 (by decide) (by decide), hy0 312 (by decide) (by decide), hy0 313 (by decide) (by decide), hy0 314 (by decide) (by decide), hy0 315 (by decide) (by decide), hy0 316 (by decide) (by decide), hy0 317 (by decide) (by decide), hy0 318 (by decide) (by decide), ht0]
    exact h1 c p
  · rw [nt0] at p
    rw [hx0 (98 + c) (by omega) (by omega)]
    exact h2 c p q
theorem Rev_fr {X Y X' Y' : Nat → Nat → Int32} (h : Rev X Y) (hx0 : ∀ c, 167 ≤ c → c ≤ 172 → X' c = X c) (hy0 : ∀ c, 305 ≤ c → c ≤ 306 → Y' c = Y c) (hy1 : ∀ c, 320 ≤ c → c ≤ 323 → Y' c = Y c) (ht0 : Y' 246 72 = Y 246 72) (ht1 : Y' 246 99 = Y 246 99) : Rev X' Y' := by
  have nt0 : nv Y' 246 72 = nv Y 246 72 := by unfold nv; rw [ht0]
  have nt1 : nv Y' 246 99 = nv Y 246 99 := by unfold nv; rw [ht1]
  have nc0 : ∀ c k, 305 ≤ c → c ≤ 306 → nv Y' c k = nv Y c k := by intro c k h1 h2; unfold nv; rw [hy0 c h1 h2]
  have nc1 : ∀ c k, 320 ≤ c → c ≤ 323 → nv Y' c k = nv Y c k := by intro c k h1 h2; unfold nv; rw [hy1 c h1 h2]
  unfold Rev at h ⊢
  simp only [nt0, nt1, nc0 305 _ (by decide) (by decide), nc0 306 _ (by decide) (by decide), nc1 320 _ (by decide) (by decide), nc1 321 _ (by decide) (by decide), nc1 322 _ (by decide) (by decide), nc1 323 _ (by decide) (by decide), hx0 167 (by decide) (by decide), hx0 168 (by decide) (by decide), hx0 169 (by decide) (by decide), hx0 170 (by decide) (by decide), hx0 171 (by decide) (by decide), hx0 172 (by decide) (by decide), hy0 305 (by decide) (by decide), hy0 306 (by decide) (by decide), hy1 320 (by decide) (by decide), hy1 321 (by decide) (by decide), hy1 322 (by decide) (by decide), hy1 323 (by decide) (by decide), ht0, ht1]
  exact h
theorem Rta_fr {X Y X' Y' : Nat → Nat → Int32} (h : Rta X Y) (hx0 : ∀ c, 159 ≤ c → c ≤ 159 → X' c = X c) (hy0 : ∀ c, 299 ≤ c → c ≤ 299 → Y' c = Y c) (ht0 : Y' 246 70 = Y 246 70) : Rta X' Y' := by
  have nt0 : nv Y' 246 70 = nv Y 246 70 := by unfold nv; rw [ht0]
  have nc0 : ∀ c k, 299 ≤ c → c ≤ 299 → nv Y' c k = nv Y c k := by intro c k h1 h2; unfold nv; rw [hy0 c h1 h2]
  have nx0 : ∀ k, nv X' 159 k = nv X 159 k := by intro k; unfold nv; rw [hx0 159 (by decide) (by decide)]
  unfold Rta at h ⊢
  simp only [nt0, nc0 299 _ (by decide) (by decide), nx0, hx0 159 (by decide) (by decide), hy0 299 (by decide) (by decide), ht0]
  exact h
theorem Rro_fr {X Y X' Y' : Nat → Nat → Int32} {D D' : Nat → UInt64} (h : Rro X Y D) (hx0 : ∀ c, 243 ≤ c → c ≤ 245 → X' c = X c) (hy0 : ∀ c, 331 ≤ c → c ≤ 332 → Y' c = Y c) (ht0 : Y' 246 116 = Y 246 116) (hd : D' = D) : Rro X' Y' D' := by
  have nt0 : nv Y' 246 116 = nv Y 246 116 := by unfold nv; rw [ht0]
  have nc0 : ∀ c k, 331 ≤ c → c ≤ 332 → nv Y' c k = nv Y c k := by intro c k h1 h2; unfold nv; rw [hy0 c h1 h2]
  unfold Rro at h ⊢
  unfold nbd at h ⊢
  simp only [nt0, nc0 331 _ (by decide) (by decide), nc0 332 _ (by decide) (by decide), hx0 243 (by decide) (by decide), hx0 244 (by decide) (by decide), hx0 245 (by decide) (by decide), hy0 331 (by decide) (by decide), hy0 332 (by decide) (by decide), ht0, hd]
  exact h
theorem Rwa_fr {X Y X' Y' : Nat → Nat → Int32} (h : Rwa X Y) (hy0 : ∀ c, 268 ≤ c → c ≤ 268 → Y' c = Y c) : Rwa X' Y' := by
  have nc0 : ∀ c k, 268 ≤ c → c ≤ 268 → nv Y' c k = nv Y c k := by intro c k h1 h2; unfold nv; rw [hy0 c h1 h2]
  unfold Rwa at h ⊢
  simp only [nc0 268 _ (by decide) (by decide), hy0 268 (by decide) (by decide)]
  exact h
theorem Wsc_fr {Y Y' : Nat → Nat → Int32} (h : Wsc Y) (ht0 : Y' 246 9 = Y 246 9) (ht1 : Y' 246 31 = Y 246 31) (ht2 : Y' 246 56 = Y 246 56) (ht3 : Y' 246 57 = Y 246 57) (ht4 : Y' 246 58 = Y 246 58) (ht5 : Y' 246 92 = Y 246 92) (ht6 : Y' 246 71 = Y 246 71) (ht7 : Y' 246 1 = Y 246 1) (ht8 : Y' 246 70 = Y 246 70) (ht9 : Y' 246 72 = Y 246 72) (ht10 : Y' 246 99 = Y 246 99) (ht11 : Y' 246 116 = Y 246 116) : Wsc Y' := by
  have nt0 : nv Y' 246 9 = nv Y 246 9 := by unfold nv; rw [ht0]
  have nt1 : nv Y' 246 31 = nv Y 246 31 := by unfold nv; rw [ht1]
  have nt2 : nv Y' 246 56 = nv Y 246 56 := by unfold nv; rw [ht2]
  have nt3 : nv Y' 246 57 = nv Y 246 57 := by unfold nv; rw [ht3]
  have nt4 : nv Y' 246 58 = nv Y 246 58 := by unfold nv; rw [ht4]
  have nt5 : nv Y' 246 92 = nv Y 246 92 := by unfold nv; rw [ht5]
  have nt6 : nv Y' 246 71 = nv Y 246 71 := by unfold nv; rw [ht6]
  have nt7 : nv Y' 246 1 = nv Y 246 1 := by unfold nv; rw [ht7]
  have nt8 : nv Y' 246 70 = nv Y 246 70 := by unfold nv; rw [ht8]
  have nt9 : nv Y' 246 72 = nv Y 246 72 := by unfold nv; rw [ht9]
  have nt10 : nv Y' 246 99 = nv Y 246 99 := by unfold nv; rw [ht10]
  have nt11 : nv Y' 246 116 = nv Y 246 116 := by unfold nv; rw [ht11]
  unfold Wsc at h ⊢
  unfold nbd at h ⊢
  simp only [nt0, nt1, nt2, nt3, nt4, nt5, nt6, nt7, nt8, nt9, nt10, nt11, ht0, ht1, ht2, ht3, ht4, ht5, ht6, ht7, ht8, ht9, ht10, ht11]
  exact h
theorem Wst_fr {Y Y' : Nat → Nat → Int32} (h : Wst Y) (hy0 : ∀ c, 247 ≤ c → c ≤ 250 → Y' c = Y c) (hy1 : ∀ c, 252 ≤ c → c ≤ 252 → Y' c = Y c) (ht0 : Y' 246 9 = Y 246 9) : Wst Y' := by
  have nt0 : nv Y' 246 9 = nv Y 246 9 := by unfold nv; rw [ht0]
  have nc0 : ∀ c k, 247 ≤ c → c ≤ 250 → nv Y' c k = nv Y c k := by intro c k h1 h2; unfold nv; rw [hy0 c h1 h2]
  have nc1 : ∀ c k, 252 ≤ c → c ≤ 252 → nv Y' c k = nv Y c k := by intro c k h1 h2; unfold nv; rw [hy1 c h1 h2]
  unfold Wst at h ⊢
  unfold nbd at h ⊢
  simp only [nt0, nc0 247 _ (by decide) (by decide), nc0 248 _ (by decide) (by decide), nc0 249 _ (by decide) (by decide), nc0 250 _ (by decide) (by decide), nc1 252 _ (by decide) (by decide), hy0 247 (by decide) (by decide), hy0 248 (by decide) (by decide), hy0 249 (by decide) (by decide), hy0 250 (by decide) (by decide), hy1 252 (by decide) (by decide), ht0]
  exact h
theorem Wwk_fr {Y Y' : Nat → Nat → Int32} (h : Wwk Y) (hy0 : ∀ c, 251 ≤ c → c ≤ 251 → Y' c = Y c) : Wwk Y' := by
  have nc0 : ∀ c k, 251 ≤ c → c ≤ 251 → nv Y' c k = nv Y c k := by intro c k h1 h2; unfold nv; rw [hy0 c h1 h2]
  unfold Wwk at h ⊢
  unfold nbd at h ⊢
  simp only [nc0 251 _ (by decide) (by decide), hy0 251 (by decide) (by decide)]
  exact h
theorem Who_fr {Y Y' : Nat → Nat → Int32} (h : Who Y) (hy0 : ∀ c, 254 ≤ c → c ≤ 261 → Y' c = Y c) (hy1 : ∀ c, 265 ≤ c → c ≤ 265 → Y' c = Y c) (hy2 : ∀ c, 272 ≤ c → c ≤ 273 → Y' c = Y c) (ht0 : Y' 246 31 = Y 246 31) : Who Y' := by
  have nt0 : nv Y' 246 31 = nv Y 246 31 := by unfold nv; rw [ht0]
  have nc0 : ∀ c k, 254 ≤ c → c ≤ 261 → nv Y' c k = nv Y c k := by intro c k h1 h2; unfold nv; rw [hy0 c h1 h2]
  have nc1 : ∀ c k, 265 ≤ c → c ≤ 265 → nv Y' c k = nv Y c k := by intro c k h1 h2; unfold nv; rw [hy1 c h1 h2]
  have nc2 : ∀ c k, 272 ≤ c → c ≤ 273 → nv Y' c k = nv Y c k := by intro c k h1 h2; unfold nv; rw [hy2 c h1 h2]
  unfold Who at h ⊢
  unfold nbd at h ⊢
  simp only [nt0, nc0 254 _ (by decide) (by decide), nc0 255 _ (by decide) (by decide), nc0 256 _ (by decide) (by decide), nc0 257 _ (by decide) (by decide), nc0 258 _ (by decide) (by decide), nc0 259 _ (by decide) (by decide), nc0 260 _ (by decide) (by decide), nc0 261 _ (by decide) (by decide), nc1 265 _ (by decide) (by decide), nc2 272 _ (by decide) (by decide), nc2 273 _ (by decide) (by decide), hy0 254 (by decide) (by decide), hy0 255 (by decide) (by decide), hy0 256 (by decide) (by decide), hy0 257 (by decide) (by decide), hy0 258 (by decide) (by decide), hy0 259 (by decide) (by decide), hy0 260 (by decide) (by decide), hy0 261 (by decide) (by decide), hy1 265 (by decide) (by decide), hy2 272 (by decide) (by decide), hy2 273 (by decide) (by decide), ht0]
  exact h
theorem Wfi_fr {Y Y' : Nat → Nat → Int32} (h : Wfi Y) (hy0 : ∀ c, 266 ≤ c → c ≤ 267 → Y' c = Y c) (hy1 : ∀ c, 271 ≤ c → c ≤ 272 → Y' c = Y c) (hy2 : ∀ c, 274 ≤ c → c ≤ 274 → Y' c = Y c) (hy3 : ∀ c, 255 ≤ c → c ≤ 257 → Y' c = Y c) (ht0 : Y' 246 31 = Y 246 31) : Wfi Y' := by
  have nt0 : nv Y' 246 31 = nv Y 246 31 := by unfold nv; rw [ht0]
  have nc0 : ∀ c k, 266 ≤ c → c ≤ 267 → nv Y' c k = nv Y c k := by intro c k h1 h2; unfold nv; rw [hy0 c h1 h2]
  have nc1 : ∀ c k, 271 ≤ c → c ≤ 272 → nv Y' c k = nv Y c k := by intro c k h1 h2; unfold nv; rw [hy1 c h1 h2]
  have nc2 : ∀ c k, 274 ≤ c → c ≤ 274 → nv Y' c k = nv Y c k := by intro c k h1 h2; unfold nv; rw [hy2 c h1 h2]
  have nc3 : ∀ c k, 255 ≤ c → c ≤ 257 → nv Y' c k = nv Y c k := by intro c k h1 h2; unfold nv; rw [hy3 c h1 h2]
  unfold Wfi at h ⊢
  unfold nbd at h ⊢
  unfold WLd ld brN at h ⊢
  simp only [nt0, nc0 266 _ (by decide) (by decide), nc0 267 _ (by decide) (by decide), nc1 271 _ (by decide) (by decide), nc1 272 _ (by decide) (by decide), nc2 274 _ (by decide) (by decide), nc3 255 _ (by decide) (by decide), nc3 256 _ (by decide) (by decide), nc3 257 _ (by decide) (by decide), hy0 266 (by decide) (by decide), hy0 267 (by decide) (by decide), hy1 271 (by decide) (by decide), hy1 272 (by decide) (by decide), hy2 274 (by decide) (by decide), hy3 255 (by decide) (by decide), hy3 256 (by decide) (by decide), hy3 257 (by decide) (by decide), ht0]
  exact h
theorem Wmh_fr {Y Y' : Nat → Nat → Int32} (h : Wmh Y) (hy0 : ∀ c, 275 ≤ c → c ≤ 277 → Y' c = Y c) (ht0 : Y' 246 56 = Y 246 56) (ht1 : Y' 246 57 = Y 246 57) : Wmh Y' := by
  have nt0 : nv Y' 246 56 = nv Y 246 56 := by unfold nv; rw [ht0]
  have nt1 : nv Y' 246 57 = nv Y 246 57 := by unfold nv; rw [ht1]
  have nc0 : ∀ c k, 275 ≤ c → c ≤ 277 → nv Y' c k = nv Y c k := by intro c k h1 h2; unfold nv; rw [hy0 c h1 h2]
  unfold Wmh at h ⊢
  unfold nbd at h ⊢
  simp only [nt0, nt1, nc0 275 _ (by decide) (by decide), nc0 276 _ (by decide) (by decide), nc0 277 _ (by decide) (by decide), hy0 275 (by decide) (by decide), hy0 276 (by decide) (by decide), hy0 277 (by decide) (by decide), ht0, ht1]
  exact h
theorem Wcr_fr {Y Y' : Nat → Nat → Int32} (h : Wcr Y) (hy0 : ∀ c, 279 ≤ c → c ≤ 293 → Y' c = Y c) (hy1 : ∀ c, 295 ≤ c → c ≤ 295 → Y' c = Y c) (hy2 : ∀ c, 298 ≤ c → c ≤ 298 → Y' c = Y c) (hy3 : ∀ c, 254 ≤ c → c ≤ 254 → Y' c = Y c) (ht0 : Y' 246 58 = Y 246 58) (ht1 : Y' 246 92 = Y 246 92) (ht2 : Y' 246 31 = Y 246 31) (ht3 : Y' 246 1 = Y 246 1) : Wcr Y' := by
  have nt0 : nv Y' 246 58 = nv Y 246 58 := by unfold nv; rw [ht0]
  have nt1 : nv Y' 246 92 = nv Y 246 92 := by unfold nv; rw [ht1]
  have nt2 : nv Y' 246 31 = nv Y 246 31 := by unfold nv; rw [ht2]
  have nt3 : nv Y' 246 1 = nv Y 246 1 := by unfold nv; rw [ht3]
  have nc0 : ∀ c k, 279 ≤ c → c ≤ 293 → nv Y' c k = nv Y c k := by intro c k h1 h2; unfold nv; rw [hy0 c h1 h2]
  have nc1 : ∀ c k, 295 ≤ c → c ≤ 295 → nv Y' c k = nv Y c k := by intro c k h1 h2; unfold nv; rw [hy1 c h1 h2]
  have nc2 : ∀ c k, 298 ≤ c → c ≤ 298 → nv Y' c k = nv Y c k := by intro c k h1 h2; unfold nv; rw [hy2 c h1 h2]
  have nc3 : ∀ c k, 254 ≤ c → c ≤ 254 → nv Y' c k = nv Y c k := by intro c k h1 h2; unfold nv; rw [hy3 c h1 h2]
  unfold Wcr at h ⊢
  unfold nbd at h ⊢
  simp only [nt0, nt1, nt2, nt3, nc0 279 _ (by decide) (by decide), nc0 280 _ (by decide) (by decide), nc0 281 _ (by decide) (by decide), nc0 282 _ (by decide) (by decide), nc0 283 _ (by decide) (by decide), nc0 284 _ (by decide) (by decide), nc0 285 _ (by decide) (by decide), nc0 286 _ (by decide) (by decide), nc0 287 _ (by decide) (by decide), nc0 288 _ (by decide) (by decide), nc0 289 _ (by decide) (by decide), nc0 290 _ (by decide) (by decide), nc0 291 _ (by decide) (by decide), nc0 292 _ (by decide) (by decide), nc0 293 _ (by decide) (by decide), nc1 295 _ (by decide) (by decide), nc2 298 _ (by decide) (by decide), nc3 254 _ (by decide) (by decide), hy0 279 (by decide) (by decide), hy0 280 (by decide) (by decide), hy0 281 (by decide) (by decide), hy0 282 (by decide) (by decide), hy0 283 (by decide) (by decide), hy0 284 (by decide) (by decide), hy0 285 (by decide) (by decide), hy0 286 (by decide) (by decide), hy0 287 (by decide) (by decide), hy0 288 (by decide) (by decide), hy0 289 (by decide) (by decide), hy0 290 (by decide) (by decide), hy0 291 (by decide) (by decide), hy0 292 (by decide) (by decide), hy0 293 (by decide) (by decide), hy1 295 (by decide) (by decide), hy2 298 (by decide) (by decide), hy3 254 (by decide) (by decide), ht0, ht1, ht2, ht3]
  exact h
theorem Wca_fr {Y Y' : Nat → Nat → Int32} (h : Wca Y) (hy0 : ∀ c, 310 ≤ c → c ≤ 318 → Y' c = Y c) (ht0 : Y' 246 92 = Y 246 92) (ht1 : Y' 246 1 = Y 246 1) : Wca Y' := by
  have nt0 : nv Y' 246 92 = nv Y 246 92 := by unfold nv; rw [ht0]
  have nt1 : nv Y' 246 1 = nv Y 246 1 := by unfold nv; rw [ht1]
  have nc0 : ∀ c k, 310 ≤ c → c ≤ 318 → nv Y' c k = nv Y c k := by intro c k h1 h2; unfold nv; rw [hy0 c h1 h2]
  unfold Wca at h ⊢
  unfold nbd at h ⊢
  simp only [nt0, nt1, nc0 310 _ (by decide) (by decide), nc0 311 _ (by decide) (by decide), nc0 312 _ (by decide) (by decide), nc0 313 _ (by decide) (by decide), nc0 314 _ (by decide) (by decide), nc0 315 _ (by decide) (by decide), nc0 316 _ (by decide) (by decide), nc0 317 _ (by decide) (by decide), nc0 318 _ (by decide) (by decide), hy0 310 (by decide) (by decide), hy0 311 (by decide) (by decide), hy0 312 (by decide) (by decide), hy0 313 (by decide) (by decide), hy0 314 (by decide) (by decide), hy0 315 (by decide) (by decide), hy0 316 (by decide) (by decide), hy0 317 (by decide) (by decide), hy0 318 (by decide) (by decide), ht0, ht1]
  exact h
theorem Wev_fr {Y Y' : Nat → Nat → Int32} (h : Wev Y) (hy0 : ∀ c, 305 ≤ c → c ≤ 306 → Y' c = Y c) (hy1 : ∀ c, 320 ≤ c → c ≤ 323 → Y' c = Y c) (ht0 : Y' 246 99 = Y 246 99) (ht1 : Y' 246 31 = Y 246 31) (ht2 : Y' 246 72 = Y 246 72) (ht3 : Y' 246 1 = Y 246 1) : Wev Y' := by
  have nt0 : nv Y' 246 99 = nv Y 246 99 := by unfold nv; rw [ht0]
  have nt1 : nv Y' 246 31 = nv Y 246 31 := by unfold nv; rw [ht1]
  have nt2 : nv Y' 246 72 = nv Y 246 72 := by unfold nv; rw [ht2]
  have nt3 : nv Y' 246 1 = nv Y 246 1 := by unfold nv; rw [ht3]
  have nc0 : ∀ c k, 305 ≤ c → c ≤ 306 → nv Y' c k = nv Y c k := by intro c k h1 h2; unfold nv; rw [hy0 c h1 h2]
  have nc1 : ∀ c k, 320 ≤ c → c ≤ 323 → nv Y' c k = nv Y c k := by intro c k h1 h2; unfold nv; rw [hy1 c h1 h2]
  unfold Wev at h ⊢
  unfold nbd at h ⊢
  simp only [nt0, nt1, nt2, nt3, nc0 305 _ (by decide) (by decide), nc0 306 _ (by decide) (by decide), nc1 320 _ (by decide) (by decide), nc1 321 _ (by decide) (by decide), nc1 322 _ (by decide) (by decide), nc1 323 _ (by decide) (by decide), hy0 305 (by decide) (by decide), hy0 306 (by decide) (by decide), hy1 320 (by decide) (by decide), hy1 321 (by decide) (by decide), hy1 322 (by decide) (by decide), hy1 323 (by decide) (by decide), ht0, ht1, ht2, ht3]
  exact h
theorem Wcb_fr {Y Y' : Nat → Nat → Int32} (h : Wcb Y) (hy0 : ∀ c, 254 ≤ c → c ≤ 254 → Y' c = Y c) (hy1 : ∀ c, 256 ≤ c → c ≤ 257 → Y' c = Y c) (hy2 : ∀ c, 266 ≤ c → c ≤ 267 → Y' c = Y c) (hy3 : ∀ c, 310 ≤ c → c ≤ 310 → Y' c = Y c) (hy4 : ∀ c, 312 ≤ c → c ≤ 312 → Y' c = Y c) (hy5 : ∀ c, 318 ≤ c → c ≤ 318 → Y' c = Y c) (ht0 : Y' 246 31 = Y 246 31) (ht1 : Y' 246 92 = Y 246 92) : Wcb Y' := by
  have nt0 : nv Y' 246 31 = nv Y 246 31 := by unfold nv; rw [ht0]
  have nt1 : nv Y' 246 92 = nv Y 246 92 := by unfold nv; rw [ht1]
  have nc0 : ∀ c k, 254 ≤ c → c ≤ 254 → nv Y' c k = nv Y c k := by intro c k h1 h2; unfold nv; rw [hy0 c h1 h2]
  have nc1 : ∀ c k, 256 ≤ c → c ≤ 257 → nv Y' c k = nv Y c k := by intro c k h1 h2; unfold nv; rw [hy1 c h1 h2]
  have nc2 : ∀ c k, 266 ≤ c → c ≤ 267 → nv Y' c k = nv Y c k := by intro c k h1 h2; unfold nv; rw [hy2 c h1 h2]
  have nc3 : ∀ c k, 310 ≤ c → c ≤ 310 → nv Y' c k = nv Y c k := by intro c k h1 h2; unfold nv; rw [hy3 c h1 h2]
  have nc4 : ∀ c k, 312 ≤ c → c ≤ 312 → nv Y' c k = nv Y c k := by intro c k h1 h2; unfold nv; rw [hy4 c h1 h2]
  have nc5 : ∀ c k, 318 ≤ c → c ≤ 318 → nv Y' c k = nv Y c k := by intro c k h1 h2; unfold nv; rw [hy5 c h1 h2]
  unfold Wcb at h ⊢
  have ew : ∀ c, wor Y' c = wor Y c := wor_cg (hy0 254 (by decide) (by decide)) (hy1 256 (by decide) (by decide)) (hy1 257 (by decide) (by decide)) (hy2 266 (by decide) (by decide)) (hy2 267 (by decide) (by decide)) ht0
  simp only [ew]
  simp only [nt0, nt1, nc0 254 _ (by decide) (by decide), nc1 256 _ (by decide) (by decide), nc1 257 _ (by decide) (by decide), nc2 266 _ (by decide) (by decide), nc2 267 _ (by decide) (by decide), nc3 310 _ (by decide) (by decide), nc4 312 _ (by decide) (by decide), nc5 318 _ (by decide) (by decide), hy0 254 (by decide) (by decide), hy1 256 (by decide) (by decide), hy1 257 (by decide) (by decide), hy2 266 (by decide) (by decide), hy2 267 (by decide) (by decide), hy3 310 (by decide) (by decide), hy4 312 (by decide) (by decide), hy5 318 (by decide) (by decide), ht0, ht1]
  exact h
