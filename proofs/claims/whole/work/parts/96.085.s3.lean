/-! A MINUTE, 12: crews at work, the reference, one crew. -/
def rsM (y : ab_X) (j : Nat) : ab_X := wr (wr (wr y 294 j 0) 295 j 0) 291 j (-1)
def ovY (Y A : Nat → Nat → Int32) : Nat → Nat → Int32 := fun c => if c = 291 then A 291 else if c = 295 then A 295 else Y c
theorem ovY_al (Y A : Nat → Nat → Int32) : Al Y (ovY Y A) := fun d p q => by unfold ovY; rw [if_neg p, if_neg q]
theorem ov_f {s x y xs xa : ab_X} {j : Nat} (is : Inv2 xs s) (ia : Inv2 xa (wkN s j).1) (ht : InvT s.1) (kt : keepT s.1 x.1) (hj : j < nv s.1 246 58) (c : MW s x j y) : keepM (ovY (wkN s j).1.1 (rsM y j).1) (rsM y j).1 ∧ WW (ovY (wkN s j).1.1 (rsM y j).1) ∧ InvT (ovY (wkN s j).1.1 (rsM y j).1) ∧ keepT (ovY (wkN s j).1.1 (rsM y j).1) (rsM y j).1 := by
  obtain ⟨c1, c2, c3, c4, c5, c6, c7, c8, c9⟩ := c
  have q58 : (wkN s j).1.1 246 = s.1 246 := (wkN_o s j).1 246 (by decide) (by decide) (by decide) (by decide)
  have q286 : (wkN s j).1.1 286 = s.1 286 := (wkN_o s j).1 286 (by decide) (by decide) (by decide) (by decide)
  have ro : ∀ d, d ≠ 291 → d ≠ 294 → d ≠ 295 → (rsM y j).1 d = y.1 d := fun d p q r => by unfold rsM; simp (disch := omega) only [wr_n]
  have al := ovY_al (wkN s j).1.1 (rsM y j).1
  have w : WW (ovY (wkN s j).1.1 (rsM y j).1) := by
    refine WW_alt ia.w al (fun i hi h => ?_) (fun i p q => ?_)
    · have hi' : i < nv s.1 246 58 := by unfold nv at hi ⊢; rw [q58] at hi; exact hi
      have h' : ¬ nv s.1 286 i = 2 := by unfold nv at h ⊢; rw [q286] at h; exact h
      show (rsM y j).1 291 i = -nI 1
      unfold rsM
      by_cases e : i = j
      · rw [e, wr_e]; rfl
      · simp (disch := omega) only [wr_ne]
        by_cases e' : i < j
        · rw [(c3 i e').1]; exact ((ia.w.cr.2.2.1 i hi).2.2.1 h).2
        · rw [(c4 i (by omega)).1]; exact ((is.w.cr.2.2.1 i hi').2.2.1 h').2
    · have p' : nv s.1 246 58 ≤ i := by unfold nv at p ⊢; rw [q58] at p; exact p
      show (rsM y j).1 295 i = nI 0
      unfold rsM
      simp (disch := omega) only [wr_ne]
      rw [(c4 i (by omega)).2]; exact (is.w.cr.2.2.2 i p' q).2.2.2
  have k1 : keepT s.1 (ovY (wkN s j).1.1 (rsM y j).1) := fun c k q => by
    have := q
    unfold tk at this
    rw [al c (by omega) (by omega)]; exact wkN_t s j c k q
  refine ⟨⟨fun c q => ?_, fun f q => ?_⟩, w, InvT_keep ht (by have := is.w.b72; exact this) k1, fun c k q => ?_⟩
  · by_cases e : c = 291
    · subst e; rfl
    by_cases e' : c = 295
    · subst e'; rfl
    rw [al c e e', ro c e (by unfold kM at q; omega) e']; exact c1 c q e e'
  · rw [al 246 (by decide) (by decide), ro 246 (by decide) (by decide) (by decide), q58]; exact c2 f q
  · have := q
    unfold tk at this
    rw [k1 c k q, ro c (by omega) (by omega) (by omega), c8 c k q]; exact kt c k q
theorem rs_skip {s x y : ab_X} {j : Nat} (hj : j < nv s.1 246 58) (c : MW s x j y) (e : wk1 (wkN s j) j = wkN s j) (e0 : aimO (wkN s j).1.1 (wkN s j).2.1 j = none) : MW s x (j + 1) (rsM y j) := by
  have cc := c
  obtain ⟨c1, c2, c3, c4, c5, c6, c7, c8, c9⟩ := cc
  have ro : ∀ d, d ≠ 291 → d ≠ 294 → d ≠ 295 → (rsM y j).1 d = y.1 d := fun d p q r => by unfold rsM; simp (disch := omega) only [wr_n]
  refine MW_next c (fun d p q r => ?_) (fun f q => by rw [ro 246 (by decide) (by decide) (by decide)]) ⟨?_, ?_⟩ (fun i hi => ?_) (fun k hk => ?_) (fun m hm => ?_) ?_ (fun d k q => ?_) ⟨fun d q => ro d (by omega) (by omega) (by omega), rfl⟩
  · rw [e, ro d q (by unfold kM at p; omega) r]; exact c1 d p q r
  · rw [e, ((wkN_v s j).1 j (Nat.le_refl _)).2.1 hj]; unfold rsM; rw [wr_e]; rfl
  · unfold rsM; rw [wr_ne (by omega), wr_e]; rfl
  · unfold rsM
    refine ⟨?_, ?_, ?_, ?_, ?_⟩ <;> simp (disch := omega) only [wr_ne]
  · rw [e, ro 268 (by decide) (by decide) (by decide)]; exact c5 k hk
  · rw [e0, ro 278 (by decide) (by decide) (by decide)]
    show _ = _ + nI 0
    rw [c6 m hm, nI_add]; rfl
  · rw [e0]
    show (rsM y j).1 294 j = nI 0
    unfold rsM; rw [wr_ne (by omega), wr_ne (by omega), wr_e]; rfl
  · unfold tk at q; rw [ro d (by omega) (by omega) (by omega)]
theorem rs_save {s x y : ab_X} {j h f : Nat} (hj : j < nv s.1 246 58) (c : MW s x j y) (e0 : aimO (wkN s j).1.1 (wkN s j).2.1 j = none) (et : tkS (wkN s j).1 j = tkA (wkN s j).1 h f) : MW s x (j + 1) (wr (wr (rsM y j) 272 (6 * h + f) (nI (nv (wkN s j).1.1 272 (6 * h + f) - min 2 (nv (wkN s j).1.1 272 (6 * h + f))))) 262 h ((wkN s j).1.1 262 h + nI (min 2 (nv (wkN s j).1.1 272 (6 * h + f))))) := by
  have cc := c
  obtain ⟨c1, c2, c3, c4, c5, c6, c7, c8, c9⟩ := cc
  have ew : wk1 (wkN s j) j = (tkA (wkN s j).1 h f, (wkN s j).2.1, (wkN s j).2.2) := by unfold wk1; rw [e0, et]
  generalize hA : nI (nv (wkN s j).1.1 272 (6 * h + f) - min 2 (nv (wkN s j).1.1 272 (6 * h + f))) = A at *
  generalize hB : (wkN s j).1.1 262 h + nI (min 2 (nv (wkN s j).1.1 272 (6 * h + f))) = B at *
  have eA : tkA (wkN s j).1 h f = wr (wr (wkN s j).1 272 (6 * h + f) A) 262 h B := by unfold tkA; rw [hA, hB]
  have ro : ∀ d, d ≠ 291 → d ≠ 294 → d ≠ 295 → d ≠ 272 → d ≠ 262 → (wr (wr (rsM y j) 272 (6 * h + f) A) 262 h B).1 d = y.1 d := fun d p q r u v => by unfold rsM; simp (disch := omega) only [wr_n]
  refine MW_next c (fun d p q r => ?_) (fun f q => by rw [ro 246 (by decide) (by decide) (by decide) (by decide) (by decide)]) ⟨?_, ?_⟩ (fun i hi => ?_) (fun k hk => ?_) (fun m hm => ?_) ?_ (fun d k q => ?_) ⟨fun d q => ro d (by omega) (by omega) (by omega) (by omega) (by omega), rfl⟩
  · rw [ew, eA]
    show (wr (wr (rsM y j) 272 (6 * h + f) A) 262 h B).1 d = (wr (wr (wkN s j).1 272 (6 * h + f) A) 262 h B).1 d
    funext k
    have e1 : (rsM y j).1 d k = (wkN s j).1.1 d k := by
      rw [← c1 d p q r]; unfold rsM; unfold kM at p; simp (disch := omega) only [wr_n]
    rw [wr_rd, wr_rd, wr_rd, wr_rd, e1]
  · rw [ew, eA]
    show _ = (wr (wr (wkN s j).1 272 (6 * h + f) A) 262 h B).1 291 j
    rw [wr_n (by omega), wr_n (by omega), wr_n (by omega), wr_n (by omega), ((wkN_v s j).1 j (Nat.le_refl _)).2.1 hj]; unfold rsM; rw [wr_e]; rfl
  · unfold rsM; simp (disch := omega) only [wr_ne, wr_e]; rfl
  · unfold rsM
    refine ⟨?_, ?_, ?_, ?_, ?_⟩ <;> simp (disch := omega) only [wr_ne]
  · rw [ew, ro 268 (by decide) (by decide) (by decide) (by decide) (by decide)]; exact c5 k hk
  · rw [e0, ro 278 (by decide) (by decide) (by decide) (by decide) (by decide)]
    show _ = _ + nI 0
    rw [c6 m hm, nI_add]; rfl
  · rw [e0]
    show _ = nI 0
    unfold rsM; simp (disch := omega) only [wr_ne, wr_e]; rfl
  · unfold tk at q; rw [ro d (by omega) (by omega) (by omega) (by omega) (by omega)]
