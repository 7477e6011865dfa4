/-! A MINUTE, 14: all crews at work, the reference. -/
theorem m_wk {s x y xs xa : ab_X} {j : Nat} (is : Inv2 xs s) (ia : Inv2 xa (wkN s j).1) (ht : InvT s.1) (kt : keepT s.1 x.1) (hj : j < nv s.1 246 58) (c : MW s x j y) {K : ab_X → Prop} {L : Int32 → ab_X → Prop} (k : ∀ z, MW s x (j + 1) z → L (nI (j + 1)) z) : lX12_work_25 K L (nI j) y := by
  obtain ⟨mv, wv, tv, kv⟩ := ov_f is ia ht kt hj c
  have al := ovY_al (wkN s j).1.1 (rsM y j).1
  have q58 : nv (wkN s j).1.1 246 58 = nv s.1 246 58 := by unfold nv; rw [(wkN_o s j).1 246 (by decide) (by decide) (by decide) (by decide)]
  have w := ia.w
  have b31 := w.b31
  have b58 := w.b58
  have hj' : j < nv (wkN s j).1.1 246 58 := by omega
  have ej : nI j + 1 = nI (j + 1) := nI_add j 1
  have vj : vp_in (nI j) 16 := (vpi (by omega) (by decide)).mpr trivial
  obtain ⟨v0, v1, v2, v3, v3', v4, v5, v6, v7, v8, v9, v10, v11, v12⟩ := w.cr.1 j hj'
  have l0 := v0.2
  have l8 := v8.2
  have l7 := v7.2
  have l11 := v11.2
  have now : nv (wkN s j).1.1 246 1 ≤ 20000 := by have := w.sc; unfold Wsc at this; unfold nbd at this; omega
  have e58 : y.1 246 58 = nI (nv s.1 246 58) := by rw [c.2.1 58 (by unfold kS; omega), is.w.v58]
  have c286 : (rsM y j).1 286 j = nI (nv (wkN s j).1.1 286 j) := by rw [mv.c286, al 286 (by decide) (by decide)]; exact v8.1
  have c279 : (rsM y j).1 279 j = nI (nv (wkN s j).1.1 279 j) := by rw [mv.c279, al 279 (by decide) (by decide)]; exact v0.1
  have c285 : (rsM y j).1 285 j = nI (nv (wkN s j).1.1 285 j) := by rw [mv.c285, al 285 (by decide) (by decide)]; exact v7.1
  have c293 : (rsM y j).1 293 j = nI (nv (wkN s j).1.1 293 j) := by rw [mv.c293, al 293 (by decide) (by decide)]; exact v11.1
  have c246 : (rsM y j).1 246 1 = nI (nv (wkN s j).1.1 246 1) := by rw [mv.s1, al 246 (by decide) (by decide)]; exact w.v1
  have no : ¬ (nv (wkN s j).1.1 286 j = 2 ∧ nv (wkN s j).1.1 279 j < 3) → aimO (wkN s j).1.1 (wkN s j).2.1 j = none ∧ wk1 (wkN s j) j = wkN s j := by
    intro u
    have e0 : aimO (wkN s j).1.1 (wkN s j).2.1 j = none := by
      unfold aimO; rw [if_neg (fun u' => u ⟨u'.1, by have := u'.2.1; omega⟩)]
    refine ⟨e0, ?_⟩
    unfold wk1; rw [e0]
    show (tkS (wkN s j).1 j, (wkN s j).2.1, (wkN s j).2.2) = wkN s j
    unfold tkS; rw [if_neg (fun u' => u ⟨u'.1, by have := u'.2.1; omega⟩)]
  have skip : ¬ (nv (wkN s j).1.1 286 j = 2 ∧ nv (wkN s j).1.1 279 j < 3) → L (nI (j + 1)) (rsM y j) := fun u => k _ (rs_skip hj c (no u).2 (no u).1)
  unfold lX12_work_25
  rw [e58, q_le (by omega) (by omega), cl_nI (by omega), ej]
  refine ⟨fun q => absurd hj (by omega), fun _ => ⟨vj, vj, vj, vj, ?_⟩⟩
  show ((rsM y j).1 286 j = 2 → _) ∧ (¬ (rsM y j).1 286 j = 2 → L (nI (j + 1)) (rsM y j))
  have e2 : (nI (nv (wkN s j).1.1 286 j) = 2) ↔ nv (wkN s j).1.1 286 j = 2 := q_eq (by omega) (by decide)
  rw [c286, e2]
  refine ⟨fun u => ⟨vj, vj, ?_⟩, fun u => skip (fun u' => u u'.1)⟩
  show (¬ (rsM y j).1 279 j = 2 → wX12_work_90 (nI j) ((rsM y j).1 290 j) (rsM y j) K L) ∧ ((rsM y j).1 279 j = 2 → wX12_save (nI j) ((rsM y j).1 290 j) (rsM y j) (fun x8 => wX12_work_90 (nI j) ((rsM y j).1 290 j) x8 K L))
  obtain ⟨m0, m1, m2⟩ := (w.cr.2.2.1 j hj').2.1 u
  have c290 : (rsM y j).1 290 j = nI (nv (wkN s j).1.1 290 j) := by rw [mv.c290, al 290 (by decide) (by decide)]; exact m0.1
  have e2' : (nI (nv (wkN s j).1.1 279 j) = 2) ↔ nv (wkN s j).1.1 279 j = 2 := q_eq (by omega) (by decide)
  rw [c279, e2', c290]
  refine ⟨fun u1 => ?_, fun u1 => ?_⟩
  · unfold wX12_work_90
    have e3 : (2 ≤ nI (nv (wkN s j).1.1 279 j)) ↔ 2 ≤ nv (wkN s j).1.1 279 j := q_le (by decide) (by omega)
    have e4 : (nI (nv (wkN s j).1.1 279 j) = 1) ↔ nv (wkN s j).1.1 279 j = 1 := q_eq (by omega) (by decide)
    rw [cl_nI (by omega), c279, e3, e4, c285, c293, c246, pk_sub v12, q_le (by omega) (by omega), ej]
    have go : nv (wkN s j).1.1 279 j < 2 → nv (wkN s j).1.1 293 j + nv (wkN s j).1.1 285 j ≤ nv (wkN s j).1.1 246 1 → wX12_work_133 (nI j) (nI (nv (wkN s j).1.1 290 j)) (rsM y j) K L := fun a b => m_aim is ia ht kt hj c u a b k
    refine ⟨vj, fun u2 => skip (fun u' => by have := u'.2; omega), fun u2 => ⟨vj, fun u3 => go (by omega) ?_, fun u3 => ⟨vj, vj, fun u4 => go (by omega) (by omega), fun u4 => k _ ?_⟩⟩⟩
    · have := (w.cr.2.1 j hj').2.1 (by omega)
      omega
    · have e0 : aimO (wkN s j).1.1 (wkN s j).2.1 j = none := by
        unfold aimO; rw [if_neg (fun u' => by have := u'.2.2.1; omega)]
      refine rs_skip hj c ?_ e0
      unfold wk1; rw [e0]
      show (tkS (wkN s j).1 j, (wkN s j).2.1, (wkN s j).2.2) = wkN s j
      unfold tkS; rw [if_neg (fun u' => by have := u'.2.1; omega)]
  · have e0 : aimO (wkN s j).1.1 (wkN s j).2.1 j = none := by
      unfold aimO; rw [if_neg (fun u' => by have := u'.2.1; omega)]
    have n90 : ∀ z, MW s x (j + 1) z → z.1 279 j = (rsM y j).1 279 j → wX12_work_90 (nI j) (nI (nv (wkN s j).1.1 290 j)) z K L := fun z mz ez => by
      unfold wX12_work_90
      rw [cl_nI (by omega), ez, c279, ej, u1]
      exact ⟨vj, fun _ => k z mz, fun u2 => absurd (by decide) u2⟩
    have n290 : nv (ovY (wkN s j).1.1 (rsM y j).1) 290 j = nv (wkN s j).1.1 290 j := al_nv al (by decide) (by decide)
    have aO : tkO (ovY (wkN s j).1.1 (rsM y j).1) j = tkO (wkN s j).1.1 j := by
      unfold tkO
      rw [n290, al_nv al (d := 256) (by decide) (by decide), al_nv al (d := 283) (by decide) (by decide)]
      have : tkP (ovY (wkN s j).1.1 (rsM y j).1) (nv (wkN s j).1.1 290 j) = tkP (wkN s j).1.1 (nv (wkN s j).1.1 290 j) := by
        funext f; unfold tkP; rw [al 274 (by decide) (by decide), al 272 (by decide) (by decide)]
      rw [this]
    rw [← n290]
    refine m_save wv mv (by rw [al_nv al (by decide) (by decide)]; exact hj') (by rw [al_nv al (by decide) (by decide)]; exact u) (by rw [al_nv al (by decide) (by decide)]; exact u1) (fun e => ?_) (fun f f6 e => ?_)
    · rw [aO] at e
      rw [n290]
      refine n90 _ (rs_skip hj c ?_ e0) rfl
      unfold wk1; rw [e0]
      show (tkS (wkN s j).1 j, (wkN s j).2.1, (wkN s j).2.2) = wkN s j
      unfold tkS; rw [if_neg (fun u' => u'.2.2 e)]
    · rw [aO] at e
      have et : tkS (wkN s j).1 j = tkA (wkN s j).1 (nv (wkN s j).1.1 290 j) f := by
        unfold tkS; rw [if_pos ⟨u, u1, by rw [e, n1_eq' (by omega)]; exact id⟩, e, cl_nI (by omega)]
      have := rs_save hj c e0 et
      rw [n290, al_nv al (d := 272) (by decide) (by decide), al 262 (by decide) (by decide)]
      refine n90 _ this ?_
      rw [wr_n (by decide), wr_n (by decide)]
theorem m_workA {x s xs : ab_X} (is : Inv2 xs s) (ht : InvT s.1) (m : keepM s.1 x.1) (kt : keepT s.1 x.1) (wz : ∀ k, k < 288 → x.1 268 k = nI 0) {K : ab_X → Prop} (k : ∀ y, MW s x (nv s.1 246 58) y → Lp2 (lX12_work_278 K) 0 y) : wX12_work x K := by
  have w := is.w
  have b58 := w.b58
  have b56 := w.b56
  unfold wX12_work
  refine Lp2.ind (fun ii a y => ∃ j, j ≤ nv s.1 246 56 ∧ ii = nv s.1 246 56 - j ∧ a = nI j ∧ (∀ d, d ≠ 278 → y.1 d = x.1 d) ∧ y.2 = x.2 ∧ ∀ i, i < j → y.1 278 i = nI 0) (nv s.1 246 56) ⟨0, Nat.zero_le _, rfl, rfl, fun _ _ => rfl, rfl, fun i hi => by omega⟩ ?_
  rintro ii a y ⟨j, hj, hii, rfl, y1, y2, y3⟩ L hL
  unfold lX12_work_2
  have ej : nI j + 1 = nI (j + 1) := nI_add j 1
  have e56 : y.1 246 56 = nI (nv s.1 246 56) := by rw [y1 246 (by decide), m.2 56 (by unfold kS; omega), w.v56]
  rw [e56, q_le (by omega) (by omega), ej, cl_nI (by omega)]
  refine ⟨fun q => ?_, fun q => ⟨(vpi (by omega) (by decide)).mpr trivial, hL _ _ _ (by omega) ⟨j + 1, by omega, rfl, rfl, fun d p => by rw [wr_n p]; exact y1 d p, y2, fun i hi => ?_⟩⟩⟩
  · have m0 : MW s x 0 y := by
      refine ⟨fun c p q r => ?_, fun f p => ?_, fun i hi => by omega, fun i hi => ⟨?_, ?_⟩, fun k hk => ?_, fun m hm => ?_, fun i hi => by omega, fun c k p => ?_, ⟨fun c p => y1 c (by omega), by rw [y2]⟩⟩
      · rw [y1 c (by unfold kM at p; omega), m.1 c p]; exact ((rsN_o s _).1 c q r).symm
      · rw [y1 246 (by decide)]; exact m.2 f p
      · rw [y1 291 (by decide), m.1 291 (by unfold kM; omega)]
      · rw [y1 295 (by decide), m.1 295 (by unfold kM; omega)]
      · rw [y1 268 (by decide)]; exact wz k hk
      · exact y3 m (by omega)
      · unfold tk at p; rw [y1 c (by omega)]
    clear hL
    refine Lp2.ind (fun ii a y => ∃ j, j ≤ nv s.1 246 58 ∧ ii = nv s.1 246 58 - j ∧ a = nI j ∧ MW s x j y) (nv s.1 246 58) ⟨0, Nat.zero_le _, rfl, rfl, m0⟩ ?_
    rintro ii a y ⟨j, hj, hii, rfl, my⟩ L hL
    by_cases e : j = nv s.1 246 58
    · subst e
      have e58 : y.1 246 58 = nI (nv s.1 246 58) := by rw [my.2.1 58 (by unfold kS; omega), w.v58]
      unfold lX12_work_25
      rw [e58]
      exact ⟨fun _ => k y my, fun u => absurd (Int32.le_refl _) u⟩
    · obtain ⟨xa, ia⟩ := wkN_I is j hj
      exact m_wk is ia ht kt (by omega) my (fun z mz => hL _ _ _ (by omega) ⟨j + 1, by omega, rfl, rfl, mz⟩)
  · by_cases e : i = j
    · rw [e, wr_e]; rfl
    · rw [wr_ne (by omega)]; exact y3 i (by omega)
