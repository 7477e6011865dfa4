/-! A MINUTE, 2: crews arrive, go over. -/
def wkS (s : ab_X) (j : Nat) : ab_X := wr (wr (wr (wr s 286 j (nI 2)) 288 j (-nI 1)) 290 j (wor s.1 (s.1 287 j))) 293 j (nI (nv s.1 246 1))
def arvS (s : ab_X) (j : Nat) : ab_X := if nv s.1 286 j = 3 then rsS s j (s.1 287 j) else if s.1 312 (nv s.1 289 j) = nI 0 then (if wor s.1 (s.1 287 j) = -nI 1 then tnS (clS s (nv s.1 289 j) (if s.1 318 (nv s.1 289 j) = nI 0 then nI 2 else nI 1)) j else wkS s j) else tnS s j
def rA (x y : ab_X) : Prop := (∀ d, d ≠ 253 → ¬ (286 ≤ d ∧ d ≤ 293) → d ≠ 312 → d ≠ 314 → y.1 d = x.1 d) ∧ y.2.1 = x.2.1
theorem rA.rfl' {x : ab_X} : rA x x := ⟨fun _ _ _ _ _ => rfl, rfl⟩
theorem rA.tr {x y z : ab_X} (h : rA x y) (g : rA y z) : rA x z := ⟨fun d a b c e => (g.1 d a b c e).trans (h.1 d a b c e), g.2.trans h.2⟩
theorem cl_I {x s : ab_X} {k v : Nat} (h : Inv2 x s) (hk : k < nv s.1 246 92) (hv : v = 1 ∨ v = 2) : Inv2 (wr (wr x (98 + k) 2 (nI v)) (98 + k) 4 (nI (nv s.1 246 1))) (clS s k (nI v)) := by
  have b92 := h.w.b92
  unfold clS Inv2
  simp (disch := omega) only [mg_wc, mg_wm]
  refine i_close (k := k) h ?_ hv rfl
  unfold nv; rw [mg_m (by decide)]; exact hk
theorem c_arrive {x s : ab_X} {j : Nat} (h : Inv2 x s) (hj : j < nv s.1 246 58) (hst : nv s.1 286 j = 1 ∨ nv s.1 286 j = 3) {K : ab_X → Prop} (k : ∀ y, Inv2 y (arvS s j) → keepT x.1 y.1 → smM x y → K y) : wX0_arrive (82 + j) x K := by
  have w := h.w
  have b58 := w.b58
  have b92 := w.b92
  have b31 := w.b31
  have b1 := w.b1
  obtain ⟨v0, v1, v2, v3, v3', v4, v5, v6, v7, v8, v9, v10, -⟩ := w.cr.1 j hj
  obtain ⟨r0, r1, r2, r3, r4, r5, r6, r7, r8, r9, r10, r11, -⟩ := h.r.cr.1 j hj
  have u9 := v9.2
  unfold wX0_arrive
  rw [r8, v8.1]
  simp only [nI_lit]
  rw [q_eq (by omega) (by omega)]
  unfold arvS at k
  refine ⟨fun q => ?_, fun q => ?_⟩
  · have h1 : nv s.1 286 j = 1 := by omega
    rw [if_neg q] at k
    obtain ⟨g0, -⟩ := w.cr.2.2.1 j hj
    obtain ⟨g1, g2⟩ := g0 h1
    obtain ⟨c0, c1, c2, c3, c4, c5, c6, c7, c8⟩ := h.r.ca.1 _ g2
    obtain ⟨a1, a2, a3, a4, a5, a6⟩ := w.ca.1 _ g2
    rw [r9]
    refine c_worst h.r.tr w.tw ?_
    rw [f_below, r11, g1.1, h.r.s92, w.v92, jx_I g2 (by omega), cl_nI (by omega), c2]
    refine y1 ⟨(vpi (by omega) (by decide)).mpr trivial, fun q2 => ?_, fun q2 => ?_⟩
    · rw [if_neg q2] at k
      unfold wX0_arrive_62 wX0_arrive_63 wX0_arrive_83 wX0_arrive_123
      exact y0 (y0 (c_turn h hj (fun y iy kty smy => k y iy kty smy)))
    · rw [if_pos q2] at k
      unfold wX0_arrive_63 wX0_arrive_83 wX0_arrive_116 wX0_arrive_123 wX1_close
      refine y1 ⟨fun q3 => ?_, fun q3 => ?_⟩
      · have q3 : wor s.1 (s.1 287 j) = -nI 1 := q3
        rw [if_pos q3] at k
        refine y1 ?_
        rw [r11, g1.1, cl_nI (by omega), c8, h.r.s1, w.v1]
        have vk : vp_in (nI (nv s.1 289 j)) 60 := (vpi (by omega) (by decide)).mpr trivial
        have go : ∀ v, (v = 1 ∨ v = 2) → nI v = (if s.1 318 (nv s.1 289 j) = nI 0 then nI 2 else nI 1) → wX0_turnHome (82 + j) (wr (wr x (98 + nv s.1 289 j) 2 (nI v)) (98 + nv s.1 289 j) 4 (nI (nv s.1 246 1))) (fun x8 => K x8) := by
          intro v hv ev
          have g := cl_I h g2 hv
          rw [ev] at g
          have kt0 : keepT x.1 (wr (wr x (98 + nv s.1 289 j) 2 (nI v)) (98 + nv s.1 289 j) 4 (nI (nv s.1 246 1))).1 := fun c i q => by unfold tk at q; simp (disch := omega) only [wr_ne]
          have sm0 : smM x (wr (wr x (98 + nv s.1 289 j) 2 (nI v)) (98 + nv s.1 289 j) 4 (nI (nv s.1 246 1))) := ⟨fun c q => by simp (disch := omega) only [wr_n], rfl⟩
          refine c_turn (s := clS s (nv s.1 289 j) (if s.1 318 (nv s.1 289 j) = nI 0 then nI 2 else nI 1)) ?_ ?_ (fun y iy kty smy => k y iy (kt0.tr kty) (sm0.tr smy))
          · rw [ev]; exact g
          · unfold nv clS; rw [wr_n (by decide), wr_n (by decide)]; exact hj
        refine ⟨vk, vk, fun q4 => ?_, fun q4 => ?_⟩
        · exact go 2 (Or.inr rfl) (by have q4 : s.1 318 (nv s.1 289 j) = nI 0 := q4; rw [if_pos q4])
        · exact go 1 (Or.inl rfl) (by have q4 : ¬ s.1 318 (nv s.1 289 j) = nI 0 := q4; rw [if_neg q4])
      · have q3 : ¬ wor s.1 (s.1 287 j) = -nI 1 := q3
        rw [if_neg q3] at k
        unfold wX2_workIn
        rw [h.r.s1, w.v1]
        rcases wor_d s.1 (s.1 287 j) with ⟨e, -⟩ | ⟨hh, hh1, e, e1, e2⟩
        · exact absurd e q3
        refine k _ ?_ (fun c i q => by unfold tk at q; simp (disch := omega) only [wr_ne]) ⟨fun c q => by simp (disch := omega) only [wr_n], rfl⟩
        unfold wkS Inv2
        rw [e]
        simp (disch := omega) only [mg_wc, mg_wm]
        have en : nv (mg x s).1 246 1 = nv s.1 246 1 := by unfold nv; rw [mg_m (by decide)]
        refine i_work (j := j) (hh := hh) h ?_ ?_ ?_ ?_ (by rw [en]; rfl)
        · unfold nv; rw [mg_m (by decide)]; exact hj
        · unfold nv; rw [mg_m (by decide)]; exact h1
        · unfold nv; rw [mg_m (by decide)]; exact hh1
        · rw [mg_m (by decide), mg_m (by decide)]; exact e2
  · rw [if_pos q] at k
    unfold wX2_rest wX2_leaveWork
    rw [r9, v9.1]
    rw [v9.1] at k
    refine k _ ?_ (fun c i q => by unfold tk at q; simp (disch := omega) only [wr_ne]) ⟨fun c q => by simp (disch := omega) only [wr_n], rfl⟩
    unfold rsS Inv2
    simp (disch := omega) only [mg_wc, mg_wm]
    refine i_rest (j := j) h ?_ (show nv s.1 287 j < 20 by omega) rfl
    unfold nv; rw [mg_m (by decide)]; exact hj
theorem m_arrive {x s : ab_X} {j : Nat} (m : keepM s.1 x.1) (w : WW s.1) (w2 : ∀ v, v = nI 1 ∨ v = nI 2 → nv s.1 289 j < nv s.1 246 92 → WW (clS s (nv s.1 289 j) v).1) (hj : j < nv s.1 246 58) (hst : nv s.1 286 j = 1 ∨ nv s.1 286 j = 3) {K : ab_X → Prop} (k : ∀ y, keepM (arvS s j).1 y.1 → keepT x.1 y.1 → rA x y → smC x y → K y) : wX12_arrives (nI j) x K := by
  have b58 := w.b58
  have b92 := w.b92
  have b31 := w.b31
  have b1 := w.b1
  obtain ⟨v0, v1, v2, v3, v3', v4, v5, v6, v7, v8, v9, v10, -⟩ := w.cr.1 j hj
  have u9 := v9.2
  have vj : vp_in (nI j) 16 := (vpi (by omega) (by decide)).mpr trivial
  unfold wX12_arrives
  rw [cl_nI (by omega), m.c286, v8.1, m.c287, m.c289]
  simp only [nI_lit]
  rw [q_eq (by omega) (by omega)]
  unfold arvS at k
  have turn : ∀ (s' : ab_X) (z : ab_X), WW s'.1 → keepM s'.1 z.1 → nv s'.1 246 58 = nv s.1 246 58 → s'.1 287 j = s.1 287 j → keepT x.1 z.1 → rA x z → smC x z → (∀ y, keepM (tnS s' j).1 y.1 → keepT x.1 y.1 → rA x y → smC x y → K y) → wX12_arrives_86 (nI j) (s.1 287 j) z K := by
    intro s' z ws mz n58 e287 ktz fz smz kk
    unfold wX12_arrives_86
    have e : s.1 287 j = nI (nv s'.1 287 j) := by unfold nv; rw [e287]; exact v9.1
    rw [e]
    refine m_turn mz ws (by omega) (fun y my kty smy fy => kk y my (ktz.tr kty) (fz.tr ⟨fun d a b c e => fy d a (by omega), smy.2⟩) (smz.tr smy))
  refine ⟨vj, fun q => ?_, fun q => ?_⟩
  · have h1 : nv s.1 286 j = 1 := by omega
    rw [if_neg q] at k
    obtain ⟨g0, -⟩ := w.cr.2.2.1 j hj
    obtain ⟨g1, g2⟩ := g0 h1
    obtain ⟨a1, a2, a3, a4, a5, a6⟩ := w.ca.1 _ g2
    have vk : vp_in (nI (nv s.1 289 j)) 60 := (vpi (by omega) (by decide)).mpr trivial
    have e58 : (¬ s.1 312 (nv s.1 289 j) = nI 0 ∨ wor s.1 (s.1 287 j) = -nI 1) → wX12_arrives_58 (nI j) (s.1 289 j) (s.1 287 j) x K := by
      intro hd
      unfold wX12_arrives_58 wX12_arrives_83 wX12_close wX12_close_14
      rw [g1.1, cl_nI (by omega), m.c312, m.c318]
      refine ⟨vk, fun q2 => ?_, fun q2 => ⟨vk, ?_⟩⟩
      · have q2 : ¬ s.1 312 (nv s.1 289 j) = nI 0 := q2
        rw [if_neg q2] at k
        exact turn s x w m rfl rfl keepT.rfl' rA.rfl' smC.rfl' k
      · have q2 : s.1 312 (nv s.1 289 j) = nI 0 := q2
        have q3 := hd.resolve_left (fun u => u q2)
        rw [if_pos q2, if_pos q3] at k
        have go : ∀ v, v = nI 1 ∨ v = nI 2 → v = (if s.1 318 (nv s.1 289 j) = nI 0 then nI 2 else nI 1) → wX12_arrives_86 (nI j) (s.1 287 j) (wr (wr x 312 (nv s.1 289 j) v) 314 (nv s.1 289 j) ((wr x 312 (nv s.1 289 j) v).1 246 1)) K := by
          intro v hv ev
          have e1 : (wr x 312 (nv s.1 289 j) v).1 246 1 = nI (nv s.1 246 1) := by rw [wr_n (by decide), m.s1]; exact w.v1
          rw [e1]
          rw [← ev] at k
          have nc : nv (clS s (nv s.1 289 j) v).1 246 58 = nv s.1 246 58 := by unfold nv clS; rw [wr_n (by decide), wr_n (by decide)]
          have ec : (clS s (nv s.1 289 j) v).1 287 j = s.1 287 j := by unfold clS; rw [wr_n (by decide), wr_n (by decide)]
          exact turn (clS s (nv s.1 289 j) v) _ (w2 v hv g2) (keepM_wr (keepM_wr m)) nc ec (fun c i q => by unfold tk at q; rw [wr_ne (by omega), wr_ne (by omega)]) ⟨fun d a b c e => by rw [wr_n e, wr_n c], rfl⟩ ⟨fun d p => by rw [wr_n (by omega), wr_n (by omega)], rfl⟩ k
        refine ⟨fun q4 => y0 ⟨vk, vk, go _ (Or.inl rfl) ?_⟩, fun q4 => y1 ⟨vk, vk, go _ (Or.inr rfl) ?_⟩⟩
        · have q4 : ¬ s.1 318 (nv s.1 289 j) = nI 0 := q4
          rw [if_neg q4]; rfl
        · have q4 : s.1 318 (nv s.1 289 j) = nI 0 := q4
          rw [if_pos q4]; rfl
    refine ⟨vj, vj, ?_⟩
    refine m_worst m.f w.tw ?_
    refine ⟨fun q3 => e58 (Or.inr q3), fun q3 => ?_⟩
    have q3 : ¬ wor s.1 (s.1 287 j) = -nI 1 := q3
    rw [g1.1, cl_nI (by omega), m.c312]
    refine ⟨vk, fun q2 => ?_, fun q2 => ?_⟩
    · have q2 : s.1 312 (nv s.1 289 j) = nI 0 := q2
      rw [if_pos q2, if_neg q3] at k
      refine ⟨vj, vj, vj, vj, ?_⟩
      have e1 : (wr (wr (wr x 286 j (nI 2)) 288 j (-nI 1)) 290 j (wor s.1 (s.1 287 j))).1 246 1 = nI (nv s.1 246 1) := by simp (disch := omega) only [wr_n]; rw [m.s1]; exact w.v1
      rw [e1]
      exact k _ (keepM_wr (keepM_wr (keepM_wr (keepM_wr m)))) (fun c i q => by unfold tk at q; simp (disch := omega) only [wr_ne]) ⟨fun d a b c e => by simp (disch := omega) only [wr_n], rfl⟩ ⟨fun d p => by simp (disch := omega) only [wr_n], rfl⟩
    · have := e58 (Or.inl q2)
      rw [g1.1] at this
      exact this
  · rw [if_pos q] at k
    unfold wX12_rests
    rw [cl_nI (by omega)]
    refine ⟨vj, vj, vj, vj, vj, vj, k _ (keepM_wr (keepM_wr (keepM_wr (keepM_wr (keepM_wr m))))) (fun c i q => by unfold tk at q; simp (disch := omega) only [wr_ne]) ⟨fun d a b c e => by simp (disch := omega) only [wr_n], rfl⟩ ⟨fun d p => by simp (disch := omega) only [wr_n], rfl⟩⟩
def arvN (s : ab_X) : Nat → ab_X
  | 0 => s
  | j + 1 => if (nv (arvN s j).1 286 j = 1 ∨ nv (arvN s j).1 286 j = 3) ∧ ¬ (arvN s j).1 246 1 < (arvN s j).1 288 j then arvS (arvN s j) j else arvN s j
theorem arvS_n (s : ab_X) (j : Nat) : (arvS s j).1 246 = s.1 246 ∧ (arvS s j).2 = s.2 ∧ ∀ d, d ≠ 253 → ¬ (286 ≤ d ∧ d ≤ 293) → d ≠ 312 → d ≠ 314 → (arvS s j).1 d = s.1 d := by
  have t : ∀ s', (tnS s' j).1 246 = s'.1 246 ∧ (tnS s' j).2 = s'.2 ∧ ∀ d, ¬ (286 ≤ d ∧ d ≤ 293) → (tnS s' j).1 d = s'.1 d := by
    intro s'
    unfold tnS rsS
    split
    · exact ⟨by simp (disch := omega) only [wr_n], rfl, fun d b => by simp (disch := omega) only [wr_n]⟩
    · exact ⟨by simp (disch := omega) only [wr_n], rfl, fun d b => by simp (disch := omega) only [wr_n]⟩
  unfold arvS
  split
  · unfold rsS
    exact ⟨by simp (disch := omega) only [wr_n], rfl, fun d a b c e => by simp (disch := omega) only [wr_n]⟩
  · split
    · split
      · obtain ⟨t1, t2, t3⟩ := t (clS s (nv s.1 289 j) (if s.1 318 (nv s.1 289 j) = nI 0 then nI 2 else nI 1))
        refine ⟨t1.trans ?_, t2.trans rfl, fun d a b c e => (t3 d b).trans ?_⟩
        · unfold clS; simp (disch := omega) only [wr_n]
        · unfold clS; simp (disch := omega) only [wr_n]
      · unfold wkS
        exact ⟨by simp (disch := omega) only [wr_n], rfl, fun d a b c e => by simp (disch := omega) only [wr_n]⟩
    · obtain ⟨t1, t2, t3⟩ := t s
      exact ⟨t1, t2, fun d a b c e => t3 d b⟩
theorem arvN_n (s : ab_X) : ∀ j, (arvN s j).1 246 = s.1 246 ∧ (arvN s j).2 = s.2
  | 0 => ⟨rfl, rfl⟩
  | j + 1 => by
    obtain ⟨a, b⟩ := arvN_n s j
    show (if _ then _ else _ : ab_X).1 246 = _ ∧ (if _ then _ else _ : ab_X).2 = _
    split
    · obtain ⟨c, d, -⟩ := arvS_n (arvN s j) j
      exact ⟨c.trans a, d.trans b⟩
    · exact ⟨a, b⟩
