/-! A MINUTE, 23: the people in the rooms, the program's loops. -/
def PQ (s t z : ab_X) (h f : Nat) (y : ab_X) : Prop := cP z y ∧ (∀ i g, i < 12 → g < 6 → y.1 (30 + 3 * i + 2) g = if (i < h ∧ g < nv t.1 256 i) ∨ (i = h ∧ g < f) then nI (nv s.1 272 (6 * i + g) - LL s t i g) else nI (nv s.1 272 (6 * i + g))) ∧ (∀ i, i < 12 → y.1 (30 + 3 * i) 15 = s.1 263 i + nI (if i < h then LLs s t i (nv t.1 256 i) else if i = h then LLs s t h f else 0))
theorem PQ_b {s t z y : ab_X} {h f : Nat} (q : PQ s t z h f y) (b272 : ∀ k, k < 72 → nv s.1 272 k ≤ 20) : ∀ k, k < 72 → ∃ n, n ≤ 20 ∧ y.1 (30 + 3 * (k / 6) + 2) (k % 6) = nI n := by
  intro k hk
  have e := q.2.1 (k / 6) (k % 6) (by omega) (by omega)
  have b := b272 k hk
  rw [show 6 * (k / 6) + k % 6 = k by omega] at e
  rw [e]
  split
  · exact ⟨_, by omega, rfl⟩
  · exact ⟨_, b, rfl⟩
theorem c_peH {s t z y : ab_X} {h : Nat} (tr : TR 11 z.1 t.1) (w : TW t.1) (b272 : ∀ k, k < 72 → nv s.1 272 k ≤ 20) (fz : ∀ k, k < 72 → ¬ s.1 274 k = nI 0 → nv s.1 272 k = 0) (hh : h < nv t.1 246 31) (p0 : PQ s t z h 0 y) {K : ab_X → Prop} (k : ∀ y, PQ s t z h (nv t.1 256 h) y → K y) : wX10_loseIn (30 + 3 * h) y K := by
  have b := w.b
  obtain ⟨v1, v2, v3, v3', v4, v4', -⟩ := w.2.1.1 h hh
  have l3 := v3.2
  have l4 := v4.2
  unfold wX10_loseIn
  refine Lp2.ind (fun ii a y => ∃ f, f ≤ nv t.1 256 h ∧ ii = nv t.1 256 h - f ∧ a = nI f ∧ PQ s t z h f y) (nv t.1 256 h) ⟨0, Nat.zero_le _, rfl, rfl, p0⟩ ?_
  rintro ii a y ⟨f, hf, hii, rfl, py⟩ L hL
  have tp := TR_p tr b py.1
  have wp := TW_p w (PQ_b py b272)
  have py' := py
  obtain ⟨cp, y2, y15⟩ := py'
  have c3 : y.1 (30 + 3 * h) 3 = nI (nv t.1 256 h) := by rw [cp.2.1 h 3 (by omega) (by decide), (tr.2.1.2.2.1 h hh).2.2.1]; exact v3.1
  unfold lX10_loseIn_2 wX10_loseIn_53 wX4_takeLost
  have ej : nI f + 1 = nI (f + 1) := nI_add f 1
  rw [c3, q_le (by omega) (by omega), ej]
  refine ⟨fun q => ?_, fun q => ?_⟩
  · have : f = nv t.1 256 h := by omega
    subst this
    exact k y py
  have f6 : f < 6 := by omega
  have hf' : f < nv t.1 256 h := by omega
  have vf : vp_in (nI f) 6 := (vpi f6 (by decide)).mpr trivial
  have bp := b272 (6 * h + f) (by omega)
  have ep : y.1 (30 + 3 * h + 2) f = nI (nv s.1 272 (6 * h + f)) := by rw [y2 h f (by omega) f6, if_neg (by omega)]
  have e15 : y.1 (30 + 3 * h) 15 = s.1 263 h + nI (LLs s t h f) := by rw [y15 h (by omega), if_neg (by omega), if_pos rfl]
  have st : LLs s t h (f + 1) = LLs s t h f + LL s t h f := rfl
  have lle := LL_le (s := s) (t := t) (h := h) (f := f)
  have done : ∀ lv, lv = LL s t h f → L (nI (f + 1)) (wr (wr y (30 + 3 * h + 2) f (nI (nv s.1 272 (6 * h + f)) - nI lv)) (30 + 3 * h) 15 (s.1 263 h + nI (LLs s t h f) + nI lv)) := by
    intro lv el
    subst el
    rw [pk_sub lle, Int32.add_assoc, nI_add, ← st]
    refine hL _ _ _ (by omega) ⟨f + 1, by omega, rfl, rfl, ⟨fun c p => ?_, fun i g p p' => ?_, fun i p => ?_, cp.2.2.2⟩, fun i g p p' => ?_, fun i p => ?_⟩
    · rw [wr_n (by omega), wr_n (by omega)]; exact cp.1 c p
    · rw [wr_ne (by omega), wr_ne (by omega)]; exact cp.2.1 i g p p'
    · rw [wr_n (by omega), wr_n (by omega)]; exact cp.2.2.1 i p
    · rw [wr_ne (by omega)]
      by_cases e : i = h ∧ g = f
      · obtain ⟨rfl, rfl⟩ := e
        rw [wr_e, if_pos (by omega)]
      · rw [wr_ne (by omega), y2 i g p p']
        by_cases u : (i < h ∧ g < nv t.1 256 i) ∨ (i = h ∧ g < f)
        · rw [if_pos u, if_pos (by omega)]
        · rw [if_neg u, if_neg (by omega)]
    · by_cases e : i = h
      · subst e; rw [wr_e, if_neg (by omega), if_pos rfl]
      · rw [wr_ne (by omega), wr_ne (by omega), y15 i p]
        by_cases u : i < h
        · rw [if_pos u, if_pos u]
        · rw [if_neg u, if_neg u, if_neg e, if_neg e]
  rw [cl_nI (by omega), ep]
  have e0 : (nI (nv s.1 272 (6 * h + f)) ≤ 0) ↔ nv s.1 272 (6 * h + f) ≤ 0 := q_le (by omega) (by decide)
  rw [e0]
  have n31 : nv (Yp t y).1 246 31 = nv t.1 246 31 := Yp_nv (by decide) (by decide)
  have n256 : nv (Yp t y).1 256 h = nv t.1 256 h := Yp_nv (by decide) (by decide)
  have n257 : nv (Yp t y).1 257 h = nv t.1 257 h := Yp_nv (by decide) (by decide)
  have ddl : dd t.1 h f (nv t.1 257 h) ≤ 4 := Nat.le_trans (cn_le _ _) l4
  have w15 : ∀ v, (wr y (30 + 3 * h + 2) f v).1 (30 + 3 * h) 15 = s.1 263 h + nI (LLs s t h f) := fun v => by rw [wr_ne (by omega)]; exact e15
  refine ⟨vf, fun q1 => ?_, fun q1 => ?_⟩
  · have l0 : LL s t h f = 0 := by omega
    refine hL _ _ _ (by omega) ⟨f + 1, by omega, rfl, rfl, cp, fun i g p p' => ?_, fun i p => ?_⟩
    · rw [y2 i g p p']
      by_cases u : (i < h ∧ g < nv t.1 256 i) ∨ (i = h ∧ g < f)
      · rw [if_pos u, if_pos (by omega)]
      · rw [if_neg u]
        by_cases e : i = h ∧ g = f
        · obtain ⟨rfl, rfl⟩ := e
          rw [if_pos (by omega), l0, Nat.sub_zero]
        · rw [if_neg (by omega)]
    · rw [y15 i p]
      by_cases e : i = h
      · subst e; rw [if_neg (by omega), if_pos rfl, if_neg (by omega), if_pos rfl, st, l0]; rfl
      · rw [if_neg e, if_neg e]
  refine c_fallen tp wp (by omega) f6 ?_
  rw [Yp_o (by decide) (by decide)]
  refine ⟨fun q2 => ?_, fun q2 => ⟨vf, vf, vf, vf, ?_⟩⟩
  · have q2 : t.1 274 (6 * h + f) = nI 0 := q2
    refine c_deadly tp wp (by rw [n31]; exact hh) (by rw [n256]; exact hf') ?_
    rw [n257, dd_c (Y := t.1) (Yp_o (by decide) (by decide)) (Yp_o (by decide) (by decide)) (Yp_o (by decide) (by decide)), imin_I (by omega) (by omega), w15]
    exact ⟨vf, vf, vf, done _ (by unfold LL; rw [if_neg (fun u => u.2 q2)])⟩
  · have q2 : ¬ t.1 274 (6 * h + f) = nI 0 := q2
    have s0 : s.1 274 (6 * h + f) = nI 0 := by
      by_cases u : s.1 274 (6 * h + f) = nI 0
      · exact u
      · have := fz (6 * h + f) (by omega) u; omega
    rw [imin_I (by omega) (by omega), Nat.min_self, w15]
    exact done _ (by unfold LL; rw [if_pos ⟨s0, q2⟩])
theorem c_people {z t s : ab_X} (tr : TR 11 z.1 t.1) (w : TW t.1) (e272 : t.1 272 = s.1 272) (e263 : t.1 263 = s.1 263) (fz : ∀ k, k < 72 → ¬ s.1 274 k = nI 0 → s.1 272 k = nI 0) {K : ab_X → Prop} (k : ∀ y, PQ s t z (nv t.1 246 31) 0 y → K y) : Lp2 (lX10_passMinute_17 K) 0 z := by
  have b := w.b
  have b272 : ∀ k, k < 72 → nv s.1 272 k ≤ 20 := fun k hk => by have := (w.2.1.2.2 k hk).1.2; unfold nv at this ⊢; rw [e272] at this; exact this
  have v272 : ∀ k, k < 72 → s.1 272 k = nI (nv s.1 272 k) := fun k hk => by have := (w.2.1.2.2 k hk).1.1; unfold nv at this ⊢; rw [e272] at this; exact this
  refine Lp2.ind (fun ii a y => ∃ h, h ≤ nv t.1 246 31 ∧ ii = nv t.1 246 31 - h ∧ a = nI h ∧ PQ s t z h 0 y) (nv t.1 246 31) ⟨0, Nat.zero_le _, rfl, rfl, ⟨fun _ _ => rfl, fun _ _ _ _ => rfl, fun _ _ => rfl, rfl⟩, fun i g p p' => ?_, fun i p => ?_⟩ ?_
  · rw [if_neg (by omega), (tr.2.1.2.1 i g p p').2, e272]; exact v272 _ (by omega)
  · have := (tr.2.1.1 i p).2.2.2.2.2.1
    rw [this, e263, if_neg (by omega)]
    have : (if i = 0 then LLs s t 0 0 else 0) = 0 := by split <;> rfl
    rw [this]; exact (Int32.add_zero _).symm
  rintro ii a y ⟨h, hh, hii, rfl, py⟩ L hL
  unfold lX10_passMinute_17
  have ej : nI h + 1 = nI (h + 1) := nI_add h 1
  have c2 : y.1 9 2 = nI (nv t.1 246 31) := by rw [py.1.1 9 (by decide), tr.1]; exact w.1.1
  rw [c2, q_le (by omega) (by omega), ej, cl_nI (by omega)]
  refine ⟨fun q => ?_, fun q => ⟨(vpi (by omega) (by decide)).mpr trivial, ?_⟩⟩
  · have : h = nv t.1 246 31 := by omega
    subst this
    exact k y py
  refine c_peH tr w b272 (fun k hk u => nv_of (fz k hk u) (by decide)) (by omega) py (fun a pa => hL _ _ _ (by omega) ⟨h + 1, by omega, rfl, rfl, pa.1, fun i g p p' => ?_, fun i p => ?_⟩)
  · rw [pa.2.1 i g p p']
    by_cases u : (i < h ∧ g < nv t.1 256 i) ∨ (i = h ∧ g < nv t.1 256 h)
    · rw [if_pos u, if_pos]
      rcases u with u | ⟨rfl, u⟩
      · left; exact ⟨by omega, u.2⟩
      · left; exact ⟨by omega, u⟩
    · rw [if_neg u, if_neg]
      rintro (u' | u')
      · by_cases e : i = h
        · subst e; exact u (Or.inr ⟨rfl, u'.2⟩)
        · exact u (Or.inl ⟨by omega, u'.2⟩)
      · omega
  · rw [pa.2.2 i p]
    by_cases e : i < h
    · rw [if_pos e, if_pos (by omega)]
    · rw [if_neg e]
      by_cases e' : i = h
      · subst e'; rw [if_pos rfl, if_pos (by omega)]
      · rw [if_neg e', if_neg (by omega)]
        have : (if i = h + 1 then LLs s t (h + 1) 0 else 0) = 0 := by split <;> rfl
        rw [this]
