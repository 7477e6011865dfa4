/-! CALLS: crews are sent. -/
theorem cmr_cg {Y Y' : Nat → Nat → Int32} (h : ∀ d, 247 ≤ d → d ≤ 252 → Y' d = Y d) (h9 : Y' 246 9 = Y 246 9) : cmr Y' = cmr Y := by
  have e1 : ∀ v m p row s B, spS Y' v m p row s B = spS Y v m p row s B := by
    intro v m p row s B
    unfold spS cst nv
    rw [h 252 (by decide) (by decide), h 248 (by decide) (by decide), h 247 (by decide) (by decide), h 249 (by decide) (by decide), h 250 (by decide) (by decide)]
  have e2 : ∀ v m p row n B, spr Y' v m p row n B = spr Y v m p row n B := by
    intro v m p row n B
    induction n with
    | zero => rfl
    | succ n ih =>
      show spS Y' v m p row n (spr Y' v m p row n B) = spS Y v m p row n (spr Y v m p row n B)
      rw [ih, e1]
  have e9 : nv Y' 246 9 = nv Y 246 9 := by unfold nv; rw [h9]
  have e3 : ∀ v mi fr m, Am Y' v mi fr m = Am Y v mi fr m := by
    intro v mi fr m
    induction m with
    | zero => rfl
    | succ m ih =>
      show spr Y' v m (pN (mi + m)) (Am Y' v mi fr m m) (nv Y' 246 9) (Am Y' v mi fr m) = spr Y v m (pN (mi + m)) (Am Y v mi fr m m) (nv Y 246 9) (Am Y v mi fr m)
      rw [ih, e2, e9]
  funext fr to mi v
  unfold cmr
  have : (fun m => Am Y' v mi fr m m to) = (fun m => Am Y v mi fr m m to) := by funext m; rw [e3]
  rw [this]
theorem arT_cg {Y Y' : Nat → Nat → Int32} {i c : Nat} (h : ∀ d, 247 ≤ d → d ≤ 252 → Y' d = Y d) (h9 : Y' 246 9 = Y 246 9) (h1 : Y' 246 1 = Y 246 1) (e1 : Y' 287 i = Y 287 i) (e2 : Y' 298 i = Y 298 i) (e3 : Y' 281 i = Y 281 i) (e4 : Y' 292 i = Y 292 i) : arT Y' i c = arT Y i c := by
  unfold arT
  rw [cmr_cg h h9]
  unfold slN nv
  rw [h1, e1, e2, e3, e4]
theorem arG_cg {Y Y' : Nat → Nat → Int32} {a : Int32} {i c : Nat} (ha : ¬ a = -nI 1) (h : ∀ d, 247 ≤ d → d ≤ 252 → Y' d = Y d) (h9 : Y' 246 9 = Y 246 9) (h1 : Y' 246 1 = Y 246 1) (e0 : Y' 286 i = Y 286 i) (e1 : Y' 287 i = Y 287 i) (e2 : Y' 298 i = Y 298 i) (e3 : Y' 281 i = Y 281 i) (e4 : Y' 292 i = Y 292 i) (e5 : Y' 279 i = Y 279 i) : arG Y' a c i = arG Y a c i := by
  unfold arG fitB
  rw [arT_cg h h9 h1 e1 e2 e3 e4, e0, e5, if_neg ha, if_neg ha]
theorem arG_d (Y : Nat → Nat → Int32) (a : Int32) (c j : Nat) : arG Y a c j = -nI 1 ∨ ∃ t, t ≤ nv Y 246 1 + 600 ∧ arG Y a c j = nI t ∧ Y 286 j = nI 0 := by
  unfold arG
  by_cases q : Y 286 j = nI 0 ∧ fitB Y a j = true
  · rw [if_pos q]
    rcases cmr_d (Y := Y) (nv Y 287 j) c (nv Y 246 1) (slN Y j) with e | ⟨t, ht, e⟩
    · exact Or.inl e
    · exact Or.inr ⟨_, by omega, e, q.1⟩
  · rw [if_neg q]; exact Or.inl rfl
def sdJ (s : ab_X) (k : Nat) (a : Int32) : Int32 := mnF (arG s.1 a (nv s.1 310 k)) (nv s.1 246 58)
def sdS (s : ab_X) (k : Nat) (a : Int32) : ab_X := if sdJ s k a = -nI 1 then wr s 316 k (s.1 316 k + nI 1) else wr (wr (wr (wr (wr s 286 (sdJ s k a).toNatClampNeg (nI 1)) 287 (sdJ s k a).toNatClampNeg (nI (nv s.1 310 k))) 288 (sdJ s k a).toNatClampNeg (arG s.1 a (nv s.1 310 k) (sdJ s k a).toNatClampNeg)) 289 (sdJ s k a).toNatClampNeg (nI k)) 315 k (s.1 315 k + nI 1)
/-- what a sending leaves -/
theorem sdS_o (s : ab_X) (k : Nat) (a : Int32) : (∀ d, ¬ (286 ≤ d ∧ d ≤ 289) → d ≠ 315 → d ≠ 316 → (sdS s k a).1 d = s.1 d) ∧ (sdS s k a).2 = s.2 := by
  unfold sdS
  split
  · exact ⟨fun d p q r => by rw [wr_n r], rfl⟩
  · exact ⟨fun d p q r => by simp (disch := omega) only [wr_n], rfl⟩
theorem sd_I {x s : ab_X} {k : Nat} {a : Int32} (h : Inv2 x s) (hk : k < nv s.1 246 92) : (sdJ s k a = -nI 1 → Inv2 (wr x (98 + k) 6 (s.1 316 k + nI 1)) (sdS s k a)) ∧ ∀ j, j < nv s.1 246 58 → sdJ s k a = nI j → ¬ arG s.1 a (nv s.1 310 k) j = -nI 1 → Inv2 (wr (wr (wr (wr (wr (wr (wr x (82 + j) 12 (-nI 1)) (82 + j) 13 (-nI 1)) (82 + j) 8 (nI 1)) (82 + j) 9 (nI (nv s.1 310 k))) (82 + j) 10 (arG s.1 a (nv s.1 310 k) j)) (82 + j) 11 (nI k)) (98 + k) 5 (s.1 315 k + nI 1)) (sdS s k a) := by
  have w := h.w
  have b58 := w.b58
  have b92 := w.b92
  have e58 : nv (mg x s).1 246 58 = nv s.1 246 58 := by unfold nv; rw [mg_m (by decide)]
  have e92 : nv (mg x s).1 246 92 = nv s.1 246 92 := by unfold nv; rw [mg_m (by decide)]
  refine ⟨fun e => ?_, fun j hj e ne => ?_⟩
  · unfold sdS
    rw [if_pos e]
    unfold Inv2
    rw [mg_wm (by decide), mg_wc (by omega)]
    exact i_cnt (f := 6) h (by omega) (by decide) rfl
  · rcases arG_d s.1 a (nv s.1 310 k) j with u | ⟨t, ht, et, e0⟩
    · exact absurd u ne
    have n0 : nv s.1 286 j = 0 := nv_of e0 (by decide)
    have c20 := (w.ca.1 k hk).1.2
    unfold sdS
    rw [e, if_neg (by rw [n1_eq' (by omega)]; exact id), cl_nI (by omega), et]
    have g : Inv2 (wr (wr (wr (wr (wr (wr x (82 + j) 12 (-nI 1)) (82 + j) 13 (-nI 1)) (82 + j) 8 (nI 1)) (82 + j) 9 (nI (nv s.1 310 k))) (82 + j) 10 (nI t)) (82 + j) 11 (nI k)) (wr (wr (wr (wr s 286 j (nI 1)) 287 j (nI (nv s.1 310 k))) 288 j (nI t)) 289 j (nI k)) := by
      unfold Inv2
      simp (disch := omega) only [mg_wc, mg_wm]
      refine i_goes (j := j) (k := k) h (by omega) (show nv s.1 310 k < 20 by omega) (by omega) ?_ rfl
      unfold nv; rw [mg_m (by decide)]; exact n0
    have e92' : nv (mg (wr (wr (wr (wr (wr (wr x (82 + j) 12 (-nI 1)) (82 + j) 13 (-nI 1)) (82 + j) 8 (nI 1)) (82 + j) 9 (nI (nv s.1 310 k))) (82 + j) 10 (nI t)) (82 + j) 11 (nI k)) (wr (wr (wr (wr s 286 j (nI 1)) 287 j (nI (nv s.1 310 k))) 288 j (nI t)) 289 j (nI k))).1 246 92 = nv s.1 246 92 := by unfold nv; rw [mg_m (by decide)]; simp (disch := omega) only [wr_ne]
    show InvA (mg (wr _ (98 + k) 5 (s.1 315 k + nI 1)) (wr _ 315 k (s.1 315 k + nI 1)))
    rw [mg_wm (by decide), mg_wc (by omega)]
    exact i_cnt (f := 5) g (by omega) (by decide) rfl
theorem sd_ar {s : ab_X} {k : Nat} {a : Int32} (ha : ¬ a = -nI 1) (hn : nv s.1 246 58 ≤ 16) : (sdJ s k a = -nI 1 → ∀ c i, arG (sdS s k a).1 a c i = arG s.1 a c i) ∧ ∀ j, j < nv s.1 246 58 → sdJ s k a = nI j → ∀ c i, arG (sdS s k a).1 a c i = if i = j then -nI 1 else arG s.1 a c i := by
  refine ⟨fun e c i => ?_, fun j hj e c i => ?_⟩
  · unfold sdS
    rw [if_pos e]
    exact arG_cg ha (fun d p q => by rw [wr_n (by omega)]) (by rw [wr_n (by decide)]) (by rw [wr_n (by decide)]) (by rw [wr_n (by decide)]) (by rw [wr_n (by decide)]) (by rw [wr_n (by decide)]) (by rw [wr_n (by decide)]) (by rw [wr_n (by decide)]) (by rw [wr_n (by decide)])
  · unfold sdS
    rw [e, if_neg (by rw [n1_eq' (by omega)]; exact id), cl_nI (by omega)]
    by_cases q : i = j
    · rw [if_pos q, q]
      have : ∀ Y : Nat → Nat → Int32, Y 286 j = nI 1 → arG Y a c j = -nI 1 := by
        intro Y u
        unfold arG
        rw [u, if_neg (fun g => absurd g.1 (by decide))]
      exact this _ (by simp (disch := omega) only [wr_ne, wr_e])
    · rw [if_neg q]
      exact arG_cg ha (fun d p q => by simp (disch := omega) only [wr_n]) (by simp (disch := omega) only [wr_ne]) (by simp (disch := omega) only [wr_ne]) (by simp (disch := omega) only [wr_ne]) (by simp (disch := omega) only [wr_ne]) (by simp (disch := omega) only [wr_ne]) (by simp (disch := omega) only [wr_ne]) (by simp (disch := omega) only [wr_ne]) (by simp (disch := omega) only [wr_ne])
theorem sd_n (s : ab_X) (k : Nat) (a : Int32) : nv (sdS s k a).1 246 58 = nv s.1 246 58 ∧ nv (sdS s k a).1 246 92 = nv s.1 246 92 ∧ ∀ i, nv (sdS s k a).1 310 i = nv s.1 310 i := by
  have o := (sdS_o s k a).1
  refine ⟨?_, ?_, fun i => ?_⟩ <;> unfold nv
  · rw [o 246 (by decide) (by decide) (by decide)]
  · rw [o 246 (by decide) (by decide) (by decide)]
  · rw [o 310 (by decide) (by decide) (by decide)]
theorem c_send1 {x s : ab_X} {k : Nat} {a : Int32} (h : Inv2 x s) (hk : k < nv s.1 246 92) (ha : ¬ a = -nI 1) (h80 : ∀ i, i < nv s.1 246 58 → x.1 80 i = arG s.1 a (nv s.1 310 k) i) {K : ab_X → Prop} (kk : ∀ y, Inv2 y (sdS s k a) → (∀ i, i < nv s.1 246 58 → y.1 80 i = arG (sdS s k a).1 a (nv s.1 310 k) i) → keepT x.1 y.1 → smM x y → y.1 72 = x.1 72 → K y) : wX0_soonest x (fun r4 => ((¬ r4 = (-1) → (vp_in r4 16 ∧ vp_in r4 16 ∧ wX2_set (82 + Int32.toNatClampNeg r4) 1 (x.1 (98 + k) 0) (x.1 80 (Int32.toNatClampNeg r4)) x (fun x7 => (vp_in r4 16 ∧ vp_in r4 16 ∧ K (wr (wr (wr x7 (82 + Int32.toNatClampNeg r4) 11 (nI k)) 80 (Int32.toNatClampNeg r4) (-1)) (98 + k) 5 (((wr (wr x7 (82 + Int32.toNatClampNeg r4) 11 (nI k)) 80 (Int32.toNatClampNeg r4) (-1)).1 (98 + k) 5) + 1)))))) ∧ (r4 = (-1) → K (wr x (98 + k) 6 ((x.1 (98 + k) 6) + 1))))) := by
  have w := h.w
  have b58 := w.b58
  have b92 := w.b92
  obtain ⟨c0, c1, c2, c3, c4, c5, c6, c7, c8⟩ := h.r.ca.1 k hk
  have v310 := (w.ca.1 k hk).1.1
  obtain ⟨i1, i2⟩ := sd_I (a := a) h hk
  obtain ⟨q1, q2⟩ := sd_ar (s := s) (k := k) ha b58
  refine c_soon b58 (by rw [h.r.s58, w.v58]) h80 ?_
  have eJ : mnF (arG s.1 a (nv s.1 310 k)) (nv s.1 246 58) = sdJ s k a := rfl
  rcases mnF_d (arG s.1 a (nv s.1 310 k)) (nv s.1 246 58) with e | ⟨j, hj, e, ne⟩
  · rw [eJ] at e
    rw [eJ, e]
    refine ⟨fun u => absurd rfl u, fun _ => ?_⟩
    have e6 : x.1 (98 + k) 6 + 1 = s.1 316 k + nI 1 := by rw [c6]; rfl
    rw [e6]
    refine kk _ (i1 e) (fun i hi => ?_) (fun c k q => by unfold tk at q; simp (disch := omega) only [wr_ne]) (smM.wr (by omega)) (by rw [wr_n (by omega)])
    rw [wr_n (by omega), q1 e]; exact h80 i hi
  · rw [eJ] at e
    rw [eJ, e]
    have vj : vp_in (nI j) 16 := (vpi (by omega) (by decide)).mpr trivial
    refine ⟨fun _ => ⟨vj, vj, ?_⟩, fun u => absurd u (by simp only [nI_lit]; rw [n1_eq' (by omega)]; exact id)⟩
    unfold wX2_set wX2_leaveWork
    rw [cl_nI (by omega)]
    refine ⟨vj, vj, ?_⟩
    rw [c0, v310, h80 j hj]
    have e5 : (wr (wr (wr (wr (wr (wr (wr x (82 + j) 12 (-1)) (82 + j) 13 (-1)) (82 + j) 8 1) (82 + j) 9 (nI (nv s.1 310 k))) (82 + j) 10 (arG s.1 a (nv s.1 310 k) j)) (82 + j) 11 (nI k)) 80 j (-1)).1 (98 + k) 5 + 1 = s.1 315 k + nI 1 := by
      simp (disch := omega) only [wr_ne]
      rw [c5]; rfl
    rw [e5]
    have g := i2 j hj e ne
    refine kk _ (g.kc ⟨fun c q => ?_, ?_, fun c f p q => ?_⟩) (fun i hi => ?_) (fun c k q => by unfold tk at q; simp (disch := omega) only [wr_ne]) ⟨fun c q => by simp (disch := omega) only [wr_n], rfl⟩ (by simp (disch := omega) only [wr_n])
    · by_cases e8 : c = 98 + k
      · funext f
        by_cases e9 : f = 5
        · rw [e8, e9, wr_e, wr_e]
        · rw [e8, wr_k e9, wr_k e9, wr_n (by omega)]; rfl
      · have : c ≠ 80 := by unfold kC at q; omega
        rw [wr_n e8, wr_n e8, wr_n this]; rfl
    · simp (disch := omega) only [wr_ne]
    · rw [wr_n (show 82 + c ≠ 98 + k by omega), wr_n (show 82 + c ≠ 80 by omega), wr_n (show 82 + c ≠ 98 + k by omega)]; rfl
    · rw [q2 j hj e, wr_n (by omega)]
      by_cases ej : i = j
      · rw [if_pos ej, ej, wr_e]; rfl
      · rw [if_neg ej, wr_k ej]
        simp (disch := omega) only [wr_ne]
        exact h80 i hi
