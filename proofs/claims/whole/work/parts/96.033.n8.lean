/-! TEXTS, 17: the call act. -/
def exP (o c k : Nat) : Prop := (c = 174 + 5 * o ∧ k = 1) ∨ c = 174 + 5 * o + 1 ∨ (c = 158 ∧ (k = 1 ∨ k = 2)) ∨ (c = 160 ∧ k = 1) ∨ c = 161 ∨ (c = 165 ∧ k = 4) ∨ ((c = 167 ∨ c = 168 ∨ c = 304 ∨ c = 305 ∨ c = 306) ∧ k = o) ∨ (c = 246 ∧ (k = 0 ∨ k = 70 ∨ k = 72 ∨ k = 74 ∨ k = 75 ∨ (78 ≤ k ∧ k ≤ 82))) ∨ c = 308 ∨ c = 309 ∨ (c = 301 ∧ 200 * o ≤ k)
theorem c_addAct {o : Nat} (ho : o < 12) {a b : Int32} {x : ab_X} (h : x.1 165 4 = nI o) {K : Int32 → ab_X → Prop} (k : K (nI o) (wr (wr (wr x 167 o a) 168 o b) 165 4 (nI (o + 1)))) : wX5_addAct a b x K := by
  unfold wX5_addAct
  rw [h]
  have c1 : (wr x 167 (Int32.toNatClampNeg (nI o)) a).1 165 4 = nI o := by rw [wr_n (by decide)]; exact h
  rw [c1]
  have c2 : (wr (wr x 167 (Int32.toNatClampNeg (nI o)) a) 168 (Int32.toNatClampNeg (nI o)) b).1 165 4 = nI o := by rw [wr_n (by decide)]; exact c1
  rw [c2, wr_e]
  simp only [nI_lit]
  rw [nI_add, pk_sub (by omega), cl_nI (by omega), Nat.add_sub_cancel]
  have vi : vp_in (nI o) 12 := (vpi ho (by decide)).mpr trivial
  exact ⟨vi, vi, k⟩
theorem p_act {x : ab_X} {a : Int32} (h : InvA x) (ht : InvT x.1) {K : ab_X → Prop} (hk : ∀ z, InvA z → InvT z.1 → K z) : wX11_act a x (fun r y => wX12_act a y (fun r' z => r = r' ∧ K z)) := by
  have t := tape_TX h (s := 2) (by omega)
  have ob := h.2.b71
  have b70 := h.2.b70
  have b72 := h.2.b72
  have b1 := h.2.b1
  have fin : ∀ z w, pfA x z → rgA (wr z 246 0 0) w → K w := fun z w f g => hk w (rd_keep h f g).1 (InvT_keep ht b72 (rd_keep h f g).2)
  have hl : ∀ z, pfA x z → z.1 246 70 = nI (nv x.1 246 70) := fun z f => by rw [f.1 246 70 (by omega) (by omega) (by omega)]; exact h.2.v70
  have hb : ∀ z, pfA x z → ∀ i, i < nv x.1 246 70 → z.1 299 i = s8 (nv x.1 159 i) := fun z f i hi => by rw [f.1 299 i (by omega) (by omega) (by omega)]; exact tape_Y h i hi
  unfold wX11_act
  simp only [nI_lit]
  rw [f_within]
  rcases jr_d a (lo := 1) (hi := 200) (by omega) (by omega) with e | ⟨v, hv1, hv2, rfl⟩
  · rw [e]
    refine y0 ?_
    unfold wX12_act
    refine m_faultS t (hl x pfA.rfl') (hb x pfA.rfl') (fun q hq ql w g => ?_) (fun q c hq w g => ?_)
    · exact ⟨fun _ => ⟨rfl, fin x w pfA.rfl' g⟩, fun u => absurd u (by simp only [nI_lit]; rw [n1_eq' (by omega)]; exact id)⟩
    · refine ⟨fun u => absurd rfl u, fun _ => ⟨fun _ => ⟨rfl, fin x w pfA.rfl' g⟩, fun _ => ?_⟩⟩
      simp only [nI_lit]
      rw [f_isIn, e]
      exact x0 ⟨trivial, fin x w pfA.rfl' g⟩
  rw [jr_I hv1 hv2 (by decide), h.1.s72, h.2.v72, q_le (by omega) (by omega)]
  refine y1 ⟨fun full => ?_, fun nf => ?_⟩
  · unfold wX12_act
    refine m_faultS t (hl x pfA.rfl') (hb x pfA.rfl') (fun q hq ql w g => ?_) (fun q c hq w g => ?_)
    · exact ⟨fun _ => ⟨rfl, fin x w pfA.rfl' g⟩, fun u => absurd u (by simp only [nI_lit]; rw [n1_eq' (by omega)]; exact id)⟩
    · refine ⟨fun u => absurd rfl u, fun _ => ⟨fun _ => ⟨rfl, fin x w pfA.rfl' g⟩, fun u => absurd ?_ u⟩⟩
      rw [rg_fr g 246 72 (by omega) (by decide) (by decide), h.2.v72, show nv x.1 246 72 = 12 by omega]; rfl
  · refine c_parse t (by rw [h.1.s70]; exact h.2.v70) (tape_X h) (fun q hq z f az => x0 ?_) (fun q c hq z f e1 e2 e3 => x1 ?_)
    · unfold wX12_act
      refine m_faultS t (hl z f) (hb z f) (fun q' hq' ql w g => ?_) (fun q' c hq' w g => ?_)
      · exact ⟨fun _ => ⟨rfl, fin z w f g⟩, fun u => absurd u (by simp only [nI_lit]; rw [n1_eq' (by omega)]; exact id)⟩
      · rw [hq] at hq'
        injection hq' with u1 u2
        cases u2
    · generalize ho : nv x.1 246 72 = o at nf b72
      refine c_addAct (o := o) (by omega) (by rw [f.1 _ _ (by omega) (by omega) (by omega), h.1.s72, h.2.v72, ho]) ⟨(vpi (by omega) (by decide)).mpr trivial, ?_⟩
      rw [cl_nI (by omega)]
      have fz : ∀ c k, ¬ exP o c k → (wr (wr (wr z 167 o (nI v)) 168 o (z.1 66 12)) 165 4 (nI (o + 1))).1 c k = x.1 c k := by
        intro c k a
        unfold exP at a
        rw [wr_ne (by omega), wr_ne (by omega), wr_ne (by omega), f.1 c k (by omega) (by omega) (by omega)]
      have s160 : (wr (wr (wr z 167 o (nI v)) 168 o (z.1 66 12)) 165 4 (nI (o + 1))).1 160 1 = nI c.length := by simp (disch := omega) only [wr_ne]; exact e1
      have s161 : stC ((wr (wr (wr z 167 o (nI v)) 168 o (z.1 66 12)) 165 4 (nI (o + 1))).1 161) c := by rw [wr_n (by decide), wr_n (by decide), wr_n (by decide)]; exact e2
      have s70 : (wr (wr (wr z 167 o (nI v)) 168 o (z.1 66 12)) 165 4 (nI (o + 1))).1 246 70 = nI (nv x.1 246 70) := by simp (disch := omega) only [wr_ne]; exact hl z f
      have s72 : (wr (wr (wr z 167 o (nI v)) 168 o (z.1 66 12)) 165 4 (nI (o + 1))).1 246 72 = nI o := by simp (disch := omega) only [wr_ne]; rw [f.1 _ _ (by omega) (by omega) (by omega), h.2.v72, ho]
      have s165 : (wr (wr (wr z 167 o (nI v)) 168 o (z.1 66 12)) 165 4 (nI (o + 1))).1 165 4 = nI (o + 1) := wr_e
      have s167 : (wr (wr (wr z 167 o (nI v)) 168 o (z.1 66 12)) 165 4 (nI (o + 1))).1 167 o = nI v := by rw [wr_n (by decide), wr_n (by decide), wr_e]
      have s168 : (wr (wr (wr z 167 o (nI v)) 168 o (z.1 66 12)) 165 4 (nI (o + 1))).1 168 o = x.1 66 12 := by rw [wr_n (by decide), wr_e, f.1 _ _ (by omega) (by omega) (by omega)]
      have sd : (wr (wr (wr z 167 o (nI v)) 168 o (z.1 66 12)) 165 4 (nI (o + 1))).2.1 = x.2.1 := f.2.1
      generalize wr (wr (wr z 167 o (nI v)) 168 o (z.1 66 12)) 165 4 (nI (o + 1)) = u at fz s160 s161 s70 s72 s165 s167 s168 sd
      refine c_hand s160 s161 (by omega) (by omega) (fun g0 g1 g2 g3 g4 g5 => ?_)
      have gf : ∀ c k, ¬ exP o c k → g0.1 c k = x.1 c k := by
        intro c k a
        have a' := a
        unfold exP at a'
        rw [g1 c k (by omega) (by omega) (by omega), fz c k a]
      unfold wX12_act
      refine m_faultS t (by rw [g1 _ _ (by omega) (by omega) (by omega)]; exact s70) (fun i hi => by rw [gf _ _ (by unfold exP; omega)]; exact tape_Y h i hi) (fun q' hq' ql w g => ?_) (fun q' c' hq' w g => ?_)
      · rw [hq] at hq'
        injection hq' with u1 u2
        cases u2
      have w70 : w.1 246 70 = nI (nv x.1 246 70) := by
        rw [rg_fr g _ _ (by omega) (by omega) (by omega), g1 _ _ (by omega) (by omega) (by omega)]; exact s70
      have w72 : w.1 246 72 = nI o := by
        rw [rg_fr g _ _ (by omega) (by omega) (by omega), g1 _ _ (by omega) (by omega) (by omega)]; exact s72
      have n12 : ¬ w.1 246 72 = 12 := by rw [w72]; simp only [nI_lit]; rw [q_eq (by omega) (by omega)]; omega
      refine ⟨fun u => absurd rfl u, fun _ => ⟨fun u => absurd u n12, fun _ => ?_⟩⟩
      simp only [nI_lit]
      rw [f_isIn, jr_I hv1 hv2 (by decide)]
      refine x1 ?_
      refine m_cpA (by omega) b70 (fun i hi => t.2.2 i hi) w70 w72 (fun i hi => by rw [rg_fr g _ _ (by omega) (by omega) (by omega), gf _ _ (by unfold exP; omega)]; exact tape_Y h i hi) (fun y hy => ⟨rfl, ?_⟩)
      obtain ⟨y1, y2, y3⟩ := hy
      have now : y.1 246 1 = x.1 246 1 := by rw [y1 _ _ (by omega), rg_fr g _ _ (by omega) (by omega) (by omega), gf _ _ (by unfold exP; omega)]
      rw [now]
      generalize hz : wr (wr (wr (wr (wr y 304 o (nI (nv x.1 246 70))) 305 o (nI v)) 306 o (x.1 246 1)) 246 72 (nI (o + 1))) 246 70 (nI 0) = z'
      have zf : ∀ c k, ¬ (c = 246 ∧ (k = 70 ∨ k = 72)) → ¬ ((c = 304 ∨ c = 305 ∨ c = 306) ∧ k = o) → z'.1 c k = y.1 c k := by
        intro c k a1 a2
        rw [← hz]; simp (disch := omega) only [wr_ne]
      have z70 : z'.1 246 70 = nI 0 := by rw [← hz, wr_e]
      have z72 : z'.1 246 72 = nI (o + 1) := by rw [← hz, wr_k (by decide), wr_e]
      have z304 : z'.1 304 o = nI (nv x.1 246 70) := by rw [← hz]; simp (disch := omega) only [wr_ne]; rw [wr_e]
      have z305 : z'.1 305 o = nI v := by rw [← hz]; simp (disch := omega) only [wr_ne]; rw [wr_e]
      have z306 : z'.1 306 o = x.1 246 1 := by rw [← hz]; simp (disch := omega) only [wr_ne]; rw [wr_e]
      have xf : ∀ c k, ¬ exP o c k → z'.1 c k = x.1 c k := by
        intro c k a
        have a' := a
        unfold exP at a'
        rw [zf c k (by omega) (by omega), y1 c k (by omega), rg_fr g c k (by omega) (by omega) (by omega), gf c k a]
      have zg : ∀ c k, c ≤ 245 → z'.1 c k = g0.1 c k := by
        intro c k a
        rw [zf c k (by omega) (by omega), y1 c k (by omega), rg_fr g c k (by omega) (by omega) (by omega)]
      have exf : ∀ c k, ¬ exA c k → z'.1 c k = x.1 c k := by
        intro c k a
        unfold exA at a
        exact xf c k (by unfold exP; omega)
      have n72 : nv z'.1 246 72 = o + 1 := nv_of z72 (by omega)
      have n1 : nv z'.1 246 1 = nv x.1 246 1 := by unfold nv; rw [xf _ _ (by unfold exP; omega)]
      have z167 : z'.1 167 o = nI v := by rw [zg _ _ (by decide), g1 _ _ (by omega) (by omega) (by omega)]; exact s167
      have z168 : z'.1 168 o = x.1 66 12 := by rw [zg _ _ (by decide), g1 _ _ (by omega) (by omega) (by omega)]; exact s168
      have rev : Rev z'.1 z'.1 := by
        obtain ⟨r1, r2⟩ := h.1.ev
        refine ⟨fun k hk => ?_, fun k hk => ?_⟩
        · have e99 : nv z'.1 246 99 = nv x.1 246 99 := by unfold nv; rw [xf _ _ (by unfold exP; omega)]
          rw [e99] at hk
          have := r1 k hk
          rw [xf 169 k (by unfold exP; omega), xf 170 k (by unfold exP; omega), xf 171 k (by unfold exP; omega), xf 172 k (by unfold exP; omega), xf 320 k (by unfold exP; omega), xf 321 k (by unfold exP; omega), xf 322 k (by unfold exP; omega), xf 323 k (by unfold exP; omega)]
          exact this
        · rw [n72] at hk
          by_cases q0 : k = o
          · rw [q0]
            exact ⟨by rw [z167, z305], by rw [z168, z306]; exact h.1.s1⟩
          · have := r2 k (by omega)
            rw [xf 167 k (by unfold exP; omega), xf 168 k (by unfold exP; omega), xf 305 k (by unfold exP; omega), xf 306 k (by unfold exP; omega)]
            exact this
      have wev : Wev z'.1 := by
        obtain ⟨r1, r2⟩ := h.2.ev
        refine ⟨fun k hk => ?_, fun k hk => ?_⟩
        · have e99 : nv z'.1 246 99 = nv x.1 246 99 := by unfold nv; rw [xf _ _ (by unfold exP; omega)]
          rw [e99] at hk
          have := r1 k hk
          unfold nbd nv at this ⊢
          rw [xf 320 k (by unfold exP; omega), xf 321 k (by unfold exP; omega), xf 322 k (by unfold exP; omega), xf 323 k (by unfold exP; omega), xf 246 31 (by unfold exP; omega), xf 246 1 (by unfold exP; omega)]
          exact this
        · rw [n72] at hk
          by_cases q0 : k = o
          · rw [q0]
            have n306 : nv z'.1 306 o = nv x.1 246 1 := by unfold nv; rw [z306]
            refine ⟨nb_of z305 hv2 (by decide), by rw [nv_of z305 (by omega)]; exact hv1, nb_of (n := nv x.1 246 1) (by rw [z306]; exact h.2.v1) b1 (by decide), by rw [n306, n1]; exact Nat.le_refl _⟩
          · have := r2 k (by omega)
            unfold nbd nv at this ⊢
            rw [xf 305 k (by unfold exP; omega), xf 306 k (by unfold exP; omega), xf 246 1 (by unfold exP; omega)]
            exact this
      refine hk z' (fin_T h exf ?_ (o := nv x.1 246 71) (a := o + 1) ?_ ?_ ob ?_ z72 (by omega) ?_ z70 rev wev) ?_
      · rw [← hz]
        show y.2.1 329 = _
        rw [y3, g.2.1]
        show g0.2.1 329 = _
        rw [g2, sd]
      · rw [xf _ _ (by unfold exP; omega), h.1.s71]; exact h.2.v71
      · rw [xf _ _ (by unfold exP; omega)]; exact h.2.v71
      · rw [zg _ _ (by decide), g1 _ _ (by omega) (by omega) (by omega)]; exact s165
      · rw [zg _ _ (by decide)]; exact g5
      · have n71 : nv z'.1 246 71 = nv x.1 246 71 := by unfold nv; rw [xf _ _ (by unfold exP; omega)]
        refine ⟨fun u => ?_, fun u => ?_, ?_, fun j hj => ?_⟩
        · rw [xf _ _ (by unfold exP; omega)]; exact ht.1 (by omega)
        · rw [n71] at u ⊢
          exact txAt_keep (ht.2.1 u) (xf _ _ (by unfold exP; omega)) (fun i _ => xf _ _ (by unfold exP; omega)) (xf _ _ (by unfold exP; omega)) (fun i => xf _ _ (by unfold exP; omega))
        · rcases ht.2.2.1 with ⟨a, b⟩ | a
          · exact Or.inl ⟨by rw [xf _ _ (by unfold exP; omega)]; exact a, by rw [xf _ _ (by unfold exP; omega)]; exact b⟩
          · exact Or.inr (txAt_keep a (xf _ _ (by unfold exP; omega)) (fun i _ => xf _ _ (by unfold exP; omega)) (xf _ _ (by unfold exP; omega)) (fun i => xf _ _ (by unfold exP; omega)))
        · rw [n72] at hj
          by_cases q0 : j = o
          · rw [q0]
            refine ⟨_, _, q, c, t, z304, fun i hi => ?_, hq, ?_, fun i hi => ?_, by omega⟩
            · rw [zf _ _ (by omega) (by omega)]; exact y2 i hi
            · rw [zg _ _ (by omega)]; exact g3
            · rw [zg _ _ (by omega)]; exact g4 i hi
          · exact txAt_keep (ht.2.2.2 j (by omega)) (xf _ _ (by unfold exP; omega)) (fun i _ => xf _ _ (by unfold exP; omega)) (xf _ _ (by unfold exP; omega)) (fun i => xf _ _ (by unfold exP; omega))
