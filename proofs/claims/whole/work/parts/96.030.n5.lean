/-! TEXTS, 14: the texts that are kept; fault, orders, leaving, act. -/
theorem tape_TX {x : ab_X} (h : InvA x) {s : Nat} (hs : s < 3) : TX (fun i => nv x.1 159 i) (nv x.1 246 70) s := ⟨h.2.b70, hs, fun i hi => (h.1.ta i hi).2.2.1⟩
theorem tape_X {x : ab_X} (h : InvA x) (i : Nat) (hi : i < nv x.1 246 70) : x.1 159 i = nI (nv x.1 159 i) := (h.1.ta i hi).1
theorem tape_Y {x : ab_X} (h : InvA x) (i : Nat) (hi : i < nv x.1 246 70) : x.1 299 i = s8 (nv x.1 159 i) := by
  have e := (h.1.ta i hi).2.2.2
  rw [(h.1.ta i hi).1] at e
  exact e
theorem s8_nar : ∀ b, b < 256 → vp_nar .byte (s8 b) = s8 b := by decide +kernel
theorem pA_b {B : Nat → Nat} {n s q : Nat} {c : Option (List Nat)} (t : TX B n s) (h : pA B n s = (q, c)) : q ≤ n := by
  have hB : ∀ i, i < n → B i < 256 := t.2.2
  unfold pA at h
  by_cases e : s = 1
  · rw [if_pos e] at h
    subst e
    unfold pLv at h
    have wx := pCo_W hB t.2.1 0 (Nat.zero_le _)
    cases hx : pCo B n 1 0 with
    | mk q1 r1 =>
      rw [hx] at h
      cases r1 with
      | none =>
        have h : (q1, none) = (q, c) := h
        injection h with h1 h2
        rw [← h1]
        exact ((wx q1).1 hx).2
      | some r1 =>
        obtain ⟨a, v⟩ := r1
        have a2 := ((wx q1).2 a v hx).2.1
        have k2 := (sk_b (B := B) a2).2.1
        by_cases e2 : cB B n q1 = 256
        · simp only [if_pos e2] at h
          injection h with h1 h2
          omega
        · simp only [if_neg e2] at h
          injection h with h1 h2
          omega
  · rw [if_neg e] at h
    have pT := pTx_b t (n + 1) 0 [] (Nat.zero_le _) (by omega) (by simp) (by simp [cdT]) (fun a ha => absurd ha (List.not_mem_nil))
    cases hx : pTx B n s (n + 1) 0 [] with
    | mk q1 r1 =>
      rw [hx] at h
      cases r1 with
      | none =>
        injection h with h1 h2
        rw [← h1]
        exact (pT q1).1 hx
      | some r1 =>
        injection h with h1 h2
        rw [← h1]
        exact ((pT q1).2 r1 hx).1
theorem m_faultS {B : Nat → Nat} {n s : Nat} (t : TX B n s) {y : ab_X} (hl : y.1 246 70 = nI n) (hb : ∀ i, i < n → y.1 299 i = s8 (B i)) {K : Int32 → ab_X → Prop} (k0 : ∀ q, pA B n s = (q, none) → q ≤ n → ∀ z, rgA (wr y 246 0 0) z → K (nI q) z) (k1 : ∀ q c, pA B n s = (q, some c) → ∀ z, rgA (wr y 246 0 0) z → K (-nI 1) z) : wX12_fault (nI s) y K := by
  have hs := t.2.1
  have hn := t.1
  unfold wX12_fault
  simp only [nI_lit]
  rw [f_isIn, jr_I (by omega) (by omega) (by omega), wr_k (by decide), hl]
  refine x1 ?_
  have tr : TR8 n 299 0 := ⟨⟨by decide, by decide, 200, ⟨by decide, by decide⟩, by omega, by decide⟩, by decide, by decide⟩
  refine m_goThr t tr (fun i hi => by rw [wr_n (by decide), Nat.zero_add]; exact hb i hi) (fun q hq z fz az r => ?_) (fun s1 q l hq z fz az rz r => ?_) (fun s1 q c v hq z fz az => ?_)
  · rw [az]
    exact k0 q hq (pA_b t hq) z fz
  · rw [az]
    exact k1 q (cdT l) (by unfold pA; rw [if_neg s1, hq]) z fz
  · rw [az]
    exact k1 q c (by unfold pA; rw [if_pos s1, hq]) z fz
theorem rd_keep {x z w : ab_X} (h : InvA x) (f : pfA x z) (g : rgA (wr z 246 0 0) w) : InvA w ∧ keepT x.1 w.1 := by
  have e : ∀ c k, ¬ (c = 158 ∧ k = 2) → ¬ (c = 160 ∧ k = 1) → c ≠ 161 → ¬ (c = 246 ∧ (k = 0 ∨ k = 74 ∨ k = 75 ∨ (78 ≤ k ∧ k ≤ 82))) → c ≠ 308 → c ≠ 309 → w.1 c k = x.1 c k := by
    intro c k a1 a2 a3 a4 a5 a6
    rw [g.1 c k (by omega) a5 a6, wr_ne (by omega), f.1 c k a1 a2 a3]
  refine ⟨InvA_keep h ⟨fun c q => funext (fun k => ?_), ?_, fun c f p q => ?_⟩ ⟨fun c q => funext (fun k => ?_), fun f q => ?_⟩ (fun k p => ?_) ?_, fun c k q => ?_⟩
  · unfold kC at q; exact e c k (by omega) (by omega) (by omega) (by omega) (by omega) (by omega)
  · exact e 158 1 (by omega) (by omega) (by omega) (by omega) (by omega) (by omega)
  · exact e _ _ (by omega) (by omega) (by omega) (by omega) (by omega) (by omega)
  · unfold kM at q; exact e c k (by omega) (by omega) (by omega) (by omega) (by omega) (by omega)
  · unfold kS at q; exact e 246 f (by omega) (by omega) (by omega) (by omega) (by omega) (by omega)
  · exact e 268 k (by omega) (by omega) (by omega) (by omega) (by omega) (by omega)
  · rw [g.2.1]
    show z.2.1 329 = _
    rw [f.2.1]
  · unfold tk at q; exact e c k (by omega) (by omega) (by omega) (by omega) (by omega) (by omega)
theorem pfA.rfl' {x : ab_X} : pfA x x := ⟨fun _ _ _ _ _ => rfl, rfl, rfl, rfl⟩
theorem p_fault {x : ab_X} {a : Int32} (h : InvA x) {K : ab_X → Prop} (hk : ∀ z, InvA z → keepT x.1 z.1 → K z) : wX11_fault a x (fun r y => wX12_fault a y (fun r' z => r = r' ∧ K z)) := by
  unfold wX11_fault
  simp only [nI_lit]
  rw [f_within]
  rcases jr_d a (lo := 0) (hi := 2) (by omega) (by omega) with e | ⟨s, -, hs, rfl⟩
  · rw [e]
    refine x0 ?_
    unfold wX12_fault
    simp only [nI_lit]
    rw [f_isIn, e]
    exact x0 ⟨trivial, hk _ (InvA_th h) keepT_th⟩
  rw [jr_I (by omega) hs (by omega)]
  refine x1 ?_
  have t := tape_TX h (s := s) (by omega)
  have fin : ∀ z w, pfA x z → rgA (wr z 246 0 0) w → K w := fun z w f g => hk w (rd_keep h f g).1 (rd_keep h f g).2
  have hl : ∀ z, pfA x z → z.1 246 70 = nI (nv x.1 246 70) := fun z f => by rw [f.1 246 70 (by omega) (by omega) (by omega)]; exact h.2.v70
  have hb : ∀ z, pfA x z → ∀ i, i < nv x.1 246 70 → z.1 299 i = s8 (nv x.1 159 i) := fun z f i hi => by rw [f.1 299 i (by omega) (by omega) (by omega)]; exact tape_Y h i hi
  refine c_parse t (by rw [h.1.s70]; exact h.2.v70) (tape_X h) (fun q hq z f az => y0 ?_) (fun q c hq z f e1 e2 e3 => y1 ?_)
  · rw [az]
    refine m_faultS t (hl z f) (hb z f) (fun q' hq' _ w g => ?_) (fun q' c hq' w g => ?_)
    · rw [hq] at hq'
      injection hq' with u1 u2
      rw [u1]
      exact ⟨rfl, fin z w f g⟩
    · rw [hq] at hq'
      injection hq' with u1 u2
      cases u2
  · refine m_faultS t (hl z f) (hb z f) (fun q' hq' _ w g => ?_) (fun q' c hq' w g => ?_)
    · rw [hq] at hq'
      injection hq' with u1 u2
      cases u2
    · exact ⟨rfl, fin z w f g⟩
/-- a text that is kept: the reference's bytes, the program's words -/
def txAt (Y : Nat → Nat → Int32) (s tc fr : Nat) (len : Int32) (v0 : Nat) : Prop := ∃ B n q c, TX B n s ∧ len = nI n ∧ (∀ i, i < n → Y tc (fr + i) = s8 (B i)) ∧ pA B n s = (q, some c) ∧ Y v0 1 = nI c.length ∧ stC (Y (v0 + 1)) c ∧ c.length ≤ 200
theorem txAt_keep {Y Y' : Nat → Nat → Int32} {s tc fr : Nat} {len len' : Int32} {v0 : Nat} (h : txAt Y s tc fr len v0) (el : len' = len) (e1 : ∀ i, i < 200 → Y' tc (fr + i) = Y tc (fr + i)) (e2 : Y' v0 1 = Y v0 1) (e3 : ∀ i, Y' (v0 + 1) i = Y (v0 + 1) i) : txAt Y' s tc fr len' v0 := by
  obtain ⟨B, n, q, c, t, h1, h2, h3, h4, h5, h6⟩ := h
  have := t.1
  exact ⟨B, n, q, c, t, el.trans h1, fun i hi => by rw [e1 i (by omega)]; exact h2 i hi, h3, by rw [e2]; exact h4, fun i hi => by rw [e3]; exact h5 i hi, h6⟩
def InvT (Y : Nat → Nat → Int32) : Prop := (nv Y 246 71 = 0 → Y 69 1 = nI 0) ∧ (1 ≤ nv Y 246 71 → txAt Y 0 300 (200 * (nv Y 246 71 - 1)) (Y 303 (nv Y 246 71 - 1)) 69) ∧ ((Y 246 73 = -nI 1 ∧ Y 74 1 = nI 0) ∨ txAt Y 1 302 0 (Y 246 73) 74) ∧ (∀ k, k < nv Y 246 72 → txAt Y 2 301 (200 * k) (Y 304 k) (174 + 5 * k))
theorem InvT_keep {X X' : Nat → Nat → Int32} (h : InvT X) (b : nv X 246 72 ≤ 12) (k : keepT X X') : InvT X' := by
  obtain ⟨h1, h2, h3, h4⟩ := h
  have e71 : nv X' 246 71 = nv X 246 71 := by unfold nv; rw [k 246 71 (by unfold tk; omega)]
  have e72 : nv X' 246 72 = nv X 246 72 := by unfold nv; rw [k 246 72 (by unfold tk; omega)]
  refine ⟨fun q => ?_, fun q => ?_, ?_, fun j hj => ?_⟩
  · rw [k 69 1 (by unfold tk; omega)]; exact h1 (by omega)
  · rw [e71] at q ⊢
    exact txAt_keep (h2 q) (k _ _ (by unfold tk; omega)) (fun i _ => k _ _ (by unfold tk; omega)) (k _ _ (by unfold tk; omega)) (fun i => k _ _ (by unfold tk; omega))
  · rcases h3 with ⟨a, c⟩ | a
    · exact Or.inl ⟨by rw [k 246 73 (by unfold tk; omega)]; exact a, by rw [k 74 1 (by unfold tk; omega)]; exact c⟩
    · exact Or.inr (txAt_keep a (k _ _ (by unfold tk; omega)) (fun i _ => k _ _ (by unfold tk; omega)) (k _ _ (by unfold tk; omega)) (fun i => k _ _ (by unfold tk; omega)))
  · rw [e72] at hj
    exact txAt_keep (h4 j hj) (k _ _ (by unfold tk; omega)) (fun i _ => k _ _ (by unfold tk; omega)) (k _ _ (by unfold tk; omega)) (fun i => k _ _ (by unfold tk; omega))
theorem c_hand {v0 : Nat} {z : ab_X} {c : List Nat} (h1 : z.1 160 1 = nI c.length) (h2 : stC (z.1 161) c) (hc : c.length ≤ 200) (hv : v0 + 1 < 158 ∨ 161 < v0) {K : ab_X → Prop} (k : ∀ g : ab_X, (∀ c k, ¬ (c = v0 ∧ k = 1) → c ≠ v0 + 1 → ¬ (c = 158 ∧ k = 1) → g.1 c k = z.1 c k) → g.2 = z.2 → g.1 v0 1 = nI c.length → stC (g.1 (v0 + 1)) c → g.1 158 1 = nI 0 → K g) : wX8_handOver v0 z K := by
  unfold wX8_handOver wX9_become
  have e0 : Int32.toNatClampNeg 0 = 0 := by decide
  have e2 : Int32.toNatClampNeg 200 = 200 := by decide
  rw [e0, e2]
  have ws : ∀ (g : Nat → Int32) (c' : Nat), c' ≠ v0 + 1 → (wrA z (v0 + 1) g).1 c' = z.1 c' := fun g c' hc => if_neg hc
  have we : ∀ (g : Nat → Int32), (wrA z (v0 + 1) g).1 (v0 + 1) = g := fun g => by unfold wrA; simp
  refine ⟨by decide, by decide, by decide, by decide, by decide, ?_⟩
  refine k _ (fun c' k' a b d => ?_) rfl ?_ (fun i hi => ?_) wr_e
  · rw [wr_ne (by omega), wr_ne (by omega), ws _ _ b]
  · rw [wr_n (by omega), wr_e, ws _ _ (by omega)]; exact h1
  · rw [wr_n (by omega), wr_n (by omega), we, pk_cpy_in (by omega) (by omega), Nat.zero_add, Nat.sub_zero]
    exact h2 i hi
def CPd (d o j : Nat) (B : Nat → Nat) (x y : ab_X) : Prop := (∀ c k, ¬ (c = d ∧ o ≤ k ∧ k < o + j) → y.1 c k = x.1 c k) ∧ (∀ i, i < j → y.1 d (o + i) = s8 (B i)) ∧ y.2 = x.2
theorem CPd.st {d o j : Nat} {B : Nat → Nat} {x y : ab_X} (h : CPd d o j B x y) : CPd d o (j + 1) B x (wr y d (o + j) (s8 (B j))) := by
  refine ⟨fun c k q => ?_, fun i hi => ?_, h.2.2⟩
  · rw [wr_ne (by omega)]; exact h.1 c k (by omega)
  · by_cases e : i = j
    · rw [e, wr_e]
    · rw [wr_k (by omega)]; exact h.2.1 i (by omega)
