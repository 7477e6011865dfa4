/-! LAW: what a house fails by; both. -/
theorem fcS_len {Y : Nat → Nat → Int32} {h : Nat} {q : Int32} (ht : InvT Y) (b : nv Y 246 72 ≤ 12) : (fcS Y h q).2.2.length ≤ 40 := by
  unfold fcS
  rcases pkb_d (afo Y h q) (Y 305) (nv Y 246 72) with e | ⟨j, hj, e, -⟩
  · have e : af Y h q = -nI 1 := e
    rw [if_pos e]; exact Nat.zero_le _
  · have e : af Y h q = nI j := e
    rw [e, if_neg (by rw [n1_eq' (by omega)]; exact id), cl_nI (by omega)]
    have tl := (txL_of (s := 2) (by decide) (ht.2.2.2 j hj)).ok
    have := txE_len (e := eA Y h q) (actL Y j) 0 S0 tl.1
    have l40 : (actL Y j).length ≤ 40 := tl.2
    have e0 : S0.2.2.length = 0 := rfl
    omega
theorem c_failures {x : ab_X} {Y : Nat → Nat → Int32} {D : Nat → UInt64} {h : Nat} {q : Int32} (r : RR x.1 Y D) (w : WW Y) (ht : InvT Y) (kt : keepT Y x.1) (hh : h < nv Y 246 31) {K : Int32 → ab_X → Prop} (k : ∀ z, keepC x.1 z.1 → keepT x.1 z.1 → smM x z → (∀ j, af Y h q = nI j → j < 12 → ∀ i, i < (fcS Y h q).2.2.length → z.1 (174 + 5 * j + 4) i = (fcS Y h q).2.2.getD i 0) → K (nI (fcS Y h q).2.2.length) z) : wX5_failures (nI h) q x K := by
  have b31 := w.b31
  have b72 := w.b72
  unfold wX5_failures
  refine c_actFor r w hh ?_
  rw [f_below, r.s72, w.v72]
  rcases pkb_d (afo Y h q) (Y 305) (nv Y 246 72) with e | ⟨j, hj, e, -⟩
  · have e : af Y h q = -nI 1 := e
    have e1 : fcS Y h q = S0 := by unfold fcS; rw [if_pos e]
    rw [e1] at k
    rw [e, jx_m1]
    exact x0 (k x keepC.rfl' keepT.rfl' smM.rfl' (fun j _ _ i hi => absurd hi (Nat.not_lt_zero i)))
  have e : af Y h q = nI j := e
  have e1 : fcS Y h q = txE (eA Y h q) 0 (actL Y j) S0 := by
    unfold fcS; rw [e, if_neg (by rw [n1_eq' (by omega)]; exact id), cl_nI (by omega)]
  rw [e, jx_I hj (by omega), cl_nI (by omega), cl_nI (by omega)]
  refine x1 ⟨(vpi (by omega) (by decide)).mpr trivial, ?_⟩
  refine c_spell r w hh (fun y y1 y2 y3 => ⟨(vpi (by omega) (by decide)).mpr trivial, ?_⟩)
  have tl := txL_of (s := 2) (by decide) (ht.2.2.2 j hj)
  have ok := tl.ok
  obtain ⟨B, n, q', t, a1, a2, a3, a4, a5, a6⟩ := tl
  obtain ⟨h', hb', eT⟩ := exT_tx (e := eA Y h q) (actL Y j) 0 (nI 0) S0 ok.1 isB_0 (by have : (actL Y j).length ≤ 40 := ok.2; have e0 : S0.2.2.length = 0 := rfl; omega)
  refine c_run (s := 2) (by decide) eT ?_ (fun i hi => ?_) a6 (fun i hi => ?_) (by omega) (fun z fz pz => ⟨(vpi (by omega) (by decide)).mpr trivial, ?_⟩)
  · rw [y1 _ (by omega), kt _ _ (by unfold tk; omega)]; exact a4
  · rw [y1 _ (by omega), kt _ _ (by unfold tk; omega)]; exact a5 i hi
  · have hi : i < 11 := hi
    rw [y3 i hi, eA_s hi]
  · have p9 : z.1 (174 + 5 * j) 9 = nI (fcS Y h q).2.2.length := by rw [e1]; exact pz.2.2.2.2.2.1
    rw [p9]
    have fr : ∀ c k, c < 173 ∨ 233 < c → z.1 c k = x.1 c k := fun c k hc => by rw [fz.1 c k (by omega) (by omega) (by omega) (by omega), y1 c (by omega)]
    refine k z ⟨fun c u => funext (fun i => fr c i (by unfold kC at u; omega)), fr _ _ (by omega), fun c f p u => fr _ _ (by omega)⟩ (fun c i u => ?_) ⟨fun c u => funext (fun i => fr c i (by omega)), by rw [fz.2, y2]⟩ (fun j' ej hj' i hi => ?_)
    · unfold tk at u
      rw [fz.1 c i (by omega) (by omega) (by omega) (by omega), y1 c (by omega)]
    · rw [e] at ej
      have ej := (q_eq (by omega) (by omega)).mp ej
      subst ej
      rw [e1] at hi ⊢
      exact pz.2.2.2.2.2.2 i hi
def rgB (x z : ab_X) : Prop := (∀ c k, ¬ (c = 246 ∧ (k = 74 ∨ k = 75 ∨ (78 ≤ k ∧ k ≤ 82))) → c ≠ 307 → c ≠ 308 → c ≠ 309 → z.1 c k = x.1 c k) ∧ z.2.1 = x.2.1 ∧ z.2.2.1 = x.2.2.1 ∧ z.2.2.2.1 = x.2.2.2.1
theorem rgB.rfl' {x : ab_X} : rgB x x := ⟨fun _ _ _ _ _ _ => rfl, rfl, rfl, rfl⟩
theorem rgB.tr {x y z : ab_X} (h : rgB x y) (f : rgB y z) : rgB x z := ⟨fun c k a b d e => (f.1 c k a b d e).trans (h.1 c k a b d e), f.2.1.trans h.2.1, f.2.2.1.trans h.2.2.1, f.2.2.2.trans h.2.2.2⟩
theorem rgB.m {Y : Nat → Nat → Int32} {x z : ab_X} (h : rgB x z) (m : keepM Y x.1) : keepM Y z.1 := ⟨fun c q => by rw [← m.1 c q]; exact funext (fun k => h.1 c k (by unfold kM at q; omega) (by unfold kM at q; omega) (by unfold kM at q; omega) (by unfold kM at q; omega)), fun f q => by rw [← m.2 f q]; exact h.1 246 f (by unfold kS at q; omega) (by omega) (by omega) (by omega)⟩
theorem rgB.t {x z : ab_X} (h : rgB x z) : keepT x.1 z.1 := fun c k q => h.1 c k (by unfold tk at q; omega) (by unfold tk at q; omega) (by unfold tk at q; omega) (by unfold tk at q; omega)
theorem rgB.c {x z : ab_X} (h : rgB x z) (c : Nat) (hc : c < 246) : z.1 c = x.1 c := funext (fun k => h.1 c k (by omega) (by omega) (by omega) (by omega))
theorem rgB_7 {x y : ab_X} {k : Nat} {v : Int32} (h : rgB x y) : rgB x (wr y 307 k v) := ⟨fun c k a b d e => by rw [wr_n b]; exact h.1 c k a b d e, h.2⟩
theorem m_failsBy {x : ab_X} {Y : Nat → Nat → Int32} {h q : Nat} (m : keepM Y x.1) (w : WW Y) (ht : InvT Y) (kt : keepT Y x.1) (hh : h < nv Y 246 31) (hq : q ≤ 20000) {K : Int32 → ab_X → Prop} (k : ∀ z, rgB x z → (∀ i, i < (fcS Y h (nI q)).2.2.length → z.1 309 i = (fcS Y h (nI q)).2.2.getD i 0) → K (nI (fcS Y h (nI q)).2.2.length) z) : wX12_failsBy (nI h) (nI q) x K := by
  have b31 := w.b31
  have b72 := w.b72
  unfold wX12_failsBy
  refine m_actFor m w hh ?_
  have f74 : rgB x (wr x 246 74 0) := ⟨fun c k a b d e => wr_ne (by omega), rfl, rfl, rfl⟩
  rcases pkb_d (afo Y h (nI q)) (Y 305) (nv Y 246 72) with e | ⟨j, hj, e, -⟩
  · have e : af Y h (nI q) = -nI 1 := e
    have e1 : fcS Y h (nI q) = S0 := by unfold fcS; rw [if_pos e]
    rw [e1] at k
    rw [e]
    exact ⟨fun u => absurd rfl u, fun _ => k _ f74 (fun i hi => absurd hi (Nat.not_lt_zero i))⟩
  have e : af Y h (nI q) = nI j := e
  have e1 : fcS Y h (nI q) = txE (eA Y h (nI q)) 0 (actL Y j) S0 := by
    unfold fcS; rw [e, if_neg (by rw [n1_eq' (by omega)]; exact id), cl_nI (by omega)]
  rw [e]
  refine ⟨fun _ => ?_, fun u => absurd u (by simp only [nI_lit]; rw [n1_eq' (by omega)]; exact id)⟩
  generalize wr x 246 74 0 = x' at f74
  have m' : keepM Y x'.1 := f74.m m
  obtain ⟨v1, v2, v3, v3', v4, v4', v5, v6, v6'⟩ := w.ho.1 h hh
  have b6 := v3.2
  have c0 : ∀ j, j < 128 → vp_in (nI j) 128 := fun j hj => (vpi hj (by decide)).mpr trivial
  have ch : vp_in (nI h) 12 := (vpi (by omega) (by decide)).mpr trivial
  refine Lp2.seq (nv Y 256 h) (mxT Y h) nI rfl rfl ?_ ?_
  · intro i hi L hL
    unfold lX12_failsBy_25
    simp only [nI_lit]
    rw [cl_nI (by omega), m'.c256, v3.1, q_le (by omega) (by omega), pk_mul, nI_add, m'.c273, nI_add]
    have e273 : Int32.toNatClampNeg (nI (6 * h + i)) = 6 * h + i := cl_nI (by omega)
    rw [e273]
    exact ⟨ch, fun u => absurd u (by omega), fun _ => ⟨(vpi (by omega) (by decide)).mpr trivial, hL⟩⟩
  intro L
  unfold lX12_failsBy_25
  simp only [nI_lit]
  rw [cl_nI (by omega), m'.c256, v3.1, q_le (by omega) (by omega)]
  refine ⟨ch, fun _ => ⟨ch, c0 _ (by decide), ch, c0 _ (by decide), ?_⟩, fun u => absurd (Nat.le_refl _) u⟩
  simp (disch := omega) only [cl_nI, wr_n, m'.c257, m'.c255, m'.c258]
  refine m_useOf (Y := Y) ((rgB_7 (rgB_7 rgB.rfl')).m m') w hh hq ⟨c0 _ (by decide), ch, c0 _ (by decide), c0 _ (by decide), ch, ?_⟩
  have sp4 : ∀ (y : ab_X), rgB x' y → (∀ i, i < 11 → y.1 307 (sbN 2 i) = lA Y h (nI q) i) → wX12_goThrough (nI 2) 301 (nI 200 * nI j) (y.1 304 j) y (fun r27 x28 => K (x28.1 246 74) x28) := by
    intro y fy ly
    have tl := txL_of (s := 2) (by decide) (ht.2.2.2 j hj)
    have ok := tl.ok
    obtain ⟨B, n, q', t, a1, a2, a3, a4, a5, a6⟩ := tl
    have my := fy.m m'
    have ky : ∀ i, y.1 301 i = Y 301 i := fun i => by rw [fy.1 _ _ (by omega) (by omega) (by omega) (by omega), f74.1 _ _ (by omega) (by omega) (by omega) (by omega), kt _ _ (by unfold tk; omega)]
    rw [my.c304, a1, pk_mul]
    have n200 := t.1
    have tr : TR8 n 301 (200 * j) := ⟨⟨by decide, by decide, 2400, ⟨by decide, by decide⟩, by omega, by decide⟩, by decide, by decide⟩
    refine m_goThr t tr (fun i hi => by rw [ky]; exact a2 i hi) (fun q2 hq2 z fz az r => ?_) (fun _ q2 l hq2 z fz az rz r => ?_) (fun s1 => absurd s1 (by decide))
    · exfalso
      unfold pA at hq2
      rw [if_neg (by decide), a3] at hq2
      cases hq2
    · rw [a3] at hq2
      injection hq2 with u1 u2
      injection u2 with u2
      have cg : txE (y.1 307) 0 l S0 = fcS Y h (nI q) := by
        rw [e1, ← u2]
        refine txE_cg (s := 2) (fun i hi => ?_) _ _ _ ok.1
        have hi : i < 11 := hi
        rw [ly i hi, eA_s hi]
      rw [cg] at rz
      rw [rz.2.2.1]
      refine k z (f74.tr (fy.tr ⟨fun c k a b d e => fz.1 c k a d e, fz.2⟩)) rz.2.2.2
  have s0 : sbN 2 0 = 115 := by decide +kernel
  have s1 : sbN 2 1 = 114 := by decide +kernel
  have s2 : sbN 2 2 = 117 := by decide +kernel
  have s3 : sbN 2 3 = 107 := by decide +kernel
  have s4 : sbN 2 4 = 103 := by decide +kernel
  have s5 : sbN 2 5 = 120 := by decide +kernel
  have s6 : sbN 2 6 = 119 := by decide +kernel
  have s7 : sbN 2 7 = 121 := by decide +kernel
  have s8' : sbN 2 8 = 100 := by decide +kernel
  have s9 : sbN 2 9 = 110 := by decide +kernel
  have s10 : sbN 2 10 = 108 := by decide +kernel
  have sp3 : ∀ (y : ab_X) (sa sb : Int32), rgB x' y → (∀ i, i < 9 → y.1 307 (sbN 2 i) = lA Y h (nI q) i) → sa + sb = lA Y h (nI q) 9 → wX12_failsBy_227 (nI h) (nI q) (nI j) (nI 110) sa sb y K := by
    intro y sa sb fy ly e9
    unfold wX12_failsBy_227
    simp only [nI_lit]
    rw [cl_nI (by decide), cl_nI (by decide), cl_nI (by omega), e9]
    refine ⟨c0 _ (by decide), ?_⟩
    refine m_days (Y := Y) ((rgB_7 fy).m m') w hh ⟨c0 _ (by decide), (vpi (by omega) (by decide)).mpr trivial, ?_⟩
    refine sp4 _ (rgB_7 (rgB_7 fy)) (fun i hi => ?_)
    obtain rfl | rfl | q9 : i = 10 ∨ i = 9 ∨ i < 9 := by omega
    · rw [s10, wr_e]; rfl
    · rw [s9, wr_k (by decide), wr_e]
    · have ne : sbN 2 i ≠ 108 ∧ sbN 2 i ≠ 110 := by
        have : ∀ i, i < 9 → sbN 2 i ≠ 108 ∧ sbN 2 i ≠ 110 := by decide +kernel
        exact this i q9
      rw [wr_k ne.1, wr_k ne.2]; exact ly i q9
  have sp2 : ∀ (y : ab_X) (sa : Int32), rgB x' y → (∀ i, i < 8 → y.1 307 (sbN 2 i) = lA Y h (nI q) i) → sa = lA Y h (nI q) 8 → wX12_failsBy_190 (nI h) (nI q) (nI j) (nI 100) sa y K := by
    intro y sa fy ly e8
    unfold wX12_failsBy_190
    simp only [nI_lit]
    rw [cl_nI (by decide), e8]
    refine ⟨c0 _ (by decide), ?_⟩
    have fz := rgB_7 (k := 100) (v := lA Y h (nI q) 8) fy
    have lz : ∀ i, i < 9 → (wr y 307 100 (lA Y h (nI q) 8)).1 307 (sbN 2 i) = lA Y h (nI q) i := by
      intro i hi
      obtain rfl | q8 : i = 8 ∨ i < 8 := by omega
      · rw [s8', wr_e]
      · have ne : sbN 2 i ≠ 100 := by
          have : ∀ i, i < 8 → sbN 2 i ≠ 100 := by decide +kernel
          exact this i q8
        rw [wr_k ne]; exact ly i q8
    generalize wr y 307 100 (lA Y h (nI q) 8) = z at fz lz
    have mz := fz.m m'
    have bs : lA Y h (nI q) 9 = (if prv Y h = -nI 1 then nI 0 else nI 1) + (if nxt Y (nv Y 246 31) h = -nI 1 then nI 0 else nI 1) := rfl
    have in2 : ∀ sa, sa = (if prv Y h = -nI 1 then nI 0 else nI 1) → wX12_failsBy_212 (nI h) (nI q) (nI j) (nI 110) sa z K := by
      intro sa esa
      unfold wX12_failsBy_212
      refine m_beside2 mz.f w.tw hh ?_
      refine ⟨fun u => sp3 z _ _ fz lz ?_, fun u => sp3 z _ _ fz lz ?_⟩
      · have u : nxt Y (nv Y 246 31) h = -nI 1 := u
        rw [bs, if_pos u, esa]; rfl
      · have u : ¬ nxt Y (nv Y 246 31) h = -nI 1 := u
        rw [bs, if_neg u, esa]; rfl
    refine m_beside1 mz.f w.tw hh ?_
    refine ⟨fun u => in2 _ ?_, fun u => in2 _ ?_⟩
    · rw [if_pos u]
    · rw [if_neg u]
  have sp1 : ∀ (y : ab_X) (sa : Int32), rgB x' y → (∀ i, i < 5 → y.1 307 (sbN 2 i) = lA Y h (nI q) i) → sa = lA Y h (nI q) 5 → wX12_failsBy_143 (nI h) (nI q) (nI j) (nI 120) sa y K := by
    intro y sa fy ly e5
    have my := fy.m m'
    unfold wX12_failsBy_143
    simp only [nI_lit]
    simp (disch := omega) only [cl_nI, wr_n, my.c259, my.c260, my.c265]
    rw [e5]
    refine ⟨c0 _ (by decide), ch, c0 _ (by decide), ch, c0 _ (by decide), ch, ?_⟩
    have fz := rgB_7 (k := 121) (v := Y 260 h) (rgB_7 (k := 119) (v := Y 259 h) (rgB_7 (k := 120) (v := lA Y h (nI q) 5) fy))
    have lz : ∀ i, i < 8 → (wr (wr (wr y 307 120 (lA Y h (nI q) 5)) 307 119 (Y 259 h)) 307 121 (Y 260 h)).1 307 (sbN 2 i) = lA Y h (nI q) i := by
      intro i hi
      obtain rfl | rfl | rfl | q8 : i = 7 ∨ i = 6 ∨ i = 5 ∨ i < 5 := by omega
      · rw [s7, wr_e]; rfl
      · rw [s6, wr_k (by decide), wr_e]; rfl
      · rw [s5, wr_k (by decide), wr_k (by decide), wr_e]
      · have ne : sbN 2 i ≠ 121 ∧ sbN 2 i ≠ 119 ∧ sbN 2 i ≠ 120 := by
          have : ∀ i, i < 5 → sbN 2 i ≠ 121 ∧ sbN 2 i ≠ 119 ∧ sbN 2 i ≠ 120 := by decide +kernel
          exact this i q8
        rw [wr_k ne.1, wr_k ne.2.1, wr_k ne.2.2]; exact ly i q8
    have l8 : lA Y h (nI q) 8 = if Y 265 h = nI 0 then nI 0 else nI 1 := rfl
    refine ⟨fun u => sp2 _ _ fz lz ?_, fun u => sp2 _ _ fz lz ?_⟩
    · rw [l8, if_pos u]
    · rw [l8, if_neg u]
  have fz := rgB_7 (k := 103) (v := mxT Y h (nv Y 256 h)) (rgB_7 (k := 107) (v := Y 255 h) (rgB_7 (k := 117) (v := ua Y h (nI q)) (rgB_7 (k := 114) (v := Y 257 h) (rgB_7 (k := 115) (v := nI (nv Y 256 h)) (rgB.rfl' (x := x'))))))
  have lz : ∀ i, i < 5 → (wr (wr (wr (wr (wr x' 307 115 (nI (nv Y 256 h))) 307 114 (Y 257 h)) 307 117 (ua Y h (nI q))) 307 107 (Y 255 h)) 307 103 (mxT Y h (nv Y 256 h))).1 307 (sbN 2 i) = lA Y h (nI q) i := by
    intro i hi
    obtain rfl | rfl | rfl | rfl | rfl : i = 4 ∨ i = 3 ∨ i = 2 ∨ i = 1 ∨ i = 0 := by omega
    · rw [s4, wr_e]; rfl
    · rw [s3, wr_k (by decide), wr_e]; rfl
    · rw [s2, wr_k (by decide), wr_k (by decide), wr_e]; rfl
    · rw [s1, wr_k (by decide), wr_k (by decide), wr_k (by decide), wr_e]; rfl
    · rw [s0, wr_k (by decide), wr_k (by decide), wr_k (by decide), wr_k (by decide), wr_e]; exact v3.1.symm
  have l5 : lA Y h (nI q) 5 = if Y 258 h = -nI 1 then nI 0 else nI 1 := rfl
  refine ⟨fun u => sp1 _ _ fz lz ?_, fun u => sp1 _ _ fz lz ?_⟩
  · rw [l5, if_pos u]
  · rw [l5, if_neg u]
