/-! TEXTS, 15: orders, leaving, act. -/
def exA (c k : Nat) : Prop := (67 ≤ c ∧ c ≤ 81) ∨ (160 ≤ c ∧ c ≤ 164) ∨ (167 ≤ c ∧ c ≤ 168) ∨ (173 ≤ c ∧ c ≤ 242) ∨ (300 ≤ c ∧ c ≤ 309) ∨ (c = 66 ∧ k = 7) ∨ (c = 158 ∧ (k = 1 ∨ k = 2)) ∨ (c = 165 ∧ k = 4) ∨ (c = 246 ∧ (k = 0 ∨ (70 ≤ k ∧ k ≤ 75) ∨ (78 ≤ k ∧ k ≤ 82)))
theorem fin_T {x z : ab_X} (h : InvA x) (fr : ∀ c k, ¬ exA c k → z.1 c k = x.1 c k) (d : z.2.1 329 = x.2.1 329) {o a : Nat} (o1 : z.1 66 7 = nI o) (o2 : z.1 246 71 = nI o) (ob : o ≤ 20) (a1 : z.1 165 4 = nI a) (a2 : z.1 246 72 = nI a) (ab : a ≤ 12) (l1 : z.1 158 1 = nI 0) (l2 : z.1 246 70 = nI 0) (rev : Rev z.1 z.1) (wev : Wev z.1) : InvA z := by
  refine InvA_chg h (L := [(67, 81), (160, 164), (167, 168), (173, 242), (300, 309)]) (S := [0, 70, 71, 72, 73, 74, 75, 78, 79, 80, 81, 82]) (C := [(66, 7), (158, 1), (158, 2), (165, 4)]) ?chg (Or.inr ?sc) (Or.inl rfl) (Or.inl rfl) (Or.inl rfl) (Or.inl rfl) (Or.inl rfl) (Or.inl rfl) (Or.inr rev) (Or.inr ?ta) (Or.inl rfl) (Or.inl ⟨rfl, d⟩) (Or.inr ?wsc) (Or.inl rfl) (Or.inl rfl) (Or.inl rfl) (Or.inl rfl) (Or.inl rfl) (Or.inl rfl) (Or.inl rfl) (Or.inr wev) (Or.inl rfl)
  case chg =>
    refine ⟨fun c p q r => ?_, fun f p => ?_, fun c f p q => ?_⟩
    · have r0 := r (67, 81) (by simp)
      have r1 := r (160, 164) (by simp)
      have r2 := r (167, 168) (by simp)
      have r3 := r (173, 242) (by simp)
      have r4 := r (300, 309) (by simp)
      simp only at r0 r1 r2 r3 r4
      unfold scC at q
      exact funext (fun k => fr c k (by unfold exA; omega))
    · refine fr 246 f (fun u => p ?_)
      unfold exA at u
      have u : f = 0 ∨ f = 70 ∨ f = 71 ∨ f = 72 ∨ f = 73 ∨ f = 74 ∨ f = 75 ∨ f = 78 ∨ f = 79 ∨ f = 80 ∨ f = 81 ∨ f = 82 := by omega
      simpa using u
    · refine fr c f (fun u => q ?_)
      unfold exA at u
      unfold scC at p
      have u : (c = 66 ∧ f = 7) ∨ (c = 158 ∧ f = 1) ∨ (c = 158 ∧ f = 2) ∨ (c = 165 ∧ f = 4) := by omega
      simpa using u
  case sc =>
    have e : ∀ c k, ¬ exA c k → z.1 c k = x.1 c k := fr
    refine ⟨?_, ?_, ?_, ?_, ?_, ?_, o1.trans o2.symm, ?_, l1.trans l2.symm, a1.trans a2.symm, ?_, ?_⟩
    · rw [e 1 7 (by unfold exA; omega), e 246 9 (by unfold exA; omega)]; exact h.1.s9
    · rw [e 9 2 (by unfold exA; omega), e 246 31 (by unfold exA; omega)]; exact h.1.s31
    · rw [e 9 6 (by unfold exA; omega), e 246 56 (by unfold exA; omega)]; exact h.1.s56
    · rw [e 9 9 (by unfold exA; omega), e 246 57 (by unfold exA; omega)]; exact h.1.s57
    · rw [e 66 3 (by unfold exA; omega), e 246 58 (by unfold exA; omega)]; exact h.1.s58
    · rw [e 66 5 (by unfold exA; omega), e 246 92 (by unfold exA; omega)]; exact h.1.s92
    · rw [e 66 12 (by unfold exA; omega), e 246 1 (by unfold exA; omega)]; exact h.1.s1
    · rw [e 165 9 (by unfold exA; omega), e 246 99 (by unfold exA; omega)]; exact h.1.s99
    · rw [e 0 9 (by unfold exA; omega), e 246 116 (by unfold exA; omega)]; exact h.1.s116
  case ta =>
    intro k hk
    rw [nv_of l2 (by decide)] at hk
    exact absurd hk (Nat.not_lt_zero k)
  case wsc =>
    have e : ∀ k b, ¬ exA 246 k → nbd x.1 246 k b → nbd z.1 246 k b := by
      intro k b q u
      unfold nbd nv
      rw [fr 246 k q]; exact u
    obtain ⟨w1, w2, w3, w4, w5, w6, w7, w8, w9, w10, w11, w12⟩ := h.2.sc
    exact ⟨e _ _ (by unfold exA; omega) w1, e _ _ (by unfold exA; omega) w2, e _ _ (by unfold exA; omega) w3, e _ _ (by unfold exA; omega) w4, e _ _ (by unfold exA; omega) w5, e _ _ (by unfold exA; omega) w6, nb_of o2 ob (by decide), e _ _ (by unfold exA; omega) w8, nb_of l2 (by decide) (by decide), nb_of a2 ab (by decide), e _ _ (by unfold exA; omega) w11, e _ _ (by unfold exA; omega) w12⟩
/-- events and acts, as they were -/
theorem ev_same {x z : ab_X} (h : InvA x) (fr : ∀ c k, ¬ exA c k → z.1 c k = x.1 c k) (e1 : ∀ c k, (167 ≤ c ∧ c ≤ 168) ∨ (305 ≤ c ∧ c ≤ 306) ∨ (c = 246 ∧ k = 72) → z.1 c k = x.1 c k) : Rev z.1 z.1 ∧ Wev z.1 := by
  have f1 : ∀ i, (167 ≤ i ∧ i ≤ 172) ∨ (305 ≤ i ∧ i ≤ 306) ∨ (320 ≤ i ∧ i ≤ 323) → z.1 i = x.1 i := by
    intro i hi
    funext k
    by_cases q : (167 ≤ i ∧ i ≤ 168) ∨ (305 ≤ i ∧ i ≤ 306)
    · exact e1 i k (by omega)
    · exact fr i k (by unfold exA; omega)
  have f2 : ∀ k, k = 72 ∨ k = 99 ∨ k = 31 ∨ k = 1 → z.1 246 k = x.1 246 k := by
    intro k hk
    by_cases q : k = 72
    · exact e1 246 k (by omega)
    · exact fr 246 k (by unfold exA; omega)
  exact ⟨Rev_fr h.1.ev (fun i p q => f1 i (by omega)) (fun i p q => f1 i (by omega)) (fun i p q => f1 i (by omega)) (f2 _ (by omega)) (f2 _ (by omega)), Wev_fr h.2.ev (fun i p q => f1 i (by omega)) (fun i p q => f1 i (by omega)) (f2 _ (by omega)) (f2 _ (by omega)) (f2 _ (by omega)) (f2 _ (by omega))⟩
theorem m_cpO {o n : Nat} {B : Nat → Nat} (ho : o < 20) (hn : n ≤ 200) (hB : ∀ i, i < n → B i < 256) {x : ab_X} (h70 : x.1 246 70 = nI n) (h71 : x.1 246 71 = nI o) (hb : ∀ i, i < n → x.1 299 i = s8 (B i)) {K : Int32 → ab_X → Prop} (k : ∀ y, CPd 300 (200 * o) n B x y → K (nI o) (wr (wr (wr y 303 o (nI n)) 246 71 (nI (o + 1))) 246 70 (nI 0))) : Lp2 (lX12_orders_22 K) 0 x := by
  refine Lp2.ind (fun ii a y => ∃ j, j ≤ n ∧ ii = n - j ∧ a = nI j ∧ CPd 300 (200 * o) j B x y) n ⟨0, by omega, rfl, rfl, fun _ _ _ => rfl, fun i hi => absurd hi (Nat.not_lt_zero i), rfl⟩ ?_
  rintro ii a y ⟨j, hj, hii, rfl, hy⟩ L hL
  have e70 : y.1 246 70 = nI n := by rw [hy.1 _ _ (by omega)]; exact h70
  have e71 : y.1 246 71 = nI o := by rw [hy.1 _ _ (by omega)]; exact h71
  unfold lX12_orders_22
  rw [e70, e71]
  simp only [nI_lit]
  rw [q_le (by omega) (by omega)]
  refine ⟨fun q => ?_, fun q => ?_⟩
  · have : j = n := by omega
    subst this
    have c1 : (wr y 303 o (nI j)).1 246 71 = nI o := by rw [wr_n (by decide)]; exact e71
    rw [cl_nI (by omega), c1, nI_add, wr_k (by decide), wr_e, pk_sub (by omega)]
    exact ⟨(vpi ho (by decide)).mpr trivial, k y hy⟩
  · rw [pk_mul, nI_add, cl_nI (by omega), cl_nI (by omega), hy.1 299 j (by omega), hb j (by omega), s8_nar _ (hB j (by omega)), nI_add]
    exact ⟨(vpi (by omega) (by decide)).mpr trivial, (vpi (by omega) (by decide)).mpr trivial, hL _ _ _ (by omega) ⟨j + 1, by omega, rfl, rfl, hy.st⟩⟩
theorem m_cpL {n : Nat} {B : Nat → Nat} (hn : n ≤ 200) (hB : ∀ i, i < n → B i < 256) {x : ab_X} (h70 : x.1 246 70 = nI n) (hb : ∀ i, i < n → x.1 299 i = s8 (B i)) {K : Int32 → ab_X → Prop} (k : ∀ y, CPd 302 0 n B x y → K (nI 1) (wr (wr y 246 73 (nI n)) 246 70 (nI 0))) : Lp2 (lX12_leaving_13 K) 0 x := by
  refine Lp2.ind (fun ii a y => ∃ j, j ≤ n ∧ ii = n - j ∧ a = nI j ∧ CPd 302 0 j B x y) n ⟨0, by omega, rfl, rfl, fun _ _ _ => rfl, fun i hi => absurd hi (Nat.not_lt_zero i), rfl⟩ ?_
  rintro ii a y ⟨j, hj, hii, rfl, hy⟩ L hL
  have e70 : y.1 246 70 = nI n := by rw [hy.1 _ _ (by omega)]; exact h70
  unfold lX12_leaving_13
  rw [e70]
  simp only [nI_lit]
  rw [q_le (by omega) (by omega)]
  refine ⟨fun q => ?_, fun q => ?_⟩
  · have : j = n := by omega
    subst this
    exact k y hy
  · rw [cl_nI (by omega), hy.1 299 j (by omega), hb j (by omega), s8_nar _ (hB j (by omega)), nI_add]
    have := hy.st
    rw [Nat.zero_add] at this
    exact ⟨(vpi (by omega) (by decide)).mpr trivial, (vpi (by omega) (by decide)).mpr trivial, hL _ _ _ (by omega) ⟨j + 1, by omega, rfl, rfl, this⟩⟩
theorem m_cpA {o n v : Nat} {B : Nat → Nat} (ho : o < 12) (hn : n ≤ 200) (hB : ∀ i, i < n → B i < 256) {x : ab_X} (h70 : x.1 246 70 = nI n) (h71 : x.1 246 72 = nI o) (hb : ∀ i, i < n → x.1 299 i = s8 (B i)) {K : Int32 → ab_X → Prop} (k : ∀ y, CPd 301 (200 * o) n B x y → K (nI o) (wr (wr (wr (wr (wr y 304 o (nI n)) 305 o (nI v)) 306 o (y.1 246 1)) 246 72 (nI (o + 1))) 246 70 (nI 0))) : Lp2 (lX12_act_33 (nI v) K) 0 x := by
  refine Lp2.ind (fun ii a y => ∃ j, j ≤ n ∧ ii = n - j ∧ a = nI j ∧ CPd 301 (200 * o) j B x y) n ⟨0, by omega, rfl, rfl, fun _ _ _ => rfl, fun i hi => absurd hi (Nat.not_lt_zero i), rfl⟩ ?_
  rintro ii a y ⟨j, hj, hii, rfl, hy⟩ L hL
  have e70 : y.1 246 70 = nI n := by rw [hy.1 _ _ (by omega)]; exact h70
  have e71 : y.1 246 72 = nI o := by rw [hy.1 _ _ (by omega)]; exact h71
  unfold lX12_act_33
  rw [e70, e71]
  simp only [nI_lit]
  rw [q_le (by omega) (by omega)]
  refine ⟨fun q => ?_, fun q => ?_⟩
  · have : j = n := by omega
    subst this
    have c1 : (wr y 304 (Int32.toNatClampNeg (nI o)) (nI j)).1 246 72 = nI o := by rw [wr_n (by decide)]; exact e71
    rw [c1]
    have c2 : (wr (wr y 304 (Int32.toNatClampNeg (nI o)) (nI j)) 305 (Int32.toNatClampNeg (nI o)) (nI v)).1 246 72 = nI o := by rw [wr_n (by decide)]; exact c1
    rw [c2]
    have c3 : (wr (wr y 304 (Int32.toNatClampNeg (nI o)) (nI j)) 305 (Int32.toNatClampNeg (nI o)) (nI v)).1 246 1 = y.1 246 1 := by rw [wr_n (by decide), wr_n (by decide)]
    rw [c3]
    have c4 : (wr (wr (wr y 304 (Int32.toNatClampNeg (nI o)) (nI j)) 305 (Int32.toNatClampNeg (nI o)) (nI v)) 306 (Int32.toNatClampNeg (nI o)) (y.1 246 1)).1 246 72 = nI o := by rw [wr_n (by decide)]; exact c2
    rw [c4, nI_add, cl_nI (by omega), wr_k (by decide), wr_e, pk_sub (by omega)]
    have vi : vp_in (nI o) 12 := (vpi ho (by decide)).mpr trivial
    exact ⟨vi, vi, vi, k y hy⟩
  · rw [pk_mul, nI_add, cl_nI (by omega), cl_nI (by omega), hy.1 299 j (by omega), hb j (by omega), s8_nar _ (hB j (by omega)), nI_add]
    exact ⟨(vpi (by omega) (by decide)).mpr trivial, (vpi (by omega) (by decide)).mpr trivial, hL _ _ _ (by omega) ⟨j + 1, by omega, rfl, rfl, hy.st⟩⟩
