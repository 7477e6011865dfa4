/-! ROUNDS: the class's table of the least minutes. -/
def RKp (w : Nat → Nat → Nat) (c : Nat → Nat) (b : Nat) (s a v : Nat) : Prop := v ≤ 1000000 ∧ (∀ L, stL s L → v ≤ tmL w c b (c a) L) ∧ (v < 1000000 → ∃ L, stL s L ∧ tmL w c b (c a) L = v)
def PKp (w : Nat → Nat → Nat) (c : Nat → Nat) (b : Nat) (s a t v : Nat) : Prop := v ≤ 1000000 ∧ (∀ i L, i < t → stL s (i :: L) → v ≤ tmL w c b (c a) (i :: L)) ∧ (s = 0 → v = w (c a) b) ∧ (v < 1000000 → ∃ L, stL s L ∧ tmL w c b (c a) L = v)
theorem PKp_end {w : Nat → Nat → Nat} {c : Nat → Nat} {b s a n v : Nat} (hs : s < 2 ^ n) (h : PKp w c b s a n v) : RKp w c b s a v := by
  obtain ⟨h1, h2, h3, h4⟩ := h
  refine ⟨h1, fun L hL => ?_, h4⟩
  cases L with
  | nil =>
    have e : s = 0 := Nat.eq_of_testBit_eq (fun i => by
      rw [Nat.zero_testBit]
      cases q : s.testBit i
      · rfl
      · exact absurd ((hL.2 i).mpr q) List.not_mem_nil)
    exact Nat.le_of_eq (h3 e)
  | cons i L =>
    refine h2 i L ?_ hL
    rcases Nat.lt_or_ge i n with u | u
    · exact u
    · have e := (hL.2 i).mp (List.mem_cons_self ..)
      rw [Nat.testBit_lt_two_pow (Nat.lt_of_lt_of_le hs (Nat.pow_le_pow_right (by decide) u))] at e
      cases e
theorem PKp_f {w : Nat → Nat → Nat} {c : Nat → Nat} {b s a t v : Nat} (hb : s.testBit t = false) (h : PKp w c b s a t v) : PKp w c b s a (t + 1) v := by
  obtain ⟨h1, h2, h3, h4⟩ := h
  refine ⟨h1, fun i L hi hL => ?_, h3, h4⟩
  by_cases e : i = t
  · have := (hL.2 i).mp (List.mem_cons_self ..)
    rw [e, hb] at this; cases this
  · exact h2 i L (by omega) hL
theorem PKp_t {w : Nat → Nat → Nat} {c : Nat → Nat} {b s a t v v' : Nat} (hb : s.testBit t = true) (h : PKp w c b s a t v) (r : RKp w c b (s ^^^ 2 ^ t) t v') : PKp w c b s a (t + 1) (min v (w (c a) (c t) + 10 + v')) := by
  obtain ⟨h1, h2, h3, h4⟩ := h
  obtain ⟨r1, r2, r3⟩ := r
  refine ⟨by omega, fun i L hi hL => ?_, fun e => ?_, fun q => ?_⟩
  · by_cases e : i = t
    · subst e
      have := r2 L ((stL_cons hb).mp hL)
      show _ ≤ w (c a) (c i) + 10 + tmL w c b (c i) L
      omega
    · have := h2 i L (by omega) hL
      omega
  · rw [e, Nat.zero_testBit] at hb; cases hb
  · by_cases q2 : v ≤ w (c a) (c t) + 10 + v'
    · rw [Nat.min_eq_left q2] at q ⊢
      exact h4 q
    · rw [Nat.min_eq_right (by omega)] at q ⊢
      obtain ⟨L, hL, e⟩ := r3 (by omega)
      refine ⟨t :: L, (stL_cons hb).mpr hL, ?_⟩
      show w (c a) (c t) + 10 + tmL w c b (c t) L = _
      rw [e]
def coF (Y : Nat → Nat → Int32) (C : List Nat) (i : Nat) : Nat := crF Y (C.getD i 0)
def rsT (Y : Nat → Nat → Int32) (base : Nat) (C : List Nat) (S : Nat) (x : ab_X) : Prop := ∀ s a, s < S → a < C.length → ∃ v, x.1 238 (s * 8 + a) = nI v ∧ RKp (wkF Y) (coF Y C) base s a v
theorem c_through {Y : Nat → Nat → Int32} {x : ab_X} {base : Nat} {C : List Nat} {S : Nat} (hC : C.length ≤ 8) (h1 : stT Y base C x) (h2 : rsT Y base C S x) {s a t : Nat} (hs : s < 2 ^ C.length) (hS : s ^^^ 2 ^ t < S) (ht : t < C.length) (ha : a < C.length ∨ a = 8) (hb : s.testBit t = true) {K : Int32 → Prop} (k : ∀ v, RKp (wkF Y) (coF Y C) base (s ^^^ 2 ^ t) t v → K (nI (wkF Y (caF Y base C a) (coF Y C t) + 10 + v))) : wX7_through (nI s) (nI a) (nI t) x K := by
  have p2 := p2_le hC
  have xl := xr_lt s (by omega) t (by omega) hb
  obtain ⟨v, hv, rv⟩ := h2 _ t hS ht
  unfold wX7_through
  have e0 : nI s &&& ((1 <<< (nI t &&& 31)) ^^^ (-1)) = nI (s ^^^ 2 ^ t) := bI_clr (by omega) hb
  have e1 : nI a * 8 + nI t = nI (a * 8 + t) := by
    show nI a * nI 8 + nI t = _
    rw [pk_mul, nI_add]
  have e2 : nI (s ^^^ 2 ^ t) * 8 + nI t = nI ((s ^^^ 2 ^ t) * 8 + t) := by
    show nI (s ^^^ 2 ^ t) * nI 8 + nI t = _
    rw [pk_mul, nI_add]
  rw [e0, e1, e2, cl_nI (by omega), cl_nI (by omega), h1 a t ht ha, hv, nI_add]
  exact ⟨(vpi (by omega) (by decide)).mpr trivial, (vpi (by omega) (by decide)).mpr trivial, k v rv⟩
theorem stT_c {Y : Nat → Nat → Int32} {x y : ab_X} {base : Nat} {C : List Nat} (h : stT Y base C x) (f : y.1 239 = x.1 239) : stT Y base C y := fun a t p q => by rw [f]; exact h a t p q
theorem c_fillRest {x : ab_X} {Y : Nat → Nat → Int32} {D : Nat → UInt64} (r : RR x.1 Y D) (w : WW Y) {base : Nat} {C : List Nat} {g : Nat → Nat} (hb : base < 20) (hC : C.length ≤ 8) (hm : ∀ i, i ∈ C → i < nv Y 246 31) (h : CS base C g x) (hst : stT Y base C x) {K : ab_X → Prop} (k : ∀ z : ab_X, (∀ c, c ≠ 238 → z.1 c = x.1 c) → z.2 = x.2 → rsT Y base C (2 ^ C.length) z → K z) : wX7_fillRest x K := by
  have p2 := p2_le hC
  unfold wX7_fillRest
  refine Lp2.ind (fun ii v y => ∃ s, s ≤ 2 ^ C.length ∧ ii = 2 ^ C.length - s ∧ v = nI s ∧ (∀ c, c ≠ 238 → y.1 c = x.1 c) ∧ y.2 = x.2 ∧ rsT Y base C s y) (2 ^ C.length) ⟨0, Nat.zero_le _, rfl, rfl, fun _ _ => rfl, rfl, fun s' a q => absurd q (Nat.not_lt_zero s')⟩ ?_
  rintro ii v y ⟨s, hs, hii, rfl, y1, y2, y3⟩ L hL
  unfold lX7_fillRest_2
  simp only [nI_lit]
  rw [y1 234 (by decide), h.1, bI_one (by omega), q_le (by omega) (by omega)]
  refine ⟨fun u => ?_, fun u => ?_⟩
  · have e : s = 2 ^ C.length := by omega
    subst e
    exact k y y1 y2 y3
  have hs2 : s < 2 ^ C.length := by omega
  refine Lp2.ind (fun ii v z => ∃ a, a ≤ C.length ∧ ii = C.length - a ∧ v = nI a ∧ (∀ c, c ≠ 238 → z.1 c = x.1 c) ∧ z.2 = x.2 ∧ rsT Y base C s z ∧ ∀ a', a' < a → ∃ v, z.1 238 (s * 8 + a') = nI v ∧ RKp (wkF Y) (coF Y C) base s a' v) C.length ⟨0, Nat.zero_le _, rfl, rfl, y1, y2, y3, fun a' q => absurd q (Nat.not_lt_zero a')⟩ ?_
  rintro jj v z ⟨a, ha, hjj, rfl, z1, z2, z3, z4⟩ L' hL'
  have fz : frQ x z := frQ_c z1 z2 (by decide) (by decide)
  have rz := fz.r w r
  have cz := CS_c h z1 (by decide)
  have sz := stT_c hst (z1 239 (by decide))
  unfold lX7_fillRest_14
  simp only [nI_lit]
  rw [cz.1, cz.2.1, q_le (by omega) (by omega), nI_add]
  refine ⟨fun u2 => ?_, fun u2 => ?_⟩
  · have e : a = C.length := by omega
    subst e
    refine hL _ _ _ (by omega) ⟨s + 1, by omega, rfl, rfl, z1, z2, fun s' a' p q => ?_⟩
    by_cases e : s' = s
    · rw [e]; exact z4 a' q
    · exact z3 s' a' (by omega) q
  have ha2 : a < C.length := by omega
  have d20 := crF_20 w (hm _ (gD_m ha2))
  have inner : ∀ v0, PKp (wkF Y) (coF Y C) base s a 0 v0 → Lp2 (lX7_fillRest_51 (nI s) (nI a) z K L L') (nI v0) (nI 0) := by
    intro v0 pk0
    refine Lp2.ind (fun ii v3 v4 => ∃ t v, t ≤ C.length ∧ ii = C.length - t ∧ v3 = nI v ∧ v4 = nI t ∧ PKp (wkF Y) (coF Y C) base s a t v) C.length ⟨0, v0, Nat.zero_le _, rfl, rfl, rfl, pk0⟩ ?_
    rintro kk v3 v4 ⟨t, v, ht, hkk, rfl, rfl, pk⟩ L2 hL2
    have pk1 := pk.1
    unfold lX7_fillRest_51
    simp only [nI_lit]
    rw [cz.1, q_le (by omega) (by omega)]
    refine ⟨fun u3 => ?_, fun u3 => ?_⟩
    · have e : t = C.length := by omega
      subst e
      rw [pk_mul, nI_add, nI_add, cl_nI (by omega)]
      refine ⟨(vpi (by omega) (by decide)).mpr trivial, ?_⟩
      refine hL' _ _ _ (by omega) ⟨a + 1, by omega, rfl, rfl, fun c q => by rw [wr_n q, z1 c q], z2, fun s' a' p q => ?_, fun a' q => ?_⟩
      · rw [wr_k (by omega)]; exact z3 s' a' p q
      · by_cases e : a' = a
        · subst e
          exact ⟨v, by rw [wr_e], PKp_end hs2 pk⟩
        · rw [wr_k (by omega)]; exact z4 a' (by omega)
    · have ht2 : t < C.length := by omega
      rw [bI_bit (by omega), nI_add]
      cases q : s.testBit t
      · refine ⟨fun _ => ?_, fun u4 => absurd u4 (by decide)⟩
        exact hL2 _ _ _ (by omega) ⟨t + 1, v, by omega, rfl, rfl, rfl, PKp_f q pk⟩
      · refine ⟨fun u4 => absurd rfl u4, fun _ => ?_⟩
        have c20 := crF_20 w (hm _ (gD_m ht2))
        have wb := wkF_le w d20 c20
        refine c_through hC sz z3 hs2 (xr_lt s (by omega) t (by omega) q) ht2 (Or.inl ha2) q (fun v' rv => ?_)
        have rv1 := rv.1
        have ec : caF Y base C a = coF Y C a := by unfold caF coF; rw [if_neg (by omega)]
        have wb' : wkF Y (coF Y C a) (coF Y C t) ≤ 1000000 := wb
        rw [ec, imin_I (by omega) (by omega)]
        exact hL2 _ _ _ (by omega) ⟨t + 1, _, by omega, rfl, rfl, rfl, PKp_t q pk rv⟩
  rw [q_eq (by omega) (by omega)]
  refine ⟨fun u3 => inner 1000000 ⟨Nat.le_refl _, fun i L q => absurd q (Nat.not_lt_zero i), fun e => absurd e u3, fun q => absurd q (Nat.lt_irrefl _)⟩, fun u3 => ?_⟩
  refine c_cornerOf rz w hC hm cz ha2 ?_
  refine c_walk rz w d20 hb ?_
  have wb := wkF_le w d20 hb
  refine inner _ ⟨wb, fun i L q => absurd q (Nat.not_lt_zero i), fun e => rfl, fun _ => ⟨[], ?_, rfl⟩⟩
  rw [u3]
  exact ⟨List.nodup_nil, fun i => by rw [Nat.zero_testBit]; simp⟩
