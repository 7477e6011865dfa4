/-! ROUNDS: the class's tables. -/
theorem bI_bit {s i : Nat} (hi : i < 32) : ((nI s >>> (nI i &&& nI 31)) &&& nI 1) = bb (s.testBit i) := by rw [bit_e hi, bt_nI hi]
theorem bI_or {s t : Nat} : nI s ||| nI t = nI (s ||| t) := b_ext (fun i hi => by rw [b_or, bt_nI hi, bt_nI hi, bt_nI hi, Nat.testBit_or])
theorem bI_and {s t : Nat} : nI s &&& nI t = nI (s &&& t) := b_ext (fun i hi => by rw [b_and, bt_nI hi, bt_nI hi, bt_nI hi, Nat.testBit_and])
theorem bI_one {i : Nat} (hi : i < 32) : nI 1 <<< (nI i &&& nI 31) = nI (2 ^ i) := b_ext (fun j hj => by
  rw [bt_one hi hj, bt_nI hj, Nat.testBit_two_pow]
  by_cases e : j = i
  · rw [decide_eq_true e, decide_eq_true e.symm]
  · rw [decide_eq_false e, decide_eq_false (fun u => e u.symm)])
theorem bI_clr {s i : Nat} (hi : i < 32) (hb : s.testBit i = true) : nI s &&& ((nI 1 <<< (nI i &&& nI 31)) ^^^ (-nI 1)) = nI (s ^^^ 2 ^ i) := b_ext (fun j hj => by
  have m1 : bt (-nI 1) j = true := b_m1 j hj
  rw [b_and, b_xor, bt_one hi hj, m1, bt_nI hj, bt_nI hj, Nat.testBit_xor, Nat.testBit_two_pow]
  by_cases e : j = i
  · rw [e, hb]; simp
  · have e' : ¬ i = j := fun u => e u.symm
    simp [e, e'])
theorem gD_m {C : List Nat} {i : Nat} (h : i < C.length) : C.getD i 0 ∈ C := by
  rw [List.getD_eq_getElem?_getD, List.getElem?_eq_getElem h]
  exact List.getElem_mem h
theorem p2_le {n : Nat} (h : n ≤ 8) : 2 ^ n ≤ 256 := Nat.pow_le_pow_right (n := 2) (by decide) h
def wsT (C : List Nat) (g : Nat → Nat) (x : ab_X) : Prop := ∀ s, s < 2 ^ C.length → x.1 237 s = nI (sBn (fun i => s.testBit i) (fun i => g (C.getD i 0)) C.length)
theorem c_fillWorths {x : ab_X} {base : Nat} {C : List Nat} {g : Nat → Nat} (hC : C.length ≤ 8) (h : CS base C g x) {K : ab_X → Prop} (k : ∀ z : ab_X, (∀ c, c ≠ 237 → z.1 c = x.1 c) → z.2 = x.2 → wsT C g z → K z) : wX7_fillWorths x K := by
  obtain ⟨c1, c2, c3⟩ := h
  have p2 := p2_le hC
  unfold wX7_fillWorths
  refine Lp2.ind (fun ii v y => ∃ s, s ≤ 2 ^ C.length ∧ ii = 2 ^ C.length - s ∧ v = nI s ∧ (∀ c, c ≠ 237 → y.1 c = x.1 c) ∧ y.2 = x.2 ∧ ∀ s', s' < s → y.1 237 s' = nI (sBn (fun i => s'.testBit i) (fun i => g (C.getD i 0)) C.length)) (2 ^ C.length) ⟨0, Nat.zero_le _, rfl, rfl, fun _ _ => rfl, rfl, fun s' q => absurd q (Nat.not_lt_zero s')⟩ ?_
  rintro ii v y ⟨s, hs, hii, rfl, y1, y2, y3⟩ L hL
  unfold lX7_fillWorths_2
  simp only [nI_lit]
  rw [y1 234 (by decide), c1, bI_one (by omega), q_le (by omega) (by omega), cl_nI (by omega)]
  refine ⟨fun u => ?_, fun u => ⟨(vpi (by omega) (by decide)).mpr trivial, ?_⟩⟩
  · have e : s = 2 ^ C.length := by omega
    subst e
    exact k y y1 y2 y3
  have hs2 : s < 2 ^ C.length := by omega
  refine Lp2.ind (fun ii v z => ∃ i, i ≤ C.length ∧ ii = C.length - i ∧ v = nI i ∧ (∀ c, c ≠ 237 → z.1 c = x.1 c) ∧ z.2 = x.2 ∧ (∀ s', s' < s → z.1 237 s' = y.1 237 s') ∧ z.1 237 s = nI (sBn (fun i => s.testBit i) (fun i => g (C.getD i 0)) i)) C.length ⟨0, Nat.zero_le _, rfl, rfl, fun c q => by rw [wr_n q, y1 c q], y2, fun s' q => wr_k (by omega), by rw [wr_e]; rfl⟩ ?_
  rintro jj v z ⟨i, hi, hjj, rfl, z1, z2, z3, z4⟩ L' hL'
  unfold lX7_fillWorths_21
  simp only [nI_lit]
  rw [z1 234 (by decide), c1, q_le (by omega) (by omega)]
  refine ⟨fun u2 => ?_, fun u2 => ?_⟩
  · have e : i = C.length := by omega
    subst e
    rw [nI_add]
    refine hL _ _ _ (by omega) ⟨s + 1, by omega, rfl, rfl, z1, z2, fun s' q => ?_⟩
    by_cases e : s' = s
    · rw [e, z4]
    · rw [z3 s' (by omega), y3 s' (by omega)]
  have hi2 : i < C.length := by omega
  have v1 : vp_in (nI s) 256 := (vpi (by omega) (by decide)).mpr trivial
  have cs : Int32.toNatClampNeg (nI s) = s := cl_nI (by omega)
  have ci : Int32.toNatClampNeg (nI i) = i := cl_nI (by omega)
  rw [cs, ci, z4, z1 236 (by decide), (c3 i hi2).2, bI_bit (by omega), nI_add i 1]
  refine ⟨v1, (vpi (by omega) (by decide)).mpr trivial, v1, ?_⟩
  refine hL' _ _ _ (by omega) ⟨i + 1, by omega, rfl, rfl, fun c q => by rw [wr_n q, z1 c q], z2, fun s' q => by rw [wr_k (by omega), z3 s' q], ?_⟩
  rw [wr_e]
  show _ = nI (sBn (fun i => s.testBit i) (fun i => g (C.getD i 0)) i + (if s.testBit i then g (C.getD i 0) else 0))
  cases q : s.testBit i
  · show _ + nI 0 * _ = _
    rw [pk_mul, nI_add, Nat.zero_mul]; rfl
  · show _ + nI 1 * _ = _
    rw [pk_mul, nI_add, Nat.one_mul]; rfl
theorem c_cornerOf {x : ab_X} {Y : Nat → Nat → Int32} {D : Nat → UInt64} (r : RR x.1 Y D) (w : WW Y) {base : Nat} {C : List Nat} {g : Nat → Nat} (hC : C.length ≤ 8) (hm : ∀ i, i ∈ C → i < nv Y 246 31) (h : CS base C g x) {i : Nat} (hi : i < C.length) {K : Int32 → Prop} (k : K (nI (crF Y (C.getD i 0)))) : wX7_cornerOf (nI i) x K := by
  obtain ⟨c1, c2, c3⟩ := h
  have b31 := w.b31
  have hl := hm _ (gD_m hi)
  unfold wX7_cornerOf
  have ci : Int32.toNatClampNeg (nI i) = i := cl_nI (by omega)
  have cj : Int32.toNatClampNeg (nI (C.getD i 0)) = C.getD i 0 := cl_nI (by omega)
  have ec : x.1 (30 + 3 * C.getD i 0) 1 = nI (crF Y (C.getD i 0)) := by rw [(r.ho.2.2.1 _ hl).1]; exact (w.ho.1 _ hl).1.1
  rw [ci, (c3 i hi).1, cj, ec]
  exact ⟨(vpi (by omega) (by decide)).mpr trivial, (vpi (by omega) (by decide)).mpr trivial, k⟩
theorem crF_20 {Y : Nat → Nat → Int32} (w : WW Y) {h : Nat} (hh : h < nv Y 246 31) : crF Y h < 20 := by
  have := (w.ho.1 h hh).1.2
  unfold crF; omega
theorem wkF_le {Y : Nat → Nat → Int32} (w : WW Y) {a b : Nat} (ha : a < 20) (hb : b < 20) : wkF Y a b ≤ 1000000 := (w.wk.1 (20 * a + b) (by omega)).2
def caF (Y : Nat → Nat → Int32) (base : Nat) (C : List Nat) (a : Nat) : Nat := if a = 8 then base else crF Y (C.getD a 0)
def stT (Y : Nat → Nat → Int32) (base : Nat) (C : List Nat) (x : ab_X) : Prop := ∀ a t, t < C.length → (a < C.length ∨ a = 8) → x.1 239 (a * 8 + t) = nI (wkF Y (caF Y base C a) (crF Y (C.getD t 0)) + 10)
theorem frQ_c {x y : ab_X} {d : Nat} (h : ∀ c, c ≠ d → y.1 c = x.1 c) (e : y.2 = x.2) (h1 : 234 ≤ d) (h2 : d ≤ 242) : frQ x y := ⟨fun c k q => by rw [h c (by omega)], fun c k q => by unfold tk at q; rw [h c (by omega)], e⟩
theorem CS_c {x y : ab_X} {base : Nat} {C : List Nat} {g : Nat → Nat} {d : Nat} (h : CS base C g x) (f : ∀ c, c ≠ d → y.1 c = x.1 c) (h1 : 237 ≤ d) : CS base C g y := by
  obtain ⟨c1, c2, c3⟩ := h
  refine ⟨by rw [f 234 (by omega), c1], by rw [f 234 (by omega), c2], fun i hi => ?_⟩
  rw [f 235 (by omega), f 236 (by omega)]
  exact c3 i hi
theorem c_fillSteps {x : ab_X} {Y : Nat → Nat → Int32} {D : Nat → UInt64} (r : RR x.1 Y D) (w : WW Y) {base : Nat} {C : List Nat} {g : Nat → Nat} (hb : base < 20) (hC : C.length ≤ 8) (hm : ∀ i, i ∈ C → i < nv Y 246 31) (h : CS base C g x) {K : ab_X → Prop} (k : ∀ z : ab_X, (∀ c, c ≠ 239 → z.1 c = x.1 c) → z.2 = x.2 → stT Y base C z → K z) : wX7_fillSteps x K := by
  unfold wX7_fillSteps
  refine Lp2.ind (fun ii v y => ∃ t, t ≤ C.length ∧ ii = C.length - t ∧ v = nI t ∧ (∀ c, c ≠ 239 → y.1 c = x.1 c) ∧ y.2 = x.2 ∧ ∀ a t', t' < t → (a < C.length ∨ a = 8) → y.1 239 (a * 8 + t') = nI (wkF Y (caF Y base C a) (crF Y (C.getD t' 0)) + 10)) C.length ⟨0, Nat.zero_le _, rfl, rfl, fun _ _ => rfl, rfl, fun a t' q => absurd q (Nat.not_lt_zero t')⟩ ?_
  rintro ii v y ⟨t, ht, hii, rfl, y1, y2, y3⟩ L hL
  unfold lX7_fillSteps_2
  rw [y1 234 (by decide), h.1, q_le (by omega) (by omega)]
  refine ⟨fun u => ?_, fun u => ?_⟩
  · have e : t = C.length := by omega
    subst e
    exact k y y1 y2 (fun a t' p q => y3 a t' p q)
  have ht2 : t < C.length := by omega
  refine Lp2.ind (fun ii v z => ∃ a, a ≤ C.length ∧ ii = C.length - a ∧ v = nI a ∧ (∀ c, c ≠ 239 → z.1 c = x.1 c) ∧ z.2 = x.2 ∧ (∀ a' t', t' < t → (a' < C.length ∨ a' = 8) → z.1 239 (a' * 8 + t') = nI (wkF Y (caF Y base C a') (crF Y (C.getD t' 0)) + 10)) ∧ ∀ a', a' < a → z.1 239 (a' * 8 + t) = nI (wkF Y (caF Y base C a') (crF Y (C.getD t 0)) + 10)) C.length ⟨0, Nat.zero_le _, rfl, rfl, y1, y2, y3, fun a' q => absurd q (Nat.not_lt_zero a')⟩ ?_
  rintro jj v z ⟨a, ha, hjj, rfl, z1, z2, z3, z4⟩ L' hL'
  have fz : frQ x z := frQ_c z1 z2 (by decide) (by decide)
  have rz := fz.r w r
  have cz := CS_c h z1 (by decide)
  have c20 := crF_20 w (hm _ (gD_m ht2))
  unfold lX7_fillSteps_12
  rw [cz.1, cz.2.1, q_le (by omega) (by omega)]
  refine ⟨fun u2 => ?_, fun u2 => ?_⟩
  · refine c_cornerOf rz w hC hm cz ht2 ?_
    refine c_walk rz w hb c20 ?_
    have wb := wkF_le w hb c20
    have e1 : (64 : Int32) + nI t = nI (8 * 8 + t) := nI_add 64 t
    have e2 : nI t + 1 = nI (t + 1) := nI_add t 1
    have e3 : nI (nv Y 251 (20 * base + crF Y (C.getD t 0))) + 10 = nI (wkF Y base (crF Y (C.getD t 0)) + 10) := nI_add _ 10
    rw [e1, e2, e3, cl_nI (by omega)]
    refine ⟨(vpi (by omega) (by decide)).mpr trivial, ?_⟩
    refine hL _ _ _ (by omega) ⟨t + 1, by omega, rfl, rfl, fun c q => by rw [wr_n q, z1 c q], z2, fun a' t' p q => ?_⟩
    by_cases e : a' = 8 ∧ t' = t
    · rw [e.1, e.2, wr_e]; rfl
    · rw [wr_k (by omega)]
      by_cases et : t' = t
      · rw [et]; exact z4 a' (by omega)
      · exact z3 a' t' (by omega) q
  · have ha2 : a < C.length := by omega
    have d20 := crF_20 w (hm _ (gD_m ha2))
    refine c_cornerOf rz w hC hm cz ha2 ?_
    refine c_cornerOf rz w hC hm cz ht2 ?_
    refine c_walk rz w d20 c20 ?_
    have wb := wkF_le w d20 c20
    have e1 : nI a * 8 + nI t = nI (a * 8 + t) := by
      show nI a * nI 8 + nI t = _
      rw [pk_mul, nI_add]
    have e2 : nI a + 1 = nI (a + 1) := nI_add a 1
    have e3 : nI (nv Y 251 (20 * crF Y (C.getD a 0) + crF Y (C.getD t 0))) + 10 = nI (wkF Y (crF Y (C.getD a 0)) (crF Y (C.getD t 0)) + 10) := nI_add _ 10
    rw [e1, e2, e3, cl_nI (by omega)]
    refine ⟨(vpi (by omega) (by decide)).mpr trivial, ?_⟩
    refine hL' _ _ _ (by omega) ⟨a + 1, by omega, rfl, rfl, fun c q => by rw [wr_n q, z1 c q], z2, fun a' t' p q => ?_, fun a' q => ?_⟩
    · rw [wr_k (by omega)]; exact z3 a' t' p q
    · by_cases e : a' = a
      · rw [e, wr_e]
        unfold caF
        rw [if_neg (by omega)]
      · rw [wr_k (by omega)]; exact z4 a' (by omega)
