/-! TEXTS, 3: the program reads. -/
theorem y1 {A C : Prop} (h : C) : ((nI 1 = 0 → A) ∧ (¬ nI 1 = 0 → C)) := ⟨fun u => absurd u (by decide), fun _ => h⟩
theorem y0 {A C : Prop} (h : A) : ((nI 0 = 0 → A) ∧ (¬ nI 0 = 0 → C)) := ⟨fun _ => h, fun u => absurd rfl u⟩
theorem x1 {A C : Prop} (h : A) : ((¬ nI 1 = 0 → A) ∧ (nI 1 = 0 → C)) := ⟨fun _ => h, fun u => absurd u (by decide)⟩
theorem x0 {A C : Prop} (h : C) : ((¬ nI 0 = 0 → A) ∧ (nI 0 = 0 → C)) := ⟨fun u => absurd rfl u, fun _ => h⟩
def bI (c : Nat) : Int32 := if c = 256 then -nI 1 else nI c
theorem bI_e {c k : Nat} (hc : c ≤ 256) (hk : k < 256) : bI c = nI k ↔ c = k := by
  unfold bI
  by_cases e : c = 256
  · rw [if_pos e, n1_eq (by omega)]; exact ⟨False.elim, fun u => by omega⟩
  · rw [if_neg e, q_eq (by omega) (by omega)]
theorem bI_o {c : Nat} (hc : c ≤ 256) : bI c = -nI 1 ↔ c = 256 := by
  unfold bI
  by_cases e : c = 256
  · rw [if_pos e]; exact ⟨fun _ => e, fun _ => rfl⟩
  · rw [if_neg e, n1_eq' (by omega)]; exact ⟨False.elim, fun u => absurd u e⟩
theorem bI_n {c : Nat} (hc : c ≠ 256) : bI c = nI c := if_neg hc
def stC (f : Nat → Int32) (c : List Nat) : Prop := ∀ i, i < c.length → f i = nI (c.getD i 0)
theorem stC_nil {f : Nat → Int32} : stC f [] := fun i h => absurd h (Nat.not_lt_zero i)
theorem stC_app {f f' : Nat → Int32} {c : List Nat} {w : Nat} (h : stC f c) (e : ∀ i, i < c.length → f' i = f i) (e2 : f' c.length = nI w) : stC f' (c ++ [w]) := by
  intro i hi
  rw [List.length_append] at hi
  have hi : i < c.length + 1 := hi
  by_cases q : i < c.length
  · rw [e i q, h i q]
    congr 1
    simp [List.getD_eq_getElem?_getD, List.getElem?_append_left q]
  · have : i = c.length := by omega
    subst this
    rw [e2]
    congr 1
    simp [List.getD_eq_getElem?_getD]
/-- a text: bytes, length, letters -/
def TX (B : Nat → Nat) (n s : Nat) : Prop := n ≤ 200 ∧ s < 3 ∧ ∀ i, i < n → B i < 256
theorem TX.cb {B : Nat → Nat} {n s : Nat} (t : TX B n s) (p : Nat) : cB B n p ≤ 256 := by
  unfold cB
  split
  · have := t.2.2 _ (by assumption); omega
  · omega
def PRd (B : Nat → Nat) (n s : Nat) (x : ab_X) (p : Nat) (c : List Nat) : Prop := x.1 158 1 = nI n ∧ x.1 158 2 = nI p ∧ (∀ i, i < n → x.1 159 i = nI (B i)) ∧ x.2.2.2.1 = 1000000 + s ∧ x.1 160 1 = nI c.length ∧ stC (x.1 161) c ∧ p ≤ n
def pf (x y : ab_X) : Prop := (∀ c k, ¬ (c = 158 ∧ k = 2) → ¬ (c = 160 ∧ k = 1) → c ≠ 161 → y.1 c k = x.1 c k) ∧ y.2 = x.2
theorem pf.rfl' {x : ab_X} : pf x x := ⟨fun _ _ _ _ _ => rfl, rfl⟩
theorem pf.tr {x y z : ab_X} (h : pf x y) (h2 : pf y z) : pf x z := ⟨fun c k a b d => (h2.1 c k a b d).trans (h.1 c k a b d), h2.2.trans h.2⟩
theorem PRd.mv {B : Nat → Nat} {n s : Nat} {x : ab_X} {p q : Nat} {c : List Nat} (h : PRd B n s x p c) (hq : q ≤ n) : PRd B n s (wr x 158 2 (nI q)) q c ∧ pf x (wr x 158 2 (nI q)) := by
  obtain ⟨h1, h2, h3, h4, h5, h6, h7⟩ := h
  refine ⟨⟨by rw [wr_k (by decide)]; exact h1, wr_e, fun i hi => by rw [wr_n (by decide)]; exact h3 i hi, h4, by rw [wr_n (by decide)]; exact h5, by rw [wr_n (by decide)]; exact h6, hq⟩, ⟨fun c k a b d => wr_ne (by omega), rfl⟩⟩
theorem c_addT {B : Nat → Nat} {n s : Nat} {x : ab_X} {p : Nat} {c : List Nat} {k v : Nat} (hk : k < 20) (hv : v < 65536) (h : PRd B n s x p c) (hc : c.length < 200) {K : ab_X → Prop} (kk : ∀ z, PRd B n s z p (c ++ [wd k v]) → pf x z → K z) : wX9_add 160 (nI k) (nI v) x K := by
  obtain ⟨h1, h2, h3, h4, h5, h6, h7⟩ := h
  unfold wX9_add
  have e := wd_e hk hv
  simp (disch := first | assumption | omega) only [prv_n, nxt_n, q_sw, mc4, mc6, mc8, mc20, mc24, mc100, nv_rd, nb_rd, wr_rd, nI_lit, nI_add, pk_mul, pk_sub, q_div, cl_nI, vpi, q_eq, q_le, q_lt, n1_eq, n1_eq', n1_le, n1_lt, n1_ge, n1_gt, i_0m1, nlt_t, nlt_f, nle_t, nle_f, neq_f, f_below, f_within, f_isCorner, f_isIn, f_isCornerM, f_isStreet, f_isHouse, f_isCrew, f_isRow, f_has10, f_has0, jx_I, jx_N, jx_m1, jr_I, jr_N1, jr_N2, wr_2, isB_0, isB_1, true_and, and_true, and_self, false_and, and_false, true_or, or_true, false_or, or_false, not_true_eq_false, not_false_eq_true, forall_const, implies_true, false_implies, ne_eq, eq_self, if_true, if_false, Nat.zero_add, Nat.add_zero, Nat.mul_zero, Nat.zero_mul, Nat.mul_one, Nat.one_mul, Nat.add_sub_cancel, Nat.reduceEqDiff, Nat.reduceAdd, Nat.reduceMul, Nat.reduceSub, Nat.reduceLeDiff, Nat.reduceLT, Nat.reduceDiv, Nat.reduceMod, h5, e]
  refine kk _ ⟨?_, ?_, fun i hi => ?_, h4, ?_, ?_, h7⟩ ⟨fun c k a b d => by simp (disch := omega) only [wr_ne], rfl⟩
  · simp (disch := omega) only [wr_ne]; exact h1
  · simp (disch := omega) only [wr_ne]; exact h2
  · simp (disch := omega) only [wr_ne]; exact h3 i hi
  · rw [wr_e, List.length_append]; rfl
  · rw [wr_n (by decide)]
    exact stC_app h6 (fun i hi => wr_k (by omega)) wr_e
theorem c_peekT {B : Nat → Nat} {n s : Nat} (t : TX B n s) {x : ab_X} {p : Nat} {c : List Nat} (h : PRd B n s x p c) {K : Int32 → ab_X → Prop} (k : ∀ z, PRd B n s z (sk B n p) c → pf x z → K (bI (cB B n p)) z) : wX8_peek x K := by
  have hn := t.1
  have hp := h.2.2.2.2.2.2
  unfold wX8_peek
  refine Lp2.ind (fun ii a y => ∃ i, ii = n - (p + i) ∧ p + i ≤ n ∧ a = nI i ∧ PRd B n s y (p + i) c ∧ pf x y ∧ sk B n (p + i) = sk B n p) (n - p) ⟨0, rfl, hp, rfl, h, pf.rfl', rfl⟩ ?_
  rintro ii a y ⟨i, hii, hi, rfl, hy, hf, hs⟩ L hL
  obtain ⟨h1, h2, h3, h4, h5, h6, h7⟩ := hy
  have last : ¬ (p + i < n ∧ B (p + i) = 32) → wX8_peek_50 y K := by
    intro q
    have e : sk B n p = p + i := by rw [← hs]; exact sk_stop q
    rw [e] at k
    have k' := k y ⟨h1, h2, h3, h4, h5, h6, h7⟩ hf
    unfold cB at k'
    rw [e] at k'
    unfold wX8_peek_50
    rw [h1, h2, q_le (by omega) (by omega)]
    by_cases q2 : p + i < n
    · rw [if_pos q2, bI_n (by have := t.2.2 _ q2; omega)] at k'
      refine ⟨fun u => absurd u (by omega), fun _ => ⟨(vpi (by omega) (by omega)).mpr trivial, ?_⟩⟩
      rw [cl_nI (by omega), h3 _ q2]
      exact k'
    · rw [if_neg q2] at k'
      exact ⟨fun _ => k', fun u => absurd (by omega) u⟩
  unfold lX8_peek_2
  refine ⟨fun q => last (fun u => ?_), fun _ => ?_⟩
  · simp only [nI_lit] at q
    rw [q_le (by omega) (by omega)] at q
    omega
  · rw [h1, h2, q_le (by omega) (by omega), cl_nI (by omega)]
    refine ⟨fun q => last (by omega), fun q => ⟨(vpi (by omega) (by omega)).mpr trivial, ?_⟩⟩
    have bb := t.2.2 (p + i) (by omega)
    rw [h3 _ (by omega)]
    simp only [nI_lit]
    rw [q_eq (by omega) (by omega), nI_add, nI_add]
    refine ⟨fun q2 => last (by omega), fun q2 => ?_⟩
    have mv := PRd.mv ⟨h1, h2, h3, h4, h5, h6, h7⟩ (q := p + i + 1) (by omega)
    refine hL _ _ _ (by omega) ⟨i + 1, rfl, by omega, rfl, mv.1, hf.tr mv.2, ?_⟩
    rw [show p + (i + 1) = p + i + 1 by omega, ← sk_step (by omega) q2]
    exact hs
theorem PRd.nx {B : Nat → Nat} {n s : Nat} {x : ab_X} {p : Nat} {c : List Nat} (h : PRd B n s x p c) (hq : p < n) : PRd B n s (wr x 158 2 (x.1 158 2 + 1)) (p + 1) c ∧ pf x (wr x 158 2 (x.1 158 2 + 1)) := by
  have e : x.1 158 2 + 1 = nI (p + 1) := by rw [h.2.1]; exact nI_add p 1
  rw [e]
  exact h.mv (by omega)
theorem PRd.le {B : Nat → Nat} {n s : Nat} {x : ab_X} {p : Nat} {c : List Nat} (h : PRd B n s x p c) : p ≤ n := h.2.2.2.2.2.2
theorem c_passT {B : Nat → Nat} {n s : Nat} (t : TX B n s) {x : ab_X} {p z : Nat} {c : List Nat} (hz : z < 256) (h : PRd B n s x p c) {K : Int32 → ab_X → Prop} (k1 : cB B n p = z → ∀ y, PRd B n s y (sk B n p + 1) c → pf x y → K (nI 1) y) (k0 : cB B n p ≠ z → ∀ y, PRd B n s y (sk B n p) c → pf x y → K (nI 0) y) : wX8_passes (nI z) x K := by
  unfold wX8_passes
  refine c_peekT t h (fun y hy fy => ?_)
  rw [bI_e (t.cb p) hz]
  refine ⟨fun e => ?_, fun e => k0 e y hy fy⟩
  have lt := (cB_lt e (by omega)).1
  exact k1 e _ (hy.nx lt).1 (fy.tr (hy.nx lt).2)
def PSp (B : Nat → Nat) (n s : Nat) (F : ab_X → (Int32 → ab_X → Prop) → Prop) (X : Nat → PR) : Prop := ∀ x p c0 K, PRd B n s x p c0 → c0.length ≤ p → (∀ q, X p = (q, none) → ∀ z, pf x z → z.1 158 2 = nI q → K (nI 0) z) → (∀ q c v, X p = (q, some (c, v)) → ∀ z, pf x z → PRd B n s z q (c0 ++ c) → K (nI 1) z) → F x K
def gL (z k : Int32) (F : ab_X → (Int32 → ab_X → Prop) → Prop) (K : Int32 → ab_X → Prop) (L12 : Int32 → ab_X → Prop) (v2 : Int32) (x : ab_X) : Prop := ((200 ≤ v2 → K 1 x) ∧ (¬ 200 ≤ v2 → wX8_passes z x (fun r3 x4 => ((r3 = 0 → K 1 x4) ∧ (¬ r3 = 0 → F x4 (fun r5 x6 => ((¬ r5 = 0 → wX9_add 160 k 0 x6 (fun x7 => L12 (v2 + 1) x7)) ∧ (r5 = 0 → K 0 x6))))))))
def op1 (z k c : Nat) : Nat := if c = z then k else 0
theorem c_chn {B : Nat → Nat} {n s m h z k : Nat} (t : TX B n s) {F : ab_X → (Int32 → ab_X → Prop) → Prop} {X : Nat → PR} {P : Int32 → Prop} (hF : PSp B n s F X) (w : WX n s X m h P) (hm : 1 ≤ m) (hz : z < 256) (hk : k < 20) (hk1 : 1 ≤ k) {x : ab_X} {p : Nat} {c0 c : List Nat} {v : (Nat → Int32) → Int32} {K : Int32 → ab_X → Prop} (hx : PRd B n s x p (c0 ++ c)) (hl : c0.length + c.length ≤ p) (h1 : 1 ≤ p) (k0 : ∀ q, chn B n (op1 z k) X (n + 1) p c v = (q, none) → ∀ y, pf x y → y.1 158 2 = nI q → K (nI 0) y) (k1 : ∀ q c' v', chn B n (op1 z k) X (n + 1) p c v = (q, some (c', v')) → ∀ y, pf x y → PRd B n s y q (c0 ++ c') → K (nI 1) y) : Lp2 (gL (nI z) (nI k) F K) 0 x := by
  have hn := t.1
  refine Lp2.ind (fun ii a y => ∃ p' i c' v', a = nI i ∧ i + 1 ≤ p' ∧ n < p' + ii ∧ PRd B n s y p' (c0 ++ c') ∧ c0.length + c'.length ≤ p' ∧ pf x y ∧ chn B n (op1 z k) X ii p' c' v' = chn B n (op1 z k) X (n + 1) p c v) (n + 1) ⟨p, 0, c, v, rfl, h1, by omega, hx, hl, pf.rfl', rfl⟩ ?_
  rintro ii a y ⟨p', i, c', v', rfl, hi, hii, hy, hl', fy, hR⟩ L hL
  have hp' := hy.le
  cases ii with
  | zero => omega
  | succ f =>
    unfold gL
    refine ⟨fun q => absurd q (by simp only [nI_lit]; rw [q_le (by omega) (by omega)]; omega), fun _ => ?_⟩
    obtain ⟨s1, s2, s3⟩ := sk_b (B := B) hp'
    unfold chn at hR
    refine c_passT t hz hy (fun e u hu fu => y1 ?_) (fun e u hu fu => y0 ?_)
    · have o : op1 z k (cB B n p') = k := if_pos e
      rw [o, if_neg (by omega)] at hR
      have lt := (cB_lt e (by omega)).1
      have wx := w (sk B n p' + 1) (by omega)
      refine hF u (sk B n p' + 1) (c0 ++ c') _ hu (by rw [List.length_append]; omega) (fun q hq u2 f2 a2 => x0 ?_) (fun q c2 v2 hq u2 f2 a2 => x1 ?_)
      · rw [hq] at hR
        exact k0 q hR.symm u2 ((fy.tr fu).tr f2) a2
      · rw [hq] at hR
        obtain ⟨a1, a3, a4, a5, a6⟩ := (wx q).2 c2 v2 hq
        rw [List.append_assoc] at a2
        have ln : (c0 ++ (c' ++ c2)).length < 200 := by simp only [List.length_append]; omega
        refine c_addT hk (by decide) a2 ln (fun u3 a7 f3 => ?_)
        rw [List.append_assoc] at a7
        have e5 : nI i + 1 = nI (i + 1) := nI_add i 1
        rw [e5]
        refine hL _ _ _ (Nat.lt_succ_self f) ⟨q, i + 1, c' ++ c2 ++ [wd k 0], _, rfl, by omega, by omega, a7, ?_, ((fy.tr fu).tr f2).tr f3, hR⟩
        simp only [List.length_append, List.length_cons, List.length_nil]
        omega
    · have o : op1 z k (cB B n p') = 0 := if_neg e
      rw [if_pos o] at hR
      exact k1 _ _ _ hR.symm u (fy.tr fu) hu
theorem c_isDigit {c : Nat} (hc : c ≤ 256) {x : ab_X} {K : Int32 → Prop} (k : if 48 ≤ c ∧ c ≤ 57 then K (nI 1) else K (nI 0)) : wX8_isDigit (bI c) x K := by
  unfold wX8_isDigit
  simp only [nI_lit]
  by_cases e : c = 256
  · subst e
    rw [if_neg (by omega)] at k
    exact ⟨fun _ => k, fun u => absurd (by decide) u⟩
  · rw [bI_n e, q_lt (by omega) (by omega), q_lt (by omega) (by omega)]
    by_cases q : 48 ≤ c ∧ c ≤ 57
    · rw [if_pos q] at k
      exact ⟨fun u => absurd u (by omega), fun _ => ⟨fun u => absurd u (by omega), fun _ => k⟩⟩
    · rw [if_neg q] at k
      exact ⟨fun _ => k, fun _ => ⟨fun _ => k, fun u => absurd u (by omega)⟩⟩
theorem c_numT {B : Nat → Nat} {n s mx kd : Nat} (t : TX B n s) (h4 : mx ≤ 4) (hk : kd < 20) : PSp B n s (fun x K => wX8_number (nI mx) (nI kd) x K) (pNum B n mx kd) := by
  intro x p c0 K hx hl k0 k1
  have hn := t.1
  unfold wX8_number
  refine c_peekT t hx (fun y hy fy => ?_)
  refine c_isDigit (t.cb p) ?_
  obtain ⟨s1, s2, s3⟩ := sk_b (B := B) hx.le
  unfold pNum at k0 k1
  by_cases e : 48 ≤ cB B n p ∧ cB B n p ≤ 57
  case neg =>
    rw [if_neg e]
    have e2 : ¬ (sk B n p < n ∧ (48 ≤ B (sk B n p) ∧ B (sk B n p) ≤ 57)) := by
      rintro ⟨u1, u2⟩
      apply e
      have : cB B n p = B (sk B n p) := if_pos u1
      rw [this]; exact u2
    rw [if_neg e2] at k0
    exact x0 (k0 _ rfl y fy hy.2.1)
  rw [if_pos e]
  obtain ⟨l1, l2⟩ := cB_lt (B := B) (n := n) (p := p) rfl (by omega)
  rw [if_pos ⟨l1, by rw [l2]; exact e⟩] at k0 k1
  refine x1 ?_
  generalize hT : nuF B n mx (mx + 1) 0 (sk B n p) 0 = T at k0 k1
  refine Lp3.ind (fun ii a b z => ∃ i p' v, (i = 0 → p' = sk B n p) ∧ ii = mx + 1 - i ∧ i ≤ mx + 1 ∧ a = nI v ∧ b = nI i ∧ PRd B n s z p' c0 ∧ sk B n p + i ≤ p' + (if i = mx + 1 then 1 else 0) ∧ v < 10 ^ i ∧ pf x z ∧ nuF B n mx (mx + 1 - i) i p' v = T) (mx + 1) ⟨0, sk B n p, 0, fun _ => rfl, rfl, by omega, rfl, rfl, hy, by omega, by decide, fy, hT⟩ ?_
  rintro ii a b z ⟨i, p', v, hi0, hii, hi, rfl, rfl, hz, hip, hv, fz, hR⟩ L hL
  unfold lX8_number_17
  rw [q_lt (by omega) (by omega)]
  by_cases ei : i = mx + 1
  · rw [ei, Nat.sub_self] at hR
    have hR : (p', none) = T := hR
    rw [← hR] at k0
    exact ⟨fun _ => k0 _ rfl z fz hz.2.1, fun u => absurd (by omega) u⟩
  have pw : 10 ^ i ≤ 10 ^ 4 := Nat.pow_le_pow_right (by decide) (by omega)
  have hp' := hz.le
  rw [if_neg ei] at hip
  obtain ⟨f, hf⟩ : ∃ f, mx + 1 - i = f + 1 := ⟨mx - i, by omega⟩
  rw [hf] at hR
  unfold nuF at hR
  have ok : (n ≤ p' ∨ ¬ (48 ≤ B p' ∧ B p' ≤ 57)) → 1 ≤ i → wX8_number_49 (nI kd) (nI v) z K := by
    intro q i1
    rw [if_pos q] at hR
    rw [← hR] at k1
    unfold wX8_number_49
    exact c_addT hk (by omega) hz (by omega) (fun u hu fu => k1 _ _ _ rfl u (fz.tr fu) hu)
  have i0 : i = 0 → p' < n ∧ (48 ≤ B p' ∧ B p' ≤ 57) := by
    intro u
    rw [hi0 u, l2]
    exact ⟨l1, e⟩
  refine ⟨fun u => absurd u (by omega), fun _ => ?_⟩
  rw [hz.1, hz.2.1, q_le (by omega) (by omega), cl_nI (by omega)]
  refine ⟨fun q => ok (Or.inl q) (by by_cases u : i = 0; · have := (i0 u).1; omega
                                     · omega), fun q => ⟨(vpi (by omega) (by omega)).mpr trivial, ?_⟩⟩
  have bb := t.2.2 p' (by omega)
  rw [hz.2.2.1 p' (by omega)]
  have e3 : nI (B p') = bI (B p') := (bI_n (by omega)).symm
  rw [e3]
  refine c_isDigit (by omega) ?_
  rw [← e3]
  by_cases d : 48 ≤ B p' ∧ B p' ≤ 57
  case neg =>
    rw [if_neg d]
    exact x0 (ok (Or.inr d) (by by_cases u : i = 0; · exact absurd (i0 u).2 d
                                · omega))
  rw [if_pos d]
  refine x1 ?_
  rw [q_le (by omega) (by omega)]
  rw [if_neg (by omega)] at hR
  have e6 : nI i + 1 = nI (i + 1) := nI_add i 1
  by_cases c2 : i < mx
  · rw [if_pos c2] at hR
    refine ⟨fun u => absurd u (by omega), fun _ => ⟨(vpi (by omega) (by omega)).mpr trivial, ?_⟩⟩
    have e7 : nI v * 10 + nI (B p') - 48 = nI (10 * v + (B p' - 48)) := by
      simp only [nI_lit]
      rw [pk_mul, nI_add, pk_sub (by omega)]
      congr 1; omega
    have e8 : nI p' + 1 = nI (p' + 1) := nI_add p' 1
    rw [e6, e7, e8]
    have mv := hz.mv (q := p' + 1) (by omega)
    refine hL (mx + 1 - (i + 1)) _ _ _ (by omega) ⟨i + 1, p' + 1, _, fun u => by omega, rfl, by omega, rfl, rfl, mv.1, by split <;> omega, by rw [Nat.pow_succ]; omega, fz.tr mv.2, ?_⟩
    rw [show mx + 1 - (i + 1) = f by omega]
    exact hR
  · rw [if_neg c2] at hR
    refine ⟨fun _ => ?_, fun u => absurd (by omega) u⟩
    rw [e6]
    refine hL (mx + 1 - (i + 1)) _ _ _ (by omega) ⟨i + 1, p', v, fun u => by omega, rfl, by omega, rfl, rfl, hz, by rw [if_pos (by omega)]; omega, by rw [Nat.pow_succ]; omega, fz, ?_⟩
    rw [show mx + 1 - (i + 1) = 0 by omega]
    exact hR
