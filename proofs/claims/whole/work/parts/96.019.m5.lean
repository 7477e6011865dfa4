/-! TEXTS, 5: the reference reads. -/
def s8 (b : Nat) : Int32 := (nI b).toInt8.toInt32
theorem s8_and : ∀ b, b < 256 → s8 b &&& nI 255 = nI b := by decide +kernel
theorem s8_32 : ∀ b, b < 256 → (s8 b = nI 32 ↔ b = 32) := by decide +kernel
theorem s8_d : ∀ b, b < 256 → ((48 ≤ b ∧ b ≤ 57) → ¬ s8 b < nI 48 ∧ ¬ nI 57 < s8 b ∧ s8 b = nI b) ∧ (¬ (48 ≤ b ∧ b ≤ 57) → s8 b < nI 48 ∨ (¬ s8 b < nI 48 ∧ nI 57 < s8 b)) := by decide +kernel
/-- where the reference's text lies -/
def TR5 (n tc fr : Nat) : Prop := tc ≠ 246 ∧ tc ≠ 307 ∧ ∃ N, isBA tc N ∧ fr + n ≤ N ∧ N < 100000
def RRd (B : Nat → Nat) (n s tc fr : Nat) (x : ab_X) (p d : Nat) : Prop := x.2.2.2.2.1 = tc ∧ x.2.2.2.2.2 = 1000000 + s ∧ x.1 246 78 = nI fr ∧ x.1 246 79 = nI n ∧ x.1 246 80 = nI p ∧ x.1 246 81 = -nI 1 ∧ x.1 246 82 = nI (8 - d) ∧ (∀ i, i < n → x.1 tc (fr + i) = s8 (B i)) ∧ p ≤ n
def rf (x y : ab_X) : Prop := (∀ c k, ¬ (c = 246 ∧ (k = 80 ∨ k = 81 ∨ k = 82)) → y.1 c k = x.1 c k) ∧ y.2 = x.2
theorem rf.rfl' {x : ab_X} : rf x x := ⟨fun _ _ _ => rfl, rfl⟩
theorem rf.tr {x y z : ab_X} (h : rf x y) (h2 : rf y z) : rf x z := ⟨fun c k a => (h2.1 c k a).trans (h.1 c k a), h2.2.trans h.2⟩
theorem rf.w80 {x : ab_X} {v : Int32} : rf x (wr x 246 80 v) := ⟨fun c k a => wr_ne (by omega), rfl⟩
theorem rf.w81 {x : ab_X} {v : Int32} : rf x (wr x 246 81 v) := ⟨fun c k a => wr_ne (by omega), rfl⟩
theorem rf.w82 {x : ab_X} {v : Int32} : rf x (wr x 246 82 v) := ⟨fun c k a => wr_ne (by omega), rfl⟩
theorem rf.ev {x y : ab_X} (h : rf x y) : y.1 307 = x.1 307 := funext (fun k => h.1 307 k (by omega))
theorem RRd.le {B : Nat → Nat} {n s tc fr : Nat} {x : ab_X} {p d : Nat} (h : RRd B n s tc fr x p d) : p ≤ n := h.2.2.2.2.2.2.2.2
theorem RRd.ok {B : Nat → Nat} {n s tc fr : Nat} {x : ab_X} {p d : Nat} (h : RRd B n s tc fr x p d) : x.1 246 81 = -nI 1 := h.2.2.2.2.2.1
theorem RRd.mv {B : Nat → Nat} {n s tc fr : Nat} (tr : TR5 n tc fr) {x : ab_X} {p q d : Nat} (h : RRd B n s tc fr x p d) (hq : q ≤ n) : RRd B n s tc fr (wr x 246 80 (nI q)) q d := by
  obtain ⟨h1, h2, h3, h4, h5, h6, h7, h8, h9⟩ := h
  exact ⟨h1, h2, by rw [wr_k (by decide)]; exact h3, by rw [wr_k (by decide)]; exact h4, wr_e, by rw [wr_k (by decide)]; exact h6, by rw [wr_k (by decide)]; exact h7, fun i hi => by rw [wr_n tr.1]; exact h8 i hi, hq⟩
theorem RRd.nx {B : Nat → Nat} {n s tc fr : Nat} (tr : TR5 n tc fr) {x : ab_X} {p d : Nat} (h : RRd B n s tc fr x p d) (hq : p < n) : RRd B n s tc fr (wr x 246 80 (x.1 246 80 + 1)) (p + 1) d := by
  have e : x.1 246 80 + 1 = nI (p + 1) := by rw [h.2.2.2.2.1]; exact nI_add p 1
  rw [e]
  exact h.mv tr (by omega)
theorem RRd.dp {B : Nat → Nat} {n s tc fr : Nat} (tr : TR5 n tc fr) {x : ab_X} {p d d' : Nat} {v : Int32} (h : RRd B n s tc fr x p d) (hv : v = nI (8 - d')) : RRd B n s tc fr (wr x 246 82 v) p d' := by
  obtain ⟨h1, h2, h3, h4, h5, h6, h7, h8, h9⟩ := h
  exact ⟨h1, h2, by rw [wr_k (by decide)]; exact h3, by rw [wr_k (by decide)]; exact h4, by rw [wr_k (by decide)]; exact h5, by rw [wr_k (by decide)]; exact h6, by rw [wr_e]; exact hv, fun i hi => by rw [wr_n tr.1]; exact h8 i hi, h9⟩
/-- the byte at hand -/
theorem RRd.rd {B : Nat → Nat} {n s tc fr : Nat} (tr : TR5 n tc fr) {x : ab_X} {p d : Nat} (h : RRd B n s tc fr x p d) (hp : p < n) : (∃ n, isBA x.2.2.2.2.1 n ∧ vp_in ((x.1 246 78) + (x.1 246 80)) n) ∧ x.1 x.2.2.2.2.1 (Int32.toNatClampNeg ((x.1 246 78) + (x.1 246 80))) = s8 (B p) := by
  obtain ⟨h1, h2, h3, h4, h5, h6, h7, h8, h9⟩ := h
  obtain ⟨-, -, N, b1, b2, b3⟩ := tr
  rw [h1, h3, h5, nI_add, cl_nI (by omega)]
  exact ⟨⟨N, b1, vp_in_nI (by omega) (by omega)⟩, h8 p hp⟩
theorem m_lookT {B : Nat → Nat} {n s tc fr : Nat} (t : TX B n s) (tr : TR5 n tc fr) {x : ab_X} {p d : Nat} (h : RRd B n s tc fr x p d) {K : Int32 → ab_X → Prop} (k : ∀ z, RRd B n s tc fr z (sk B n p) d → rf x z → K (bI (cB B n p)) z) : wX12_look x K := by
  have hn := t.1
  unfold wX12_look
  refine Lp1.ind (fun ii y => ∃ p', ii = n - p' ∧ RRd B n s tc fr y p' d ∧ rf x y ∧ sk B n p' = sk B n p) (n - p) ⟨p, rfl, h, rf.rfl', rfl⟩ ?_
  rintro ii y ⟨p', hii, hy, hf, hs⟩ L hL
  have hp' := hy.le
  have last : ¬ (p' < n ∧ B p' = 32) → wX12_look_43 y K := by
    intro q
    have e : sk B n p = p' := by rw [← hs]; exact sk_stop q
    rw [e] at k
    have k' := k y hy hf
    unfold cB at k'
    rw [e] at k'
    unfold wX12_look_43
    by_cases q2 : p' < n
    · obtain ⟨r1, r2⟩ := hy.rd tr q2
      have bb := t.2.2 _ q2
      rw [if_pos q2, bI_n (by omega)] at k'
      rw [hy.2.2.2.1, hy.2.2.2.2.1, q_le (by omega) (by omega)]
      refine ⟨fun u => absurd u (by omega), fun _ => ?_⟩
      rw [← hy.2.2.2.2.1]
      refine ⟨r1, ?_⟩
      rw [r2]
      simp only [nI_lit]
      rw [s8_and _ bb]
      exact k'
    · rw [if_neg q2] at k'
      rw [hy.2.2.2.1, hy.2.2.2.2.1, q_le (by omega) (by omega)]
      exact ⟨fun _ => k', fun u => absurd (by omega) u⟩
  unfold lX12_look_0
  have e4 : ((y.1 246 79) ≤ (y.1 246 80)) = (n ≤ p') := by rw [hy.2.2.2.1, hy.2.2.2.2.1]; exact propext (q_le (by omega) (by omega))
  rw [e4]
  refine ⟨fun q => last (by omega), fun q => ?_⟩
  obtain ⟨r1, r2⟩ := hy.rd tr (by omega)
  refine ⟨r1, ?_⟩
  have bb := t.2.2 p' (by omega)
  rw [r2]
  simp only [nI_lit]
  rw [s8_32 _ bb]
  refine ⟨fun q2 => last (by omega), fun q2 => ?_⟩
  have e5 : y.1 246 80 + nI 1 = nI (p' + 1) := by rw [hy.2.2.2.2.1, nI_add]
  rw [e5]
  refine hL _ _ (by omega) ⟨p' + 1, rfl, hy.mv tr (by omega), hf.tr rf.w80, ?_⟩
  rw [← sk_step (by omega) q2]
  exact hs
theorem m_stopT {B : Nat → Nat} {n s tc fr : Nat} {x : ab_X} {p d : Nat} (h : RRd B n s tc fr x p d) {K : Int32 → ab_X → Prop} (k : ∀ z, rf x z → z.1 246 81 = nI p → z.1 246 80 = x.1 246 80 → K (nI 0) z) : wX12_stop x K := by
  unfold wX12_stop
  rw [h.ok]
  refine ⟨fun u => absurd rfl u, fun _ => k _ rf.w81 ?_ (wr_k (by decide))⟩
  rw [wr_e]; exact h.2.2.2.2.1
theorem flt {x : ab_X} {q : Nat} (h : x.1 246 81 = nI q) (hq : q < 2147483648) : ¬ x.1 246 81 = -1 := by
  rw [h]
  intro u
  exact (n1_eq' hq).mp u
theorem m_takes {B : Nat → Nat} {n s tc fr : Nat} (t : TX B n s) (tr : TR5 n tc fr) {x : ab_X} {p d z : Nat} (hz : z < 256) (h : RRd B n s tc fr x p d) {K : Int32 → ab_X → Prop} (k1 : cB B n p = z → ∀ y, RRd B n s tc fr y (sk B n p + 1) d → rf x y → K (nI 1) y) (k0 : cB B n p ≠ z → ∀ y, rf x y → y.1 246 81 = nI (sk B n p) → K (nI 0) y) : wX12_takes (nI z) x K := by
  unfold wX12_takes
  rw [h.ok]
  refine ⟨fun u => absurd rfl u, fun _ => ?_⟩
  refine m_lookT t tr h (fun y hy fy => ?_)
  rw [bI_e (t.cb p) hz]
  refine ⟨fun e => ?_, fun e => ?_⟩
  · have lt := (cB_lt e (by omega)).1
    exact k1 e _ (hy.nx tr lt) (fy.tr rf.w80)
  · unfold wX12_takes_16
    exact m_stopT hy (fun u fu au _ => ⟨isB_0, k0 e u (fy.tr fu) au⟩)
theorem m_takesF {x : ab_X} {q : Nat} {z : Int32} (h : x.1 246 81 = nI q) (hq : q < 2147483648) {K : Int32 → ab_X → Prop} (k : K (nI 0) x) : wX12_takes z x K := by
  unfold wX12_takes wX12_takes_16 wX12_stop
  exact ⟨fun _ => ⟨fun _ => ⟨isB_0, k⟩, fun u => absurd u (flt h hq)⟩, fun u => absurd u (flt h hq)⟩
theorem m_goesIn {B : Nat → Nat} {n s tc fr : Nat} (tr : TR5 n tc fr) {x : ab_X} {p d : Nat} (hd : d ≤ 8) (h : RRd B n s tc fr x p d) (hp : p < n) {K : Int32 → ab_X → Prop} (k0 : d = 0 → ∀ z, rf x z → z.1 246 81 = nI p → K (nI 0) z) (k1 : 1 ≤ d → ∀ z, RRd B n s tc fr z (p + 1) (d - 1) → rf x z → K (nI 1) z) : wX12_goesIn x K := by
  unfold wX12_goesIn
  have e : x.1 246 82 = nI (8 - d) := h.2.2.2.2.2.2.1
  have e8 : (x.1 246 82 = 8) = (d = 0) := by
    rw [e]
    simp only [nI_lit]
    exact propext ((q_eq (by omega) (by omega)).trans (by omega))
  rw [e8]
  refine ⟨fun q => ?_, fun q => ?_⟩
  · have hd' := h.dp tr (d' := d - 1) (v := x.1 246 82 + 1) (by rw [e]; simp only [nI_lit]; rw [nI_add]; congr 1; omega)
    exact k1 (by omega) _ (hd'.nx tr hp) (rf.w82.tr rf.w80)
  · exact m_stopT h (fun u fu au _ => ⟨isB_0, k0 q u fu au⟩)
def RSp (B : Nat → Nat) (n s tc fr d : Nat) (P : Int32 → Prop) (F : ab_X → (Int32 → ab_X → Prop) → Prop) (X : Nat → PR) : Prop := ∀ x p K, RRd B n s tc fr x p d → (∀ q, X p = (q, none) → ∀ z r, rf x z → z.1 246 81 = nI q → P r → K r z) → (∀ q c v, X p = (q, some (c, v)) → ∀ z, rf x z → RRd B n s tc fr z q d → K (v (x.1 307)) z) → F x K
/-- what lies within brackets; tb: what becomes of the value -/
theorem m_inT {B : Nat → Nat} {n s tc fr d z : Nat} {P : Int32 → Prop} (t : TX B n s) (tr : TR5 n tc fr) (hd : d ≤ 8) (hd1 : 1 ≤ d) (hz : z < 256) (P0 : P (nI 0)) {F : ab_X → (Int32 → ab_X → Prop) → Prop} {X : Nat → PR} {m h : Nat} (w : WX n s X m h P) (hF : RSp B n s tc fr (d - 1) P F X) {x : ab_X} {p : Nat} {K : Int32 → ab_X → Prop} (hx : RRd B n s tc fr x p (d - 1)) (k0 : ∀ q, pIn B n z X p = (q, none) → ∀ y r, rf x y → y.1 246 81 = nI q → P r → K r y) (k1 : ∀ q c v, pIn B n z X p = (q, some (c, v)) → ∀ y, rf x y → RRd B n s tc fr y q d → K (v (x.1 307)) y) : F x (fun r8 x9 => wX12_takes (nI z) x9 (fun r10 x11 => ((¬ r10 = 0 → K r8 (wr x11 246 82 ((x11.1 246 82) - 1))) ∧ (r10 = 0 → K 0 x11)))) := by
  unfold pIn at k0 k1
  have hn := t.1
  have wx := w p hx.le
  refine hF x p _ hx (fun q hq y r fy ay pr => ?_) (fun q c v hq y fy hy => ?_)
  · rw [hq] at k0
    have := ((wx q).1 hq).2
    exact m_takesF ay (by omega) (x0 (k0 q rfl y _ fy ay P0))
  · rw [hq] at k0 k1
    refine m_takes t tr hz hy (fun e u hu fu => x1 ?_) (fun e u fu au => x0 ?_)
    · simp only [if_pos e] at k1
      have e82 : u.1 246 82 - 1 = nI (8 - d) := by
        rw [hu.2.2.2.2.2.2.1]
        simp only [nI_lit]
        rw [pk_sub (by omega)]; congr 1; omega
      exact k1 _ _ _ rfl _ ((fy.tr fu).tr rf.w82) (hu.dp tr e82)
    · simp only [if_neg e] at k0
      exact k0 _ rfl u _ (fy.tr fu) au P0
theorem m_isDigit {B : Nat → Nat} {n s tc fr : Nat} (t : TX B n s) (tr : TR5 n tc fr) {x : ab_X} {p d : Nat} (at_ : x.1 246 80 = nI p) (ln : x.1 246 79 = nI n) (rd : p < n → (∃ n, isBA x.2.2.2.2.1 n ∧ vp_in ((x.1 246 78) + (x.1 246 80)) n) ∧ x.1 x.2.2.2.2.1 (Int32.toNatClampNeg ((x.1 246 78) + (x.1 246 80))) = s8 (B p)) (hp : p ≤ n) {K : Int32 → Prop} (k : if p < n ∧ (48 ≤ B p ∧ B p ≤ 57) then K (nI 1) else K (nI 0)) : wX12_isDigit x K := by
  have hn := t.1
  unfold wX12_isDigit
  have e4 : ((x.1 246 79) ≤ (x.1 246 80)) = (n ≤ p) := by rw [ln, at_]; exact propext (q_le (by omega) (by omega))
  rw [e4]
  by_cases q : p < n
  · obtain ⟨r1, r2⟩ := rd q
    rw [r2]
    simp only [nI_lit]
    obtain ⟨d1, d2⟩ := s8_d (B p) (t.2.2 p q)
    refine ⟨fun u => absurd u (by omega), fun _ => ⟨r1, ?_⟩⟩
    by_cases e : 48 ≤ B p ∧ B p ≤ 57
    · rw [if_pos ⟨q, e⟩] at k
      obtain ⟨a1, a2, -⟩ := d1 e
      exact ⟨fun u => absurd u a1, fun _ => ⟨r1, fun u => absurd u a2, fun _ => k⟩⟩
    · rw [if_neg (fun u => e u.2)] at k
      exact ⟨fun _ => k, fun u => ⟨r1, fun _ => k, fun u2 => by rcases d2 e with a | a; exact absurd a u; exact absurd a.2 u2⟩⟩
  · rw [if_neg (fun u => q u.1)] at k
    exact ⟨fun _ => k, fun u => absurd (by omega) u⟩
theorem m_numT {B : Nat → Nat} {n s tc fr d mx kd : Nat} (t : TX B n s) (tr : TR5 n tc fr) (h4 : mx ≤ 4) : RSp B n s tc fr d (fun _ => True) (wX12_number (nI mx)) (pNum B n mx kd) := by
  intro x p K hx k0 k1
  have hn := t.1
  unfold wX12_number
  refine m_lookT t tr hx (fun y hy fy => ?_)
  obtain ⟨s1, s2, s3⟩ := sk_b (B := B) hx.le
  refine m_isDigit (d := d) t tr hy.2.2.2.2.1 hy.2.2.2.1 (hy.rd tr) s2 ?_
  unfold pNum at k0 k1
  by_cases e : sk B n p < n ∧ (48 ≤ B (sk B n p) ∧ B (sk B n p) ≤ 57)
  case neg =>
    rw [if_neg e] at k0 ⊢
    refine x0 ?_
    refine m_stopT hy (fun z fz az ae => ?_)
    refine Lp3.ind (fun ii a b u => u = z) 0 rfl ?_
    rintro ii a b u rfl L hL
    unfold lX12_number_22
    refine m_isDigit (B := B) (n := n) (s := s) (tc := tc) (fr := fr) (d := d) (p := sk B n p) t tr (by rw [ae]; exact hy.2.2.2.2.1) (by rw [fz.1 246 79 (by omega)]; exact hy.2.2.2.1) (fun q => ?_) s2 ?_
    · rw [fz.2, fz.1 246 78 (by omega), ae, fz.1 _ _ (by rw [hy.1]; have := tr.1; omega)]
      exact hy.rd tr q
    · rw [if_neg e]
      exact ⟨fun _ => k0 _ rfl u _ (fy.tr fz) az trivial, fun u => absurd rfl u⟩
  rw [if_pos e] at k0 k1 ⊢
  refine x1 ?_
  generalize hT : nuF B n mx (mx + 1) 0 (sk B n p) 0 = T at k0 k1
  refine Lp3.ind (fun ii a b z => ∃ i p' v, ii = mx + 1 - i ∧ i ≤ mx ∧ a = nI v ∧ b = nI i ∧ RRd B n s tc fr z p' d ∧ v < 10 ^ i ∧ rf x z ∧ nuF B n mx (mx + 1 - i) i p' v = T) (mx + 1) ⟨0, sk B n p, 0, rfl, by omega, rfl, rfl, hy, by decide, fy, hT⟩ ?_
  rintro ii a b z ⟨i, p', v, hii, hi, rfl, rfl, hz, hv, fz, hR⟩ L hL
  have pw : 10 ^ i ≤ 10 ^ 4 := Nat.pow_le_pow_right (by decide) (by omega)
  have hp' := hz.le
  obtain ⟨f, hf⟩ : ∃ f, mx + 1 - i = f + 1 := ⟨mx - i, by omega⟩
  rw [hf] at hR
  unfold nuF at hR
  unfold lX12_number_22
  refine m_isDigit (d := d) t tr hz.2.2.2.2.1 hz.2.2.2.1 (hz.rd tr) hp' ?_
  by_cases q : p' < n ∧ (48 ≤ B p' ∧ B p' ≤ 57)
  case neg =>
    rw [if_neg q]
    rw [if_pos (by omega)] at hR
    rw [← hR] at k1
    exact y0 (k1 _ _ _ rfl z fz hz)
  rw [if_pos q]
  rw [if_neg (by omega)] at hR
  refine y1 ?_
  rw [hz.ok]
  refine ⟨fun u => absurd rfl u, fun _ => ?_⟩
  rw [q_eq (by omega) (by omega)]
  by_cases c2 : i < mx
  · rw [if_pos c2] at hR
    refine ⟨fun _ => ?_, fun u => absurd u (by omega)⟩
    obtain ⟨r1, r2⟩ := hz.rd tr q.1
    refine ⟨r1, ?_⟩
    rw [r2, ((s8_d (B p') (t.2.2 p' q.1)).1 q.2).2.2]
    have e7 : 10 * nI v + nI (B p') - 48 = nI (10 * v + (B p' - 48)) := by
      simp only [nI_lit]
      rw [pk_mul, nI_add, pk_sub (by omega)]
      congr 1; omega
    have e6 : nI i + 1 = nI (i + 1) := nI_add i 1
    rw [e6, e7]
    refine hL (mx + 1 - (i + 1)) _ _ _ (by omega) ⟨i + 1, p' + 1, _, rfl, by omega, rfl, rfl, hz.nx tr q.1, by rw [Nat.pow_succ]; omega, fz.tr rf.w80, ?_⟩
    rw [show mx + 1 - (i + 1) = f by omega]
    exact hR
  · rw [if_neg c2] at hR
    rw [← hR] at k0
    refine ⟨fun u => absurd (by omega) u, fun _ => ?_⟩
    exact m_stopT hz (fun u fu au _ => k0 _ rfl u _ (fz.tr fu) au trivial)
theorem Lp2.one {A0 A1 : Type} {F : (A0 → A1 → Prop) → A0 → A1 → Prop} {a0 : A0} {a1 : A1} (h : ∀ L, F L a0 a1) : Lp2 F a0 a1 := Lp2.seq 0 (fun _ => a0) (fun _ => a1) rfl rfl (fun i hi => absurd hi (Nat.not_lt_zero i)) h
