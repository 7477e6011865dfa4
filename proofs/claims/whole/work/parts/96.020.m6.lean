/-! TEXTS, 6: the reference reads sums and conditions. -/
theorem jn_5 {a b : Int32} : jn 5 a b = if a = b then nI 1 else nI 0 := by
  unfold jn jl; simp only [Nat.reduceEqDiff, if_false, if_true]; split
  · exact bdI_1
  · exact bdI_0
theorem jn_6 {a b : Int32} : jn 6 a b = if b ≤ a then nI 0 else nI 1 := by
  unfold jn jl; simp only [Nat.reduceEqDiff, if_false, if_true]; split
  · exact bdI_0
  · exact bdI_1
theorem jn_7 {a b : Int32} : jn 7 a b = if a ≤ b then nI 0 else nI 1 := by
  unfold jn jl; simp only [Nat.reduceEqDiff, if_false, if_true]; split
  · exact bdI_0
  · exact bdI_1
theorem m_atomT {B : Nat → Nat} {n s tc fr d h : Nat} (t : TX B n s) (tr : TR5 n tc fr) (hd : d ≤ 8) {RA RS RT : ab_X → (Int32 → ab_X → Prop) → Prop} {S : Option (Nat → PR)} (hw : ∀ T, S = some T → WX n s T 1 h (fun _ => True)) (hS : ∀ T, S = some T → RSp B n s tc fr (d - 1) (fun _ => True) RS T) (e0 : d = 0 → S = none) (e1 : 1 ≤ d → ∃ T, S = some T) : RSp B n s tc fr d (fun _ => True) (bX12_atom RA RS RT) (pAtom B n s S) := by
  intro x p K hx k0 k1
  have hn := t.1
  obtain ⟨s1, s2, s3⟩ := sk_b (B := B) hx.le
  have cb := t.cb p
  unfold bX12_atom
  refine m_lookT t tr hx (fun y hy fy => ?_)
  unfold pAtom at k0 k1
  have a38 : (cB B n p = 256 ∨ kxI s (cB B n p) = -nI 1) → wX12_atom_38 RA RS RT (bI (cB B n p)) y K := by
    intro q
    unfold wX12_atom_38
    simp only [nI_lit]
    rw [bI_e cb (by decide)]
    by_cases c1 : cB B n p = 91
    · rw [if_pos c1] at k0 k1
      have lt := (cB_lt c1 (by decide)).1
      refine ⟨fun _ => ?_, fun u => absurd c1 u⟩
      refine m_goesIn tr hd hy lt (fun e z fz az => x0 ?_) (fun e z hz fz => x1 ?_)
      · rw [e0 e] at k0
        exact k0 _ rfl z _ (fy.tr fz) az trivial
      · obtain ⟨T, hT⟩ := e1 e
        rw [hT] at k0 k1
        have ev : x.1 307 = z.1 307 := ((fy.tr fz).ev).symm
        rw [ev] at k1
        exact m_inT (K := K) (P := fun _ => True) t tr hd e (by decide) trivial (hw T hT) (hS T hT) hz (fun q hq u r fu au _ => k0 q hq u r ((fy.tr fz).tr fu) au trivial) (fun q c v hq u fu hu => k1 q c v hq u ((fy.tr fz).tr fu) hu)
    · rw [if_neg c1] at k0 k1
      refine ⟨fun u => absurd u c1, fun _ => ?_⟩
      by_cases c2 : 48 ≤ cB B n p ∧ cB B n p ≤ 57
      · rw [if_pos c2] at k0 k1
        refine m_numT (mx := 4) (kd := 0) t tr (by decide) y (sk B n p) _ hy (fun q hq z r fz az _ => k0 q hq z r (fy.tr fz) az trivial) (fun q c v hq z fz hz => ?_)
        rw [fy.ev]
        exact k1 q c v hq z (fy.tr fz) hz
      · rw [if_neg c2, if_pos q] at k0
        have e : pNum B n 4 0 (sk B n p) = (sk B n p, none) := by
          unfold pNum
          rw [sk_sk hx.le, if_neg]
          intro u
          apply c2
          have : cB B n p = B (sk B n p) := if_pos u.1
          rw [this]; exact u.2
        refine m_numT (mx := 4) (kd := 0) t tr (by decide) y (sk B n p) _ hy (fun q' hq z r fz az _ => ?_) (fun q' c v hq z fz hz => ?_)
        · rw [e] at hq
          injection hq with q1 q2
          subst q1
          exact k0 _ rfl z r (fy.tr fz) az trivial
        · rw [e] at hq
          injection hq with q1 q2
          cases q2
  by_cases c0 : cB B n p = 256
  · exact ⟨fun _ => a38 (Or.inl c0), fun u => absurd ((bI_o cb).mpr c0) u⟩
  · refine ⟨fun u => absurd ((bI_o cb).mp u) c0, fun _ => ?_⟩
    have b6 : cB B n p < 256 := by omega
    have h3 := t.2.1
    refine ⟨⟨s, by omega, hy.2.1⟩, ?_⟩
    rw [hy.2.1, bI_n c0]
    refine index_of (by omega) b6 ?_
    rw [bI_n c0] at a38
    rcases kx_d s (by omega) _ b6 with q | ⟨i, i1, i2, i3, i4, i5, i6⟩
    · refine ⟨fun _ => a38 (Or.inr q), fun u => absurd (by rw [q]; decide) u⟩
    · have nn : ¬ kxI s (cB B n p) < 0 := by rw [i2]; exact nI_pos (by omega)
      have n1 : ¬ kxI s (cB B n p) = -nI 1 := by rw [i2, n1_eq' (by omega)]; exact id
      refine ⟨fun u => absurd u nn, fun _ => ⟨(vpi (by omega) (by omega)).mpr trivial, ?_⟩⟩
      rw [if_neg (by omega), if_neg (by omega), if_neg (by rintro (u | u); exact c0 u; exact n1 u)] at k1
      rw [cl_nI (by omega), wr_n (by decide), fy.ev]
      exact k1 _ _ _ rfl _ (fy.tr rf.w80) (hy.nx tr (cB_lt rfl c0).1)
def gM (z : Int32) (F : ab_X → (Int32 → ab_X → Prop) → Prop) (J : Int32 → Int32 → ab_X → (Int32 → ab_X → Prop) → Prop) (K : Int32 → ab_X → Prop) (L : Int32 → ab_X → Prop) (v1 : Int32) (x : ab_X) : Prop := ((¬ (x.1 246 81) = (-1) → K v1 x) ∧ ((x.1 246 81) = (-1) → wX12_look x (fun r3 x4 => ((¬ r3 = z → K v1 x4) ∧ (r3 = z → F (wr x4 246 80 ((x4.1 246 80) + 1)) (fun r5 x6 => J v1 r5 x6 L))))))
theorem m_chn {B : Nat → Nat} {n s tc fr d m h z k : Nat} (t : TX B n s) (tr : TR5 n tc fr) {P : Int32 → Prop} {F : ab_X → (Int32 → ab_X → Prop) → Prop} {J : Int32 → Int32 → ab_X → (Int32 → ab_X → Prop) → Prop} {X : Nat → PR} (hF : RSp B n s tc fr d P F X) (w : WX n s X m h P) (hz : z < 256) (hk1 : 1 ≤ k) (oP : ∀ a b, P a → P b → P (jn k a b)) (hJ : ∀ a b y L, P a → P b → L (jn k a b) y → J a b y L) {x : ab_X} {p : Nat} {c : List Nat} {v : (Nat → Int32) → Int32} {K : Int32 → ab_X → Prop} {e : Nat → Int32} (hx : RRd B n s tc fr x p d) (he : x.1 307 = e) (pv : P (v e)) (k0 : ∀ q, chn B n (op1 z k) X (n + 1) p c v = (q, none) → ∀ y r, rf x y → y.1 246 81 = nI q → P r → K r y) (k1 : ∀ q c' v', chn B n (op1 z k) X (n + 1) p c v = (q, some (c', v')) → ∀ y, rf x y → RRd B n s tc fr y q d → P (v' e) → K (v' e) y) : Lp2 (gM (nI z) F J K) (v e) x := by
  have hn := t.1
  have hp := hx.le
  generalize hT : chn B n (op1 z k) X (n + 1) p c v = T at k0 k1
  refine Lp2.ind (fun ii a y => rf x y ∧ ((∃ p' c' v', a = v' e ∧ n < p' + ii ∧ RRd B n s tc fr y p' d ∧ P (v' e) ∧ chn B n (op1 z k) X ii p' c' v' = T) ∨ (∃ q, y.1 246 81 = nI q ∧ P a ∧ q ≤ n ∧ T = (q, none)))) (n + 1) ⟨rf.rfl', Or.inl ⟨p, c, v, rfl, by omega, hx, pv, hT⟩⟩ ?_
  rintro ii a y ⟨fy, ⟨p', c', v', rfl, hii, hy, pv', hR⟩ | ⟨q, aq, pa, hq, hR⟩⟩ L hL
  · have hp' := hy.le
    cases ii with
    | zero => omega
    | succ f =>
      unfold gM
      refine ⟨fun u => absurd hy.ok u, fun _ => ?_⟩
      refine m_lookT t tr hy (fun u hu fu => ?_)
      unfold chn at hR
      obtain ⟨s1, s2, s3⟩ := sk_b (B := B) hp'
      rw [bI_e (t.cb p') hz]
      refine ⟨fun e0 => ?_, fun e0 => ?_⟩
      · have o : op1 z k (cB B n p') = 0 := if_neg e0
        rw [if_pos o] at hR
        exact k1 _ _ _ hR.symm u (fy.tr fu) hu pv'
      · have o : op1 z k (cB B n p') = k := if_pos e0
        rw [o, if_neg (by omega)] at hR
        have lt := (cB_lt e0 (by omega)).1
        have wx := w (sk B n p' + 1) (by omega)
        have eu : (wr u 246 80 (u.1 246 80 + 1)).1 307 = e := by rw [wr_n (by decide), fu.ev, fy.ev]; exact he
        refine hF _ (sk B n p' + 1) _ (hu.nx tr lt) (fun q hq y2 r fz az pr => ?_) (fun q c2 v2 hq y2 fz hz' => ?_)
        · rw [hq] at hR
          have := ((wx q).1 hq).2
          exact hJ _ _ _ _ pv' pr (hL f _ _ (Nat.lt_succ_self f) ⟨((fy.tr fu).tr rf.w80).tr fz, Or.inr ⟨q, az, oP _ _ pv' pr, this, hR.symm⟩⟩)
        · rw [hq] at hR
          rw [eu]
          obtain ⟨a1, a3, a4, a5, a6⟩ := (wx q).2 c2 v2 hq
          exact hJ _ _ _ _ pv' (a5 e) (hL f _ _ (Nat.lt_succ_self f) ⟨((fy.tr fu).tr rf.w80).tr fz, Or.inl ⟨q, c' ++ c2 ++ [wd k 0], fun e => jn k (v' e) (v2 e), rfl, by omega, hz', oP _ _ pv' (a5 e), hR⟩⟩)
  · unfold gM
    exact ⟨fun _ => k0 q hR y a fy aq pa, fun u => absurd u (flt aq (by omega))⟩
theorem m_termT {B : Nat → Nat} {n s tc fr d h : Nat} (t : TX B n s) (tr : TR5 n tc fr) {RA RS RT : ab_X → (Int32 → ab_X → Prop) → Prop} {S : Option (Nat → PR)} (w : WX n s (pAtom B n s S) 1 h (fun _ => True)) (hA : RSp B n s tc fr d (fun _ => True) RA (pAtom B n s S)) : RSp B n s tc fr d (fun _ => True) (bX12_term RA RS RT) (pTm B n s S) := by
  intro x p K hx k0 k1
  have hn := t.1
  unfold bX12_term
  unfold pTm pChn at k0 k1
  have wx := w p hx.le
  refine hA x p _ hx (fun q hq y r fy ay pr => ?_) (fun q c v hq y fy hy => ?_)
  · rw [hq] at k0
    have := ((wx q).1 hq).2
    refine Lp2.one (fun L => ?_)
    unfold lX12_term_5
    exact ⟨fun _ => k0 q rfl y r fy ay trivial, fun u => absurd u (flt ay (by omega))⟩
  · rw [hq] at k0 k1
    exact m_chn (z := 42) (k := 4) (F := RA) (P := fun _ => True) (J := fun a b y L => wX12_bound (Int32.toInt64 a * Int32.toInt64 b) y (fun r => L r y)) (K := K) t tr hA w (by decide) (by decide) (fun _ _ _ _ => trivial) (fun a b y L _ _ h => h) hy fy.ev trivial (fun q' e u r fu au pr => k0 q' e u r (fy.tr fu) au trivial) (fun q' c' v' e u fu hu _ => k1 q' c' v' e u (fy.tr fu) hu)
theorem m_sumT {B : Nat → Nat} {n s tc fr d h : Nat} (t : TX B n s) (tr : TR5 n tc fr) {RA RS RT : ab_X → (Int32 → ab_X → Prop) → Prop} {S : Option (Nat → PR)} (w : WX n s (pTm B n s S) 1 h (fun _ => True)) (hF : RSp B n s tc fr d (fun _ => True) RT (pTm B n s S)) : RSp B n s tc fr d (fun _ => True) (bX12_sums RA RS RT) (pSm B n s S) := by
  intro x p K hx k0 k1
  have hn := t.1
  unfold bX12_sums
  unfold pSm pChn at k0 k1
  generalize hX : pTm B n s S = X at w hF k0 k1
  have wx := w p hx.le
  refine hF x p _ hx (fun q hq y r fy ay pr => ?_) (fun q c v hq y fy hy => ?_)
  · rw [hq] at k0
    have := ((wx q).1 hq).2
    refine Lp2.one (fun L => ?_)
    unfold lX12_sums_5
    exact ⟨fun _ => k0 q rfl y r fy ay trivial, fun u => absurd u (flt ay (by omega))⟩
  rw [hq] at k0 k1
  have hq' := hy.le
  have k0 : ∀ q', chn B n opS X (n + 1) q c v = (q', none) → ∀ z r, rf x z → z.1 246 81 = nI q' → True → K r z := k0
  have k1 : ∀ q' c' v', chn B n opS X (n + 1) q c v = (q', some (c', v')) → ∀ z, rf x z → RRd B n s tc fr z q' d → K (v' (x.1 307)) z := k1
  generalize hT : chn B n opS X (n + 1) q c v = T at k0 k1
  refine Lp2.ind (fun ii a u => rf x u ∧ ((∃ p' c' v', a = v' (x.1 307) ∧ n < p' + ii ∧ RRd B n s tc fr u p' d ∧ chn B n opS X ii p' c' v' = T) ∨ (∃ q, u.1 246 81 = nI q ∧ q ≤ n ∧ T = (q, none)))) (n + 1) ⟨fy, Or.inl ⟨q, c, v, rfl, by omega, hy, hT⟩⟩ ?_
  rintro ii a y ⟨fy, ⟨p', c', v', rfl, hii, hy, hR⟩ | ⟨q, aq, hq, hR⟩⟩ L hL
  case inr =>
    unfold lX12_sums_5
    exact ⟨fun _ => k0 q hR y a fy aq trivial, fun u => absurd u (flt aq (by omega))⟩
  have hp' := hy.le
  cases ii with
  | zero => omega
  | succ f =>
    unfold lX12_sums_5
    refine ⟨fun u => absurd hy.ok u, fun _ => ?_⟩
    obtain ⟨s1, s2, s3⟩ := sk_b (B := B) hp'
    unfold chn at hR
    have go : (cB B n p' = 43 ∨ cB B n p' = 45) → ∀ z, RRd B n s tc fr z (sk B n p') d → rf x z → wX12_sums_31 RA RS RT (v' (x.1 307)) z K L := by
      intro hc z hz fz
      have lt : sk B n p' < n := by
        rcases hc with e | e
        · exact (cB_lt e (by decide)).1
        · exact (cB_lt e (by decide)).1
      have wx := w (sk B n p' + 1) (by omega)
      unfold wX12_sums_31
      refine m_lookT t tr hz (fun u2 hu2 fu2 => ?_)
      rw [cB_sk hp']
      rw [sk_sk hp'] at hu2
      simp only [nI_lit]
      rw [bI_e (t.cb p') (by decide)]
      have eu : (wr u2 246 80 (u2.1 246 80 + 1)).1 307 = x.1 307 := by rw [wr_n (by decide), fu2.ev, fz.ev]
      have go2 : ∀ k s0, opS (cB B n p') = k → ((k = 2 ∧ s0 = nI 1) ∨ (k = 3 ∧ s0 = nI 0)) → wX12_sums_45 RA RS RT (v' (x.1 307)) s0 u2 K L := by
        intro k s0 o hk
        have fin : ∀ r y2, L (jn k (v' (x.1 307)) r) y2 → ((s0 = 0 → wX12_sums_77 RA RS RT ((Int32.toInt64 (v' (x.1 307))) - (Int32.toInt64 r)) y2 K L) ∧ (¬ s0 = 0 → wX12_sums_77 RA RS RT ((Int32.toInt64 (v' (x.1 307))) + (Int32.toInt64 r)) y2 K L)) := by
          intro r y2 hl
          rcases hk with ⟨rfl, rfl⟩ | ⟨rfl, rfl⟩
          · exact y1 hl
          · exact y0 hl
        unfold wX12_sums_45
        rw [o, if_neg (by omega)] at hR
        refine hF _ (sk B n p' + 1) _ (hu2.nx tr lt) (fun q hq y2 r f2 a2 pr => fin _ _ ?_) (fun q c2 v2 hq y2 f2 h2 => fin _ _ ?_)
        · rw [hq] at hR
          have := ((wx q).1 hq).2
          exact hL f _ _ (Nat.lt_succ_self f) ⟨((fz.tr fu2).tr rf.w80).tr f2, Or.inr ⟨q, a2, this, hR.symm⟩⟩
        · rw [hq] at hR
          rw [eu]
          obtain ⟨a1, a3, a4, a5, a6⟩ := (wx q).2 c2 v2 hq
          exact hL f _ _ (Nat.lt_succ_self f) ⟨((fz.tr fu2).tr rf.w80).tr f2, Or.inl ⟨q, c' ++ c2 ++ [wd k 0], fun e => jn k (v' e) (v2 e), rfl, by omega, h2, hR⟩⟩
      refine ⟨fun e => go2 3 _ ?_ (Or.inr ⟨rfl, rfl⟩), fun e => go2 2 _ ?_ (Or.inl ⟨rfl, rfl⟩)⟩
      · rw [hc.resolve_left e]; rfl
      · rw [e]; rfl
    refine m_lookT t tr hy (fun u hu fu => ?_)
    simp only [nI_lit]
    rw [bI_e (t.cb p') (by decide)]
    refine ⟨fun e => go (Or.inl e) u hu (fy.tr fu), fun e1 => ?_⟩
    refine m_lookT t tr hu (fun u2 hu2 fu2 => ?_)
    rw [cB_sk hp']
    rw [sk_sk hp'] at hu2
    rw [bI_e (t.cb p') (by decide)]
    refine ⟨fun e2 => ?_, fun e => go (Or.inr e) u2 hu2 ((fy.tr fu).tr fu2)⟩
    have o : opS (cB B n p') = 0 := by unfold opS; rw [if_neg e1, if_neg e2]
    rw [if_pos o] at hR
    exact k1 _ _ _ hR.symm u2 ((fy.tr fu).tr fu2) hu2
theorem m_famA {B : Nat → Nat} {n s tc fr : Nat} (t : TX B n s) (tr : TR5 n tc fr) : ∀ d, d ≤ 8 → (∀ N, 3 * d + 1 ≤ N → RSp B n s tc fr d (fun _ => True) (famX12_atom N).1 (pAtom B n s (lowS B n s d))) ∧ (∀ N, 3 * d + 2 ≤ N → RSp B n s tc fr d (fun _ => True) (famX12_atom N).2.2 (pTm B n s (lowS B n s d))) ∧ (∀ N, 3 * d + 3 ≤ N → RSp B n s tc fr d (fun _ => True) (famX12_atom N).2.1 (pSm B n s (lowS B n s d))) := by
  have hB : ∀ i, i < n → B i < 256 := t.2.2
  have fin : ∀ d, d ≤ 8 → (∀ N, 3 * d + 1 ≤ N → RSp B n s tc fr d (fun _ => True) (famX12_atom N).1 (pAtom B n s (lowS B n s d))) → (∀ N, 3 * d + 1 ≤ N → RSp B n s tc fr d (fun _ => True) (famX12_atom N).1 (pAtom B n s (lowS B n s d))) ∧ (∀ N, 3 * d + 2 ≤ N → RSp B n s tc fr d (fun _ => True) (famX12_atom N).2.2 (pTm B n s (lowS B n s d))) ∧ (∀ N, 3 * d + 3 ≤ N → RSp B n s tc fr d (fun _ => True) (famX12_atom N).2.1 (pSm B n s (lowS B n s d))) := by
    intro d hd a
    have wA : WX n s (pAtom B n s (lowS B n s d)) 1 (2 * d + 1) (fun _ => True) := pAtom_W hB t.2.1 (low_W hB t.2.1 d) (by omega)
    have wT : WX n s (pTm B n s (lowS B n s d)) 1 (2 * d + 2) (fun _ => True) := pTm_W hB t.2.1 (low_W hB t.2.1 d) (by omega)
    have b : ∀ N, 3 * d + 2 ≤ N → RSp B n s tc fr d (fun _ => True) (famX12_atom N).2.2 (pTm B n s (lowS B n s d)) := by
      intro N hN
      obtain ⟨M, rfl⟩ : ∃ M, N = M + 1 := ⟨N - 1, by omega⟩
      exact m_termT t tr wA (a M (by omega))
    refine ⟨a, b, fun N hN => ?_⟩
    obtain ⟨M, rfl⟩ : ∃ M, N = M + 1 := ⟨N - 1, by omega⟩
    exact m_sumT t tr wT (b M (by omega))
  intro d
  induction d with
  | zero =>
    intro hd
    refine fin 0 hd (fun N hN => ?_)
    obtain ⟨M, rfl⟩ : ∃ M, N = M + 1 := ⟨N - 1, by omega⟩
    exact m_atomT (h := 0) (RA := (famX12_atom M).1) (RS := (famX12_atom M).2.1) (RT := (famX12_atom M).2.2) t tr hd (fun T h => by cases h) (fun T h => by cases h) (fun _ => rfl) (fun h => by omega)
  | succ d ih =>
    intro hd
    obtain ⟨-, -, ihS⟩ := ih (by omega)
    refine fin (d + 1) hd (fun N hN => ?_)
    obtain ⟨M, rfl⟩ : ∃ M, N = M + 1 := ⟨N - 1, by omega⟩
    refine m_atomT (RA := (famX12_atom M).1) (RS := (famX12_atom M).2.1) (RT := (famX12_atom M).2.2) t tr hd (low_W hB t.2.1 (d + 1)) (fun T h => ?_) (fun h => by omega) (fun _ => ⟨_, rfl⟩)
    have h : some (pSm B n s (lowS B n s d)) = some T := h
    injection h with h
    subst h
    exact ihS M (by omega)
theorem m_sumF {B : Nat → Nat} {n s tc fr : Nat} (t : TX B n s) (tr : TR5 n tc fr) {d : Nat} (hd : d ≤ 8) : RSp B n s tc fr d (fun _ => True) wX12_sums (pSm B n s (lowS B n s d)) := fun x p K a b c => ⟨3 * d + 3, by omega, (m_famA t tr d hd).2.2 (3 * d + 3) (Nat.le_refl _) x p K a b c⟩
theorem m_cmp {c : Nat} (hc : opQ c ≠ 0) (h6 : c ≤ 256) {a b : Int32} {K : Int32 → Prop} (h : K (jn (opQ c) a b)) : ((¬ bI c = 61 → ((¬ bI c = 60 → ((a ≤ b → K 0) ∧ (¬ a ≤ b → K 1))) ∧ (bI c = 60 → ((b ≤ a → K 0) ∧ (¬ b ≤ a → K 1))))) ∧ (bI c = 61 → ((¬ a = b → K 0) ∧ (a = b → K 1)))) := by
  simp only [nI_lit]
  rw [bI_e h6 (by decide), bI_e h6 (by decide)]
  by_cases e1 : c = 61
  · subst e1
    have h : K (jn 5 a b) := h
    rw [jn_5] at h
    refine ⟨fun u => absurd rfl u, fun _ => ⟨fun u => ?_, fun u => ?_⟩⟩
    · rw [if_neg u] at h; exact h
    · rw [if_pos u] at h; exact h
  · by_cases e2 : c = 60
    · subst e2
      have h : K (jn 6 a b) := h
      rw [jn_6] at h
      refine ⟨fun _ => ⟨fun u => absurd rfl u, fun _ => ⟨fun u => ?_, fun u => ?_⟩⟩, fun u => absurd u e1⟩
      · rw [if_pos u] at h; exact h
      · rw [if_neg u] at h; exact h
    · have e3 : c = 62 := by
        unfold opQ at hc
        rw [if_neg e1, if_neg e2] at hc
        by_cases u : c = 62
        · exact u
        · rw [if_neg u] at hc; exact absurd rfl hc
      subst e3
      have h : K (jn 7 a b) := h
      rw [jn_7] at h
      refine ⟨fun _ => ⟨fun _ => ⟨fun u => ?_, fun u => ?_⟩, fun u => absurd u e2⟩, fun u => absurd u e1⟩
      · rw [if_pos u] at h; exact h
      · rw [if_neg u] at h; exact h
theorem isB_e {v : Int32} (h : isB v) {K : Int32 → Prop} (k : K (nI 1 - v)) : ((¬ v = 0 → K 0) ∧ (v = 0 → K 1)) := by
  rcases h with rfl | rfl
  · exact ⟨fun u => absurd rfl u, fun _ => k⟩
  · exact ⟨fun _ => k, fun u => absurd u (by decide)⟩
