/-! TEXTS, 4: the program reads sums and conditions. -/
theorem c_opens {B : Nat → Nat} {n s d : Nat} {x : ab_X} {p : Nat} {c : List Nat} (hd : d ≤ 8) (h : PRd B n s x p c) (hp : p < n) {K : Int32 → ab_X → Prop} (k0 : d = 0 → K (nI 0) x) (k1 : 1 ≤ d → ∀ z, PRd B n s z (p + 1) c → pf x z → K (nI 1) z) : wX8_opens (nI (8 - d)) x K := by
  unfold wX8_opens
  simp only [nI_lit]
  rw [q_lt (by omega) (by omega)]
  refine ⟨fun q => k1 (by omega) _ (h.nx hp).1 (h.nx hp).2, fun q => k0 (by omega)⟩
/-- after what lies within brackets -/
theorem c_inT {B : Nat → Nat} {n s z : Nat} (t : TX B n s) (hz : z < 256) {F : ab_X → (Int32 → ab_X → Prop) → Prop} {X : Nat → PR} (hF : PSp B n s F X) {x : ab_X} {p : Nat} {c0 : List Nat} {K : Int32 → ab_X → Prop} (hx : PRd B n s x p c0) (hl : c0.length ≤ p) (k0 : ∀ q, pIn B n z X p = (q, none) → ∀ y, pf x y → y.1 158 2 = nI q → K (nI 0) y) (k1 : ∀ q c v, pIn B n z X p = (q, some (c, v)) → ∀ y, pf x y → PRd B n s y q (c0 ++ c) → K (nI 1) y) : F x (fun r13 x14 => ((r13 = 0 → K 0 x14) ∧ (¬ r13 = 0 → wX8_passes (nI z) x14 (fun r15 x16 => ((r15 = 0 → K 0 x16) ∧ (¬ r15 = 0 → K 1 x16)))))) := by
  unfold pIn at k0 k1
  refine hF x p c0 _ hx hl (fun q hq y fy ay => y0 ?_) (fun q c v hq y fy hy => y1 ?_)
  · rw [hq] at k0
    exact k0 q rfl y fy ay
  · rw [hq] at k0 k1
    refine c_passT t hz hy (fun e u hu fu => y1 ?_) (fun e u hu fu => y0 ?_)
    · simp only [if_pos e] at k1
      exact k1 _ _ _ rfl u (fy.tr fu) hu
    · simp only [if_neg e] at k0
      exact k0 _ rfl u (fy.tr fu) hu.2.1
theorem c_atomT {B : Nat → Nat} {n s d : Nat} (t : TX B n s) (hd : d ≤ 8) {RA RS RT : Int32 → ab_X → (Int32 → ab_X → Prop) → Prop} (hS : ∀ T, lowS B n s d = some T → PSp B n s (RS (nI (8 - d + 1))) T) : PSp B n s (bX8_atom RA RS RT (nI (8 - d))) (pAtom B n s (lowS B n s d)) := by
  intro x p c0 K hx hl k0 k1
  have hn := t.1
  obtain ⟨s1, s2, s3⟩ := sk_b (B := B) hx.le
  have cb := t.cb p
  unfold bX8_atom
  refine c_peekT t hx (fun y hy fy => ?_)
  simp only [nI_lit]
  rw [bI_e cb (by decide)]
  unfold pAtom at k0 k1
  by_cases c1 : cB B n p = 91
  · rw [if_pos c1] at k0 k1
    have lt := (cB_lt c1 (by decide)).1
    refine ⟨fun u => absurd c1 u, fun _ => ?_⟩
    refine c_opens hd hy lt (fun e => ?_) (fun e z hz fz => ?_)
    · subst e
      exact y0 (k0 _ rfl y fy hy.2.1)
    · obtain ⟨T, hT⟩ : ∃ T, lowS B n s d = some T := by
        cases d with
        | zero => omega
        | succ d => exact ⟨_, rfl⟩
      rw [hT] at k0 k1
      refine y1 ?_
      rw [nI_add]
      exact c_inT (K := K) t (by decide) (hS T hT) hz (by omega) (fun q hq u fu au => k0 q hq u ((fy.tr fz).tr fu) au) (fun q c v hq u fu hu => k1 q c v hq u ((fy.tr fz).tr fu) hu)
  rw [if_neg c1] at k0 k1
  refine ⟨fun _ => ?_, fun u => absurd u c1⟩
  refine c_isDigit cb ?_
  by_cases c2 : 48 ≤ cB B n p ∧ cB B n p ≤ 57
  · rw [if_pos c2] at k0 k1 ⊢
    refine y1 ?_
    exact c_numT (mx := 4) (kd := 0) t (by decide) (by decide) y (sk B n p) c0 _ hy (by omega) (fun q hq u fu au => ⟨isB_0, k0 q hq u (fy.tr fu) au⟩) (fun q c v hq u fu hu => ⟨isB_1, k1 q c v hq u (fy.tr fu) hu⟩)
  rw [if_neg c2] at k0 k1 ⊢
  refine y0 ⟨⟨s, by have := t.2.1; omega, hy.2.2.2.1⟩, ?_⟩
  rw [hy.2.2.2.1]
  unfold wX8_indexIn
  refine c_peekT t hy (fun z hz fz => ?_)
  rw [cB_sk hx.le]
  rw [sk_sk hx.le] at hz
  simp only [nI_lit]
  rw [bI_o cb]
  by_cases c3 : cB B n p = 256
  · rw [if_pos (Or.inl c3)] at k0
    refine ⟨fun u => absurd c3 u, fun _ => ?_⟩
    exact ⟨fun u => absurd trivial u, fun _ => k0 _ rfl z (fy.tr fz) hz.2.1⟩
  refine ⟨fun _ => ?_, fun u => absurd u c3⟩
  obtain ⟨l1, l2⟩ := cB_lt (B := B) (n := n) (p := p) rfl c3
  have lb : cB B n p < 256 := by rw [← l2]; exact t.2.2 _ l1
  have e6 : ((bI (cB B n p)).toUInt32 % 65536).toInt32 = nI (cB B n p) := by
    rw [bI_n c3]
    have : ∀ b, b < 256 → ((nI b).toUInt32 % 65536).toInt32 = nI b := by decide +kernel
    exact this _ lb
  rw [e6]
  refine index_of (by have := t.2.1; omega) lb ?_
  by_cases c4 : kxI s (cB B n p) = -nI 1
  · rw [if_pos (Or.inr c4)] at k0
    rw [c4]
    exact ⟨fun u => absurd rfl u, fun _ => k0 _ rfl z (fy.tr fz) hz.2.1⟩
  · rw [if_neg (by rintro (u | u); exact c3 u; exact c4 u)] at k1
    obtain ⟨i, i1, i2, i3, i4, -⟩ := (kx_d s (by have := t.2.1; omega) (cB B n p) lb).resolve_left c4
    rw [i2]
    refine ⟨fun _ => ?_, fun u => absurd u (by rw [n1_eq' (by omega)]; exact id)⟩
    refine c_addT (k := 1) (v := i) (by decide) (by omega) hz (by omega) (fun u hu fu => ?_)
    have l3 : sk B n p < n := l1
    refine k1 _ _ _ rfl _ (((fy.tr fz).tr fu).tr (hu.nx l3).2) ?_
    rw [i2, cl_nI (by omega)]
    exact (hu.nx l3).1
theorem c_termT {B : Nat → Nat} {n s d h : Nat} (t : TX B n s) {RA RS RT : Int32 → ab_X → (Int32 → ab_X → Prop) → Prop} {v1 : Int32} (w : WX n s (pAtom B n s (lowS B n s d)) 1 h (fun _ => True)) (hA : PSp B n s (RA v1) (pAtom B n s (lowS B n s d))) : PSp B n s (bX8_term RA RS RT v1) (pTm B n s (lowS B n s d)) := by
  intro x p c0 K hx hl k0 k1
  unfold bX8_term
  unfold pTm pChn at k0 k1
  have wx := w p hx.le
  refine hA x p c0 _ hx hl (fun q hq y fy ay => x0 ?_) (fun q c v hq y fy hy => x1 ?_)
  · rw [hq] at k0
    exact k0 q rfl y fy ay
  · rw [hq] at k0 k1
    obtain ⟨a1, a2, a3, -, -⟩ := (wx q).2 c v hq
    exact c_chn (z := 42) (k := 4) (F := RA v1) (K := K) t hA w (Nat.le_refl _) (by decide) (by decide) (by decide) hy (by omega) (by omega) (fun q' e u fu au => k0 q' e u (fy.tr fu) au) (fun q' c' v' e u fu hu => k1 q' c' v' e u (fy.tr fu) hu)
theorem c_sumT {B : Nat → Nat} {n s d h : Nat} (t : TX B n s) {RA RS RT : Int32 → ab_X → (Int32 → ab_X → Prop) → Prop} {v1 : Int32} (w : WX n s (pTm B n s (lowS B n s d)) 1 h (fun _ => True)) (hF : PSp B n s (RT v1) (pTm B n s (lowS B n s d))) : PSp B n s (bX8_sum RA RS RT v1) (pSm B n s (lowS B n s d)) := by
  intro x p c0 K hx hl k0 k1
  have hn := t.1
  unfold bX8_sum
  unfold pSm pChn at k0 k1
  generalize hX : pTm B n s (lowS B n s d) = X at w hF k0 k1
  have wx := w p hx.le
  refine hF x p c0 _ hx hl (fun q hq y fy ay => x0 ?_) (fun q c v hq y fy hy => x1 ?_)
  · rw [hq] at k0
    exact k0 q rfl y fy ay
  rw [hq] at k0 k1
  obtain ⟨a1, a2, a3, -, -⟩ := (wx q).2 c v hq
  refine Lp2.ind (fun ii a u => ∃ p' i c' v', a = nI i ∧ i + 1 ≤ p' ∧ n < p' + ii ∧ PRd B n s u p' (c0 ++ c') ∧ c0.length + c'.length ≤ p' ∧ pf x u ∧ chn B n opS X ii p' c' v' = chn B n opS X (n + 1) q c v) (n + 1) ⟨q, 0, c, v, rfl, by omega, by omega, hy, by omega, fy, rfl⟩ ?_
  rintro ii a y ⟨p', i, c', v', rfl, hi, hii, hy, hl', fy, hR⟩ L hL
  have hp' := hy.le
  cases ii with
  | zero => omega
  | succ f =>
    unfold lX8_sum_12
    refine ⟨fun q => absurd q (by simp only [nI_lit]; rw [q_le (by omega) (by omega)]; omega), fun _ => ?_⟩
    obtain ⟨s1, s2, s3⟩ := sk_b (B := B) hp'
    unfold chn at hR
    refine c_peekT t hy (fun u hu fu => ?_)
    simp only [nI_lit]
    rw [bI_e (t.cb p') (by decide), bI_e (t.cb p') (by decide)]
    have go : ∀ k, opS (cB B n p') = k → k ≠ 0 → k < 20 → sk B n p' < n → RT v1 (wr u 158 2 ((u.1 158 2) + 1)) (fun r5 x6 => ((¬ r5 = 0 → wX8_sum_73 RA RS RT v1 (nI i) (nI k) x6 K L) ∧ (r5 = 0 → K 0 x6))) := by
      intro k o k0' k20 lt
      rw [o, if_neg k0'] at hR
      have wx := w (sk B n p' + 1) (by omega)
      have nx := hu.nx lt
      refine hF _ (sk B n p' + 1) (c0 ++ c') _ nx.1 (by rw [List.length_append]; omega) (fun q hq u2 f2 a2 => x0 ?_) (fun q c2 v2 hq u2 f2 a2 => x1 ?_)
      · rw [hq] at hR
        exact k0 q hR.symm u2 (((fy.tr fu).tr nx.2).tr f2) a2
      · rw [hq] at hR
        obtain ⟨a1, a3, a4, a5, a6⟩ := (wx q).2 c2 v2 hq
        rw [List.append_assoc] at a2
        have ln : (c0 ++ (c' ++ c2)).length < 200 := by simp only [List.length_append]; omega
        unfold wX8_sum_73
        refine c_addT k20 (by decide) a2 ln (fun u3 a7 f3 => ?_)
        rw [List.append_assoc] at a7
        have e5 : nI i + 1 = nI (i + 1) := nI_add i 1
        rw [e5]
        refine hL _ _ _ (Nat.lt_succ_self f) ⟨q, i + 1, c' ++ c2 ++ [wd k 0], _, rfl, by omega, by omega, a7, ?_, (((fy.tr fu).tr nx.2).tr f2).tr f3, hR⟩
        simp only [List.length_append, List.length_cons, List.length_nil]
        omega
    refine ⟨fun e => ?_, fun e1 => ⟨fun e => ?_, fun e2 => ?_⟩⟩
    · have lt := (cB_lt e (by decide)).1
      rw [e]
      have g := go 2 (by rw [e]; rfl) (by decide) (by decide) lt
      unfold wX8_sum_38
      refine cast (congrArg (RT v1 (wr u 158 2 ((u.1 158 2) + 1))) ?_) g
      funext r5 x6
      have e7 : (bI 43 = 43) = True := eq_true (by decide)
      simp only [e7, not_true_eq_false, false_implies, true_and, forall_const]
      rfl
    · have lt := (cB_lt e (by decide)).1
      rw [e]
      have g := go 3 (by rw [e]; rfl) (by decide) (by decide) lt
      unfold wX8_sum_38
      refine cast (congrArg (RT v1 (wr u 158 2 ((u.1 158 2) + 1))) ?_) g
      funext r5 x6
      have e7 : (bI 45 = 43) = False := eq_false (by decide)
      simp only [e7, not_false_eq_true, false_implies, and_true, forall_const]
      rfl
    · have o : opS (cB B n p') = 0 := by unfold opS; rw [if_neg e1, if_neg e2]
      rw [if_pos o] at hR
      exact k1 _ _ _ hR.symm u (fy.tr fu) hu
theorem PSp_wk {B : Nat → Nat} {n s : Nat} {F G : ab_X → (Int32 → ab_X → Prop) → Prop} {X : Nat → PR} (h : PSp B n s F X) (e : ∀ x K, F x K → G x K) : PSp B n s G X := fun x p c0 K a b c d => e x K (h x p c0 K a b c d)
theorem c_famA {B : Nat → Nat} {n s : Nat} (t : TX B n s) : ∀ d, d ≤ 8 → (∀ N, 3 * d + 1 ≤ N → PSp B n s ((famX8_atom N).1 (nI (8 - d))) (pAtom B n s (lowS B n s d))) ∧ (∀ N, 3 * d + 2 ≤ N → PSp B n s ((famX8_atom N).2.2 (nI (8 - d))) (pTm B n s (lowS B n s d))) ∧ (∀ N, 3 * d + 3 ≤ N → PSp B n s ((famX8_atom N).2.1 (nI (8 - d))) (pSm B n s (lowS B n s d))) := by
  intro d
  induction d with
  | zero =>
    intro _
    have hB : ∀ i, i < n → B i < 256 := t.2.2
    have wA : WX n s (pAtom B n s (lowS B n s 0)) 1 1 (fun _ => True) := pAtom_W hB t.2.1 (fun T h => by cases h) (Nat.le_refl _)
    have wT : WX n s (pTm B n s (lowS B n s 0)) 1 2 (fun _ => True) := pTm_W hB t.2.1 (fun T h => by cases h) (Nat.le_refl _)
    have a : ∀ N, 1 ≤ N → PSp B n s ((famX8_atom N).1 (nI (8 - 0))) (pAtom B n s (lowS B n s 0)) := by
      intro N hN
      obtain ⟨M, rfl⟩ : ∃ M, N = M + 1 := ⟨N - 1, by omega⟩
      exact c_atomT (RA := (famX8_atom M).1) (RS := (famX8_atom M).2.1) (RT := (famX8_atom M).2.2) t (by omega) (fun T h => by cases h)
    have b : ∀ N, 2 ≤ N → PSp B n s ((famX8_atom N).2.2 (nI (8 - 0))) (pTm B n s (lowS B n s 0)) := by
      intro N hN
      obtain ⟨M, rfl⟩ : ∃ M, N = M + 1 := ⟨N - 1, by omega⟩
      exact c_termT t wA (a M (by omega))
    refine ⟨fun N h => a N (by omega), fun N h => b N (by omega), fun N h => ?_⟩
    obtain ⟨M, rfl⟩ : ∃ M, N = M + 1 := ⟨N - 1, by omega⟩
    exact c_sumT t wT (b M (by omega))
  | succ d ih =>
    intro hd
    have hB : ∀ i, i < n → B i < 256 := t.2.2
    obtain ⟨-, -, ihS⟩ := ih (by omega)
    have wA : WX n s (pAtom B n s (lowS B n s (d + 1))) 1 (2 * (d + 1) + 1) (fun _ => True) := pAtom_W hB t.2.1 (low_W hB t.2.1 (d + 1)) (by omega)
    have wT : WX n s (pTm B n s (lowS B n s (d + 1))) 1 (2 * (d + 1) + 2) (fun _ => True) := pTm_W hB t.2.1 (low_W hB t.2.1 (d + 1)) (by omega)
    have a : ∀ N, 3 * (d + 1) + 1 ≤ N → PSp B n s ((famX8_atom N).1 (nI (8 - (d + 1)))) (pAtom B n s (lowS B n s (d + 1))) := by
      intro N hN
      obtain ⟨M, rfl⟩ : ∃ M, N = M + 1 := ⟨N - 1, by omega⟩
      refine c_atomT (RA := (famX8_atom M).1) (RS := (famX8_atom M).2.1) (RT := (famX8_atom M).2.2) t hd (fun T h => ?_)
      have h : some (pSm B n s (lowS B n s d)) = some T := h
      injection h with h
      subst h
      rw [show 8 - (d + 1) + 1 = 8 - d by omega]
      exact ihS M (by omega)
    have b : ∀ N, 3 * (d + 1) + 2 ≤ N → PSp B n s ((famX8_atom N).2.2 (nI (8 - (d + 1)))) (pTm B n s (lowS B n s (d + 1))) := by
      intro N hN
      obtain ⟨M, rfl⟩ : ∃ M, N = M + 1 := ⟨N - 1, by omega⟩
      exact c_termT t wA (a M (by omega))
    refine ⟨a, b, fun N h => ?_⟩
    obtain ⟨M, rfl⟩ : ∃ M, N = M + 1 := ⟨N - 1, by omega⟩
    exact c_sumT t wT (b M (by omega))
theorem c_sumF {B : Nat → Nat} {n s : Nat} (t : TX B n s) {d : Nat} (hd : d ≤ 8) : PSp B n s (wX8_sum (nI (8 - d))) (pSm B n s (lowS B n s d)) := PSp_wk ((c_famA t d hd).2.2 (3 * d + 3) (Nat.le_refl _)) (fun x K h => ⟨3 * d + 3, by omega, h⟩)
theorem c_cmpT {B : Nat → Nat} {n s h : Nat} (t : TX B n s) {v1 : Int32} {S : Nat → PR} (w : WX n s S 1 h (fun _ => True)) (hS : PSp B n s (wX8_sum v1) S) : PSp B n s (wX8_comparison v1) (pCmp B n S) := by
  intro x p c0 K hx hl k0 k1
  have hn := t.1
  unfold wX8_comparison
  unfold pCmp at k0 k1
  have wx := w p hx.le
  refine hS x p c0 _ hx hl (fun q hq y fy ay => x0 ?_) (fun q c v hq y fy hy => x1 ?_)
  · rw [hq] at k0
    exact k0 q rfl y fy ay
  rw [hq] at k0 k1
  obtain ⟨a1, a2, a3, -, -⟩ := (wx q).2 c v hq
  obtain ⟨s1, s2, s3⟩ := sk_b (B := B) a2
  refine c_peekT t hy (fun u hu fu => ?_)
  simp only [nI_lit]
  rw [bI_e (t.cb q) (by decide), bI_e (t.cb q) (by decide), bI_e (t.cb q) (by decide)]
  have go : ∀ k, opQ (cB B n q) = k → k ≠ 0 → k < 20 → sk B n q < n → wX8_sum v1 (wr u 158 2 ((u.1 158 2) + 1)) (fun r5 x6 => ((¬ r5 = 0 → wX8_comparison_82 (nI k) x6 K) ∧ (r5 = 0 → K 0 x6))) := by
    intro k o kn k20 lt
    simp only [o, if_neg kn] at k0 k1
    have wy := w (sk B n q + 1) (by omega)
    have nx := hu.nx lt
    refine hS _ (sk B n q + 1) (c0 ++ c) _ nx.1 (by rw [List.length_append]; omega) (fun q2 hq2 u2 f2 a2 => x0 ?_) (fun q2 c2 v2 hq2 u2 f2 a2 => x1 ?_)
    · rw [hq2] at k0
      exact k0 q2 rfl u2 (((fy.tr fu).tr nx.2).tr f2) a2
    · rw [hq2] at k1
      obtain ⟨b1, b3, b4, b5, b6⟩ := (wy q2).2 c2 v2 hq2
      rw [List.append_assoc] at a2
      have ln : (c0 ++ (c ++ c2)).length < 200 := by simp only [List.length_append]; omega
      unfold wX8_comparison_82
      refine c_addT k20 (by decide) a2 ln (fun u3 a7 f3 => ?_)
      rw [List.append_assoc] at a7
      exact k1 _ _ _ rfl u3 ((((fy.tr fu).tr nx.2).tr f2).tr f3) a7
  refine ⟨fun e => ?_, fun e1 => ⟨fun e => ?_, fun e2 => ⟨fun e => ?_, fun e3 => ?_⟩⟩⟩
  · have lt := (cB_lt e (by decide)).1
    rw [e]
    have g := go 5 (by rw [e]; rfl) (by decide) (by decide) lt
    unfold wX8_comparison_35
    refine cast (congrArg (wX8_sum v1 (wr u 158 2 ((u.1 158 2) + 1))) ?_) g
    funext r5 x6
    have e7 : (bI 61 = 61) = True := eq_true (by decide)
    simp only [e7, not_true_eq_false, false_implies, true_and, forall_const]
    rfl
  · have lt := (cB_lt e (by decide)).1
    rw [e]
    have g := go 6 (by rw [e]; rfl) (by decide) (by decide) lt
    unfold wX8_comparison_35
    refine cast (congrArg (wX8_sum v1 (wr u 158 2 ((u.1 158 2) + 1))) ?_) g
    funext r5 x6
    have e7 : (bI 60 = 61) = False := eq_false (by decide)
    have e8 : (bI 60 = 60) = True := eq_true (by decide)
    simp only [e7, e8, not_true_eq_false, not_false_eq_true, false_implies, true_and, and_true, forall_const]
    rfl
  · have lt := (cB_lt e (by decide)).1
    rw [e]
    have g := go 7 (by rw [e]; rfl) (by decide) (by decide) lt
    unfold wX8_comparison_35
    refine cast (congrArg (wX8_sum v1 (wr u 158 2 ((u.1 158 2) + 1))) ?_) g
    funext r5 x6
    have e7 : (bI 62 = 61) = False := eq_false (by decide)
    have e8 : (bI 62 = 60) = False := eq_false (by decide)
    simp only [e7, e8, not_false_eq_true, false_implies, and_true, forall_const]
    rfl
  · have o : opQ (cB B n q) = 0 := by unfold opQ; rw [if_neg e1, if_neg e2, if_neg e3]
    simp only [if_pos o] at k0
    exact k0 _ rfl u (fy.tr fu) hu.2.1
theorem c_unitT {B : Nat → Nat} {n s d : Nat} (t : TX B n s) (hd : d ≤ 8) {RC RP RU : Int32 → ab_X → (Int32 → ab_X → Prop) → Prop} {U C : Option (Nat → PR)} {h : Nat} {S : Nat → PR} (wU : ∀ T, U = some T → WX n s T 3 h isB) (hU : ∀ T, U = some T → PSp B n s (RU (nI (8 - d + 1))) T) (hC : ∀ T, C = some T → PSp B n s (RC (nI (8 - d + 1))) T) (eU : d = 0 → U = none) (eU' : 1 ≤ d → ∃ T, U = some T) (eC : d = 0 → C = none) (eC' : 1 ≤ d → ∃ T, C = some T) (hS : PSp B n s (wX8_comparison (nI (8 - d))) (pCmp B n S)) : PSp B n s (bX8_unit RC RP RU (nI (8 - d))) (pUnit B n U C S) := by
  intro x p c0 K hx hl k0 k1
  have hn := t.1
  obtain ⟨s1, s2, s3⟩ := sk_b (B := B) hx.le
  have cb := t.cb p
  unfold bX8_unit
  refine c_peekT t hx (fun y hy fy => ?_)
  simp only [nI_lit]
  rw [bI_e cb (by decide), bI_e cb (by decide)]
  unfold pUnit at k0 k1
  by_cases c1 : cB B n p = 33
  · rw [if_pos c1] at k0 k1
    have lt := (cB_lt c1 (by decide)).1
    refine ⟨fun u => absurd c1 u, fun _ => ?_⟩
    refine c_opens hd hy lt (fun e => ?_) (fun e z hz fz => ?_)
    · rw [eU e] at k0
      exact y0 (k0 _ rfl y fy hy.2.1)
    · obtain ⟨T, hT⟩ := eU' e
      rw [hT] at k0 k1
      unfold pNot at k0 k1
      refine y1 ?_
      rw [nI_add]
      have wx := wU T hT (sk B n p + 1) (by omega)
      refine hU T hT z (sk B n p + 1) c0 _ hz (by omega) (fun q hq u fu au => x0 ?_) (fun q c v hq u fu hu => x1 ?_)
      · simp only [hq] at k0
        exact k0 q rfl u ((fy.tr fz).tr fu) au
      · simp only [hq] at k1
        obtain ⟨a1, a2, a3, -, -⟩ := (wx q).2 c v hq
        refine c_addT (by decide) (by decide) hu (by rw [List.length_append]; omega) (fun u3 a7 f3 => ?_)
        rw [List.append_assoc] at a7
        exact k1 _ _ _ rfl u3 (((fy.tr fz).tr fu).tr f3) a7
  rw [if_neg c1] at k0 k1
  refine ⟨fun _ => ?_, fun u => absurd u c1⟩
  by_cases c2 : cB B n p = 40
  · rw [if_pos c2] at k0 k1
    have lt := (cB_lt c2 (by decide)).1
    refine ⟨fun u => absurd c2 u, fun _ => ?_⟩
    refine c_opens hd hy lt (fun e => ?_) (fun e z hz fz => ?_)
    · rw [eC e] at k0
      exact y0 (k0 _ rfl y fy hy.2.1)
    · obtain ⟨T, hT⟩ := eC' e
      rw [hT] at k0 k1
      refine y1 ?_
      rw [nI_add]
      exact c_inT (K := K) t (by decide) (hC T hT) hz (by omega) (fun q hq u fu au => k0 q hq u ((fy.tr fz).tr fu) au) (fun q c v hq u fu hu => k1 q c v hq u ((fy.tr fz).tr fu) hu)
  rw [if_neg c2] at k0 k1
  refine ⟨fun _ => ?_, fun u => absurd u c2⟩
  exact hS y (sk B n p) c0 _ hy (by omega) (fun q hq u fu au => ⟨isB_0, k0 q hq u (fy.tr fu) au⟩) (fun q c v hq u fu hu => ⟨isB_1, k1 q c v hq u (fy.tr fu) hu⟩)
theorem c_partT {B : Nat → Nat} {n s h : Nat} (t : TX B n s) {RC RP RU : Int32 → ab_X → (Int32 → ab_X → Prop) → Prop} {v1 : Int32} {X : Nat → PR} (w : WX n s X 3 h isB) (hA : PSp B n s (RU v1) X) : PSp B n s (bX8_part RC RP RU v1) (pPart B n X) := by
  intro x p c0 K hx hl k0 k1
  unfold bX8_part
  unfold pPart pChn at k0 k1
  have wx := w p hx.le
  refine hA x p c0 _ hx hl (fun q hq y fy ay => x0 ?_) (fun q c v hq y fy hy => x1 ?_)
  · rw [hq] at k0
    exact k0 q rfl y fy ay
  · rw [hq] at k0 k1
    obtain ⟨a1, a2, a3, -, -⟩ := (wx q).2 c v hq
    exact c_chn (z := 38) (k := 9) (F := RU v1) (K := K) t hA w (by omega) (by decide) (by decide) (by decide) hy (by omega) (by omega) (fun q' e u fu au => k0 q' e u (fy.tr fu) au) (fun q' c' v' e u fu hu => k1 q' c' v' e u (fy.tr fu) hu)
theorem c_condT {B : Nat → Nat} {n s h : Nat} (t : TX B n s) {RC RP RU : Int32 → ab_X → (Int32 → ab_X → Prop) → Prop} {v1 : Int32} {X : Nat → PR} (w : WX n s (pPart B n X) 3 h isB) (hA : PSp B n s (RP v1) (pPart B n X)) : PSp B n s (bX8_condition RC RP RU v1) (pCond B n X) := by
  intro x p c0 K hx hl k0 k1
  unfold bX8_condition
  unfold pCond pChn at k0 k1
  have wx := w p hx.le
  refine hA x p c0 _ hx hl (fun q hq y fy ay => x0 ?_) (fun q c v hq y fy hy => x1 ?_)
  · rw [hq] at k0
    exact k0 q rfl y fy ay
  · rw [hq] at k0 k1
    obtain ⟨a1, a2, a3, -, -⟩ := (wx q).2 c v hq
    exact c_chn (z := 124) (k := 10) (F := RP v1) (K := K) t hA w (by omega) (by decide) (by decide) (by decide) hy (by omega) (by omega) (fun q' e u fu au => k0 q' e u (fy.tr fu) au) (fun q' c' v' e u fu hu => k1 q' c' v' e u (fy.tr fu) hu)
theorem c_famC {B : Nat → Nat} {n s : Nat} (t : TX B n s) : ∀ d, d ≤ 8 → (∀ N, 3 * d + 1 ≤ N → PSp B n s ((famX8_condition N).2.2 (nI (8 - d))) (pU B n s d)) ∧ (∀ N, 3 * d + 2 ≤ N → PSp B n s ((famX8_condition N).2.1 (nI (8 - d))) (pPart B n (pU B n s d))) ∧ (∀ N, 3 * d + 3 ≤ N → PSp B n s ((famX8_condition N).1 (nI (8 - d))) (pCond B n (pU B n s d))) := by
  have hB : ∀ i, i < n → B i < 256 := t.2.2
  have fin : ∀ d, d ≤ 8 → (∀ N, 3 * d + 1 ≤ N → PSp B n s ((famX8_condition N).2.2 (nI (8 - d))) (pU B n s d)) → (∀ N, 3 * d + 1 ≤ N → PSp B n s ((famX8_condition N).2.2 (nI (8 - d))) (pU B n s d)) ∧ (∀ N, 3 * d + 2 ≤ N → PSp B n s ((famX8_condition N).2.1 (nI (8 - d))) (pPart B n (pU B n s d))) ∧ (∀ N, 3 * d + 3 ≤ N → PSp B n s ((famX8_condition N).1 (nI (8 - d))) (pCond B n (pU B n s d))) := by
    intro d hd a
    have wU := pU_W hB t.2.1 d
    have b : ∀ N, 3 * d + 2 ≤ N → PSp B n s ((famX8_condition N).2.1 (nI (8 - d))) (pPart B n (pU B n s d)) := by
      intro N hN
      obtain ⟨M, rfl⟩ : ∃ M, N = M + 1 := ⟨N - 1, by omega⟩
      exact c_partT t wU (a M (by omega))
    refine ⟨a, b, fun N hN => ?_⟩
    obtain ⟨M, rfl⟩ : ∃ M, N = M + 1 := ⟨N - 1, by omega⟩
    exact c_condT t (pPart_W wU) (b M (by omega))
  intro d
  induction d with
  | zero =>
    intro hd
    refine fin 0 hd (fun N hN => ?_)
    obtain ⟨M, rfl⟩ : ∃ M, N = M + 1 := ⟨N - 1, by omega⟩
    exact c_unitT (RC := (famX8_condition M).1) (RP := (famX8_condition M).2.1) (RU := (famX8_condition M).2.2) (U := none) (C := none) (h := 0) t hd (fun T h => by cases h) (fun T h => by cases h) (fun T h => by cases h) (fun _ => rfl) (fun h => by omega) (fun _ => rfl) (fun h => by omega) (c_cmpT t (sum_W hB t.2.1 0) (c_sumF t hd))
  | succ d ih =>
    intro hd
    obtain ⟨i1, -, i3⟩ := ih (by omega)
    refine fin (d + 1) hd (fun N hN => ?_)
    obtain ⟨M, rfl⟩ : ∃ M, N = M + 1 := ⟨N - 1, by omega⟩
    refine c_unitT (RC := (famX8_condition M).1) (RP := (famX8_condition M).2.1) (RU := (famX8_condition M).2.2) (U := some (pU B n s d)) (C := some (pCond B n (pU B n s d))) (h := 2 * d + 4) t hd (fun T h => ?_) (fun T h => ?_) (fun T h => ?_) (fun h => by omega) (fun _ => ⟨_, rfl⟩) (fun h => by omega) (fun _ => ⟨_, rfl⟩) (c_cmpT t (sum_W hB t.2.1 (d + 1)) (c_sumF t hd))
    · injection h with h; subst h; exact pU_W hB t.2.1 d
    · injection h with h; subst h
      rw [show 8 - (d + 1) + 1 = 8 - d by omega]
      exact i1 M (by omega)
    · injection h with h; subst h
      rw [show 8 - (d + 1) + 1 = 8 - d by omega]
      exact i3 M (by omega)
theorem c_condF {B : Nat → Nat} {n s : Nat} (t : TX B n s) : PSp B n s (wX8_condition (nI 0)) (pCo B n s) := PSp_wk ((c_famC t 8 (Nat.le_refl _)).2.2 27 (by omega)) (fun x K h => ⟨27, by omega, h⟩)
