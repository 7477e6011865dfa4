/-! TEXTS, 11: the reference reads whole texts. -/
theorem m_clause {B : Nat → Nat} {n s tc fr : Nat} (t : TX B n s) (tr : TR8 n tc fr) {x : ab_X} {p m : Nat} {S : ST} (hx : RRd B n s tc fr x p 8) (hS : RE x S) (hm : S.2.2.length ≤ m) (hm2 : m < 200) {K : ab_X → Prop} (k0 : ∀ q, pCl B n s p = (q, none) → ∀ z, rg x z → z.1 246 81 = nI q → K z) (k1 : ∀ q l, pCl B n s p = (q, some l) → ∀ z, rg x z → RRd B n s tc fr z q 8 → RE z (clE (x.1 307) m l S) → K z) : wX12_clause (if s = 0 then nI 0 else nI 1) (nI m) x K := by
  have hn := t.1
  have hB : ∀ i, i < n → B i < 256 := t.2.2
  have wx := pCo_W hB t.2.1 p hx.le
  unfold pCl at k0 k1
  unfold wX12_clause
  refine m_condF t tr.1 x p _ hx (fun q hq y r fy ay pr => ?_) (fun q c v hq y fy hy => ?_)
  · rw [hq] at k0
    have := ((wx q).1 hq).2
    exact m_takesF ay (by omega) (x0 (k0 q rfl y fy.g ay))
  rw [hq] at k0 k1
  obtain ⟨a1, a2, a3, a4, a5⟩ := (wx q).2 c v hq
  obtain ⟨r1, r2, r3⟩ := sk_b (B := B) a2
  refine m_takes t tr.1 (by decide) hy (fun e u hu fu => x1 ?_) (fun e u fu au => x0 ?_)
  case refine_2 =>
    simp only [if_neg e] at k0
    exact k0 _ rfl u (fy.g.tr fu.g) au
  simp only [if_pos e] at k0 k1
  have lt : sk B n q + 1 ≤ n := (cB_lt e (by decide)).1
  have main : ∀ u' S', rg x u' → RRd B n s tc fr u' (sk B n q + 1) 8 → RE u' S' → S'.2.2.length < 200 → S' = (if v (x.1 307) = nI 0 then S else wyF m S) → wX12_clause_37 (if s = 0 then nI 0 else nI 1) (v (x.1 307)) u' K := by
    intro u' S' fu' hu' hE hl eS
    have pb := pAn_b (s := s) hB lt
    unfold pAn at k0 k1 pb
    by_cases e0 : s = 0
    · simp only [if_pos e0] at k0 k1 ⊢
      refine m_acts t tr (a4 _) hu' hE (fun q2 hq2 z fz az => ?_) (fun q2 a v2 hq2 z fz hz hEz => ?_)
      · rw [hq2] at k0
        exact k0 _ rfl z (fu'.tr fz) az
      · rw [hq2] at k1
        refine k1 _ _ rfl z (fu'.tr fz) hz ?_
        show RE z (if v (x.1 307) = nI 0 then S else acs a (wyF m S))
        by_cases w : v (x.1 307) = nI 0
        · rw [if_pos w] at hEz eS ⊢
          rw [← eS]; exact hEz
        · rw [if_neg w] at hEz eS ⊢
          rw [← eS]; exact hEz
    · simp only [if_neg e0] at k0 k1 pb ⊢
      unfold wX12_clause_37
      refine y1 ?_
      refine m_numT (mx := 3) (kd := 13) t tr.1 (by decide) u' (sk B n q + 1) _ hu' (fun q2 hq2 z r fz az _ => ?_) (fun q2 a v2 hq2 z fz hz => ?_)
      · rw [hq2] at k0
        have := ((pb q2).1 hq2).2
        exact ⟨fun _ => k0 _ rfl z (fu'.tr fz.g) az, fun u => absurd u (flt az (by omega))⟩
      · rw [hq2] at k1
        obtain ⟨w, hw, ea, ev⟩ := pNum_v lt hq2
        subst ea; subst ev
        have hEz := hE.rf fz
        refine ⟨fun u => absurd hz.ok u, fun _ => ⟨fun u => ?_, fun u => ?_⟩⟩
        · have u : ¬ v (x.1 307) = nI 0 := u
          rw [if_neg u] at eS
          rw [hEz.2.2.1, cl_nI (by omega)]
          refine ⟨(vpi (by omega) (by omega)).mpr trivial, k1 _ _ rfl _ (fu'.tr (fz.g.tr ⟨fun c k a b d => by rw [wr_ne (by omega), wr_n d], rfl⟩)) ?_ ?_⟩
          · obtain ⟨g1, g2, g3, g4, g5, g6, g7, g8, g9⟩ := hz
            exact ⟨g1, g2, by rw [wr_k (by decide), wr_n (by decide)]; exact g3, by rw [wr_k (by decide), wr_n (by decide)]; exact g4, by rw [wr_k (by decide), wr_n (by decide)]; exact g5, by rw [wr_k (by decide), wr_n (by decide)]; exact g6, by rw [wr_k (by decide), wr_n (by decide)]; exact g7, fun i hi => by rw [wr_n tr.1.1, wr_n tr.2.2]; exact g8 i hi, g9⟩
          · show RE _ (if v (x.1 307) = nI 0 then S else ac1 (wd 13 w) (wyF m S))
            rw [if_neg u, ← eS]
            unfold ac1
            rw [if_neg (by rw [wd_dk (by omega)]; decide), wd_dv (by omega)]
            obtain ⟨g1, g2, g3, g4⟩ := hEz
            refine ⟨by rw [wr_k (by decide), wr_n (by decide)]; exact g1, fun k hk => by rw [wr_n (by decide), wr_n (by decide)]; exact g2 k hk, ?_, fun i hi => ?_⟩
            · rw [wr_e, wr_n (by decide), g3]
              show nI S'.2.2.length + 1 = nI (S'.2.2 ++ [nI w]).length
              rw [List.length_append]; exact nI_add _ 1
            · have hi : i < (S'.2.2 ++ [nI w]).length := hi
              rw [List.length_append] at hi
              have hi : i < S'.2.2.length + 1 := hi
              show _ = (S'.2.2 ++ [nI w]).getD i 0
              rw [wr_n (by decide)]
              by_cases qq : i = S'.2.2.length
              · subst qq
                rw [wr_e]
                simp [List.getD_eq_getElem?_getD]
              · rw [wr_k qq, g4 i (by omega)]
                simp [List.getD_eq_getElem?_getD, List.getElem?_append_left (show i < S'.2.2.length by omega)]
        · have u : v (x.1 307) = nI 0 := u
          rw [if_pos u] at eS
          refine k1 _ _ rfl z (fu'.tr fz.g) hz ?_
          show RE z (if v (x.1 307) = nI 0 then S else ac1 (wd 13 w) (wyF m S))
          rw [if_pos u, ← eS]; exact hEz
  have fu' : rg x u := fy.g.tr fu.g
  have hSu : RE u S := hS.rf (fy.tr fu)
  refine ⟨fun w => main u S fu' hu hSu (by omega) (by have w : v (x.1 307) = nI 0 := w; rw [if_pos w]), fun w => ?_⟩
  have w : ¬ v (x.1 307) = nI 0 := w
  simp only [nI_lit]
  rw [q_le (by omega) (by omega)]
  refine ⟨fun w2 => main u (wyF m S) fu' hu ?_ (by show S.2.2.length < 200; omega) (by rw [if_neg w]), fun w2 => main _ (wyF m S) (fu'.tr ⟨fun c k a b d => wr_ne (by omega), rfl⟩) ?_ ?_ (by show S.2.2.length < 200; omega) (by rw [if_neg w])⟩
  · unfold wyF
    rw [if_neg (by omega)]; exact hSu
  · obtain ⟨g1, g2, g3, g4, g5, g6, g7, g8, g9⟩ := hu
    exact ⟨g1, g2, by rw [wr_k (by decide)]; exact g3, by rw [wr_k (by decide)]; exact g4, by rw [wr_k (by decide)]; exact g5, by rw [wr_k (by decide)]; exact g6, by rw [wr_k (by decide)]; exact g7, fun i hi => by rw [wr_n tr.1.1]; exact g8 i hi, g9⟩
  · obtain ⟨g1, g2, g3, g4⟩ := hSu
    unfold wyF
    rw [if_pos (by omega)]
    refine ⟨by rw [wr_e, g1], fun k hk => by rw [wr_n (by decide)]; exact g2 k hk, by rw [wr_k (by decide)]; exact g3, fun i hi => by rw [wr_n (by decide)]; exact g4 i hi⟩
def rgA (x z : ab_X) : Prop := (∀ c k, ¬ (c = 246 ∧ (k = 74 ∨ k = 75 ∨ (78 ≤ k ∧ k ≤ 82))) → c ≠ 308 → c ≠ 309 → z.1 c k = x.1 c k) ∧ z.2.1 = x.2.1 ∧ z.2.2.1 = x.2.2.1 ∧ z.2.2.2.1 = x.2.2.2.1
theorem rgA.tr {x y z : ab_X} (h : rgA x y) (f : rg y z) : rgA x z := ⟨fun c k a b d => (f.1 c k (by omega) b d).trans (h.1 c k a b d), by rw [f.2]; exact h.2.1, by rw [f.2]; exact h.2.2.1, by rw [f.2]; exact h.2.2.2⟩
theorem txE_len {e : Nat → Int32} {s : Nat} : ∀ l n S, (∀ a, a ∈ l → okCL s a) → (txE e n l S).2.2.length ≤ S.2.2.length + l.length
  | [], n, S, _ => Nat.le_refl _
  | a :: l, n, S, h => by
    have ih := txE_len (e := e) l (n + 1) (clE e n a S) (fun u hu => h u (List.mem_cons_of_mem _ hu))
    have b := clE_len (e := e) (n := n) (S := S) (h a (List.mem_cons_self ..)).2.2
    show (txE e (n + 1) l (clE e n a S)).2.2.length ≤ S.2.2.length + (l.length + 1)
    omega
theorem m_texts {B : Nat → Nat} {n s tc fr : Nat} (t : TX B n s) (tr : TR8 n tc fr) (s1 : s ≠ 1) {x : ab_X} (hx : RRd B n s tc fr x 0 8) (hS : RE x S0) {K : Int32 → ab_X → Prop} (k0 : ∀ q, pTx B n s (n + 1) 0 [] = (q, none) → ∀ z, rg x z → z.1 246 81 = nI q → ∀ r, K r z) (k1 : ∀ q l, pTx B n s (n + 1) 0 [] = (q, some l) → ∀ z, rg x z → z.1 246 81 = -nI 1 → RE z (txE (x.1 307) 0 l S0) → ∀ r, K r z) : Lp3 (lX12_goThrough_133 (nI s) K) 0 1 x := by
  have hn := t.1
  have hs := t.2.1
  have pT := pTx_b t (n + 1) 0 [] (Nat.zero_le _) (by omega) (by simp) (by simp [cdT]) (fun a ha => absurd ha (List.not_mem_nil))
  generalize hT : pTx B n s (n + 1) 0 [] = T at k0 k1 pT
  have e220 : ∀ z, (∀ r, K r z) → wX12_goThrough_220 z K := fun z h => ⟨fun _ => h _, fun _ => h _⟩
  refine Lp3.ind (fun ii a b y => rg x y ∧ ((b = nI 1 ∧ ∃ p l, a = nI l.length ∧ n < p + ii ∧ RRd B n s tc fr y p 8 ∧ 5 * l.length ≤ p ∧ (∀ u, u ∈ l → okCL s u) ∧ RE y (txE (x.1 307) 0 l S0) ∧ pTx B n s ii p l = T) ∨ (b = nI 0 ∧ ∃ q l, RRd B n s tc fr y q 8 ∧ RE y (txE (x.1 307) 0 l S0) ∧ (if cB B n q = 256 then (sk B n q, some l) else (sk B n q, none)) = T) ∨ (b = nI 0 ∧ ∃ q, y.1 246 81 = nI q ∧ q ≤ n ∧ T = (q, none)))) (n + 1) ⟨rg.rfl', Or.inl ⟨rfl, 0, [], rfl, by omega, hx, by simp, fun a ha => absurd ha (List.not_mem_nil), hS, hT⟩⟩ ?_
  rintro ii a b y ⟨fy, ⟨rfl, p, l, rfl, hii, hy, h5, hok, hE, hR⟩ | ⟨rfl, q, l, hy, hE, hR⟩ | ⟨rfl, q, aq, hq, hR⟩⟩ L hL
  case inr.inr =>
    unfold lX12_goThrough_133
    exact y0 ⟨fun _ => e220 y (fun r => k0 q hR y fy aq r), fun u => absurd u (flt aq (by omega))⟩
  case inr.inl =>
    unfold lX12_goThrough_133
    refine y0 ⟨fun u => absurd hy.ok u, fun _ => ?_⟩
    refine m_lookT t tr.1 hy (fun u hu fu => ?_)
    simp only [nI_lit]
    rw [bI_o (t.cb q)]
    refine ⟨fun e => ?_, fun e => ?_⟩
    · rw [if_pos e] at hR
      exact e220 u (fun r => k1 _ _ hR.symm u (fy.tr fu.g) hu.ok (hE.rf fu) r)
    · rw [if_neg e] at hR
      exact m_stopT hu (fun z fz az _ => e220 z (fun r => k0 _ hR.symm z ((fy.tr fu.g).tr fz.g) az r))
  have hp := hy.le
  cases ii with
  | zero => omega
  | succ f =>
    unfold lX12_goThrough_133
    refine y1 ?_
    unfold pTx at hR
    have b := pCl_b t hp
    have len := txE_len (e := x.1 307) l 0 S0 hok
    have len : (txE (x.1 307) 0 l S0).2.2.length ≤ l.length := by
      have e0 : S0.2.2.length = 0 := rfl
      omega
    have go : wX12_goThrough_149 (nI s) (nI l.length) (if s = 0 then nI 0 else nI 1) y K L := by
      unfold wX12_goThrough_149
      refine m_clause t tr hy hE len (by omega) (fun q hq z fz az => ?_) (fun q r hq z fz hz hEz => ?_)
      · rw [hq] at hR
        have := ((b q).1 hq).2
        refine ⟨fun _ => ?_, fun u => absurd u (flt az (by omega))⟩
        unfold wX12_goThrough_178 wX12_goThrough_179
        exact y0 (hL _ _ _ _ (Nat.lt_succ_self f) ⟨fy.tr fz, Or.inr (Or.inr ⟨rfl, q, az, this, hR.symm⟩)⟩)
      · rw [hq] at hR
        obtain ⟨c, v, a⟩ := r
        obtain ⟨a1, a2, a3, a4, a5, a6⟩ := (b q).2 c v a hq
        obtain ⟨r1, r2, r3⟩ := sk_b (B := B) a2
        refine ⟨fun u => absurd hz.ok u, fun _ => ?_⟩
        have eE : clE (y.1 307) l.length (c, v, a) (txE (x.1 307) 0 l S0) = txE (x.1 307) 0 (l ++ [(c, v, a)]) S0 := by
          rw [txE_app, Nat.zero_add, fy.ev]
        rw [eE] at hEz
        refine m_lookT t tr.1 hz (fun u hu fu => ?_)
        simp only [nI_lit]
        rw [bI_e (t.cb q) (by decide)]
        refine ⟨fun e => ?_, fun e => ?_⟩
        · unfold wX12_goThrough_178 wX12_goThrough_179
          refine y0 (hL _ _ _ _ (Nat.lt_succ_self f) ⟨(fy.tr fz).tr fu.g, Or.inr (Or.inl ⟨rfl, _, _, hu, hEz.rf fu, ?_⟩)⟩)
          rw [cB_sk a2, sk_sk a2]
          simp only [if_neg e] at hR
          exact hR
        · unfold wX12_goThrough_179
          have lt := (cB_lt e (by decide)).1
          have e6 : ¬ cB B n q = 256 := by omega
          simp only [if_neg e6, if_pos e] at hR
          have e5 : nI l.length + nI 1 = nI (l ++ [(c, v, a)]).length := by rw [List.length_append]; exact nI_add _ 1
          rw [e5]
          refine y1 (hL _ _ _ _ (Nat.lt_succ_self f) ⟨((fy.tr fz).tr fu.g).tr rf.w80.g, Or.inl ⟨rfl, _, _, rfl, by omega, hu.nx tr.1 lt, ?_, ?_, (hEz.rf fu).rf rf.w80, hR⟩⟩)
          · rw [List.length_append]; simp only [List.length_cons, List.length_nil]; omega
          · intro w hw
            rcases List.mem_append.mp hw with h | h
            · exact hok w h
            · rw [List.mem_singleton.mp h]; exact ⟨a4, a5, a6⟩
    simp only [nI_lit]
    rw [q_eq (by omega) (by omega)]
    refine ⟨fun e => ?_, fun e => ?_⟩
    · rw [if_pos (by omega)] at go; exact go
    · rw [if_neg (by omega)] at go; exact go
theorem m_goThr {B : Nat → Nat} {n s tc fr : Nat} (t : TX B n s) (tr : TR8 n tc fr) {x : ab_X} (hb : ∀ i, i < n → x.1 tc (fr + i) = s8 (B i)) {K : Int32 → ab_X → Prop} (k0 : ∀ q, pA B n s = (q, none) → ∀ z, rgA x z → z.1 246 81 = nI q → ∀ r, K r z) (k1 : s ≠ 1 → ∀ q l, pTx B n s (n + 1) 0 [] = (q, some l) → ∀ z, rgA x z → z.1 246 81 = -nI 1 → RE z (txE (x.1 307) 0 l S0) → ∀ r, K r z) (k2 : s = 1 → ∀ q c v, pLv B n 0 = (q, some (c, v)) → ∀ z, rgA x z → z.1 246 81 = -nI 1 → K (v (x.1 307)) z) : wX12_goThrough (nI s) tc (nI fr) (nI n) x K := by
  have hn := t.1
  have hs := t.2.1
  have hB : ∀ i, i < n → B i < 256 := t.2.2
  unfold wX12_goThrough
  refine Lp2.ind (fun ii a y => ∃ j, j ≤ 5 ∧ ii = 5 - j ∧ a = nI j ∧ rgA x y ∧ y.2.2.2.2.1 = tc ∧ y.1 246 78 = nI fr ∧ y.1 246 79 = nI n ∧ y.1 246 80 = nI 0 ∧ y.1 246 81 = -nI 1 ∧ y.1 246 82 = nI 0 ∧ y.1 246 74 = nI 0 ∧ y.1 246 75 = nI 0 ∧ ∀ k, k < j → y.1 308 k = nI 0) 5 ⟨0, by decide, rfl, rfl, ⟨fun c k a b d => ?_, rfl, rfl, rfl⟩, rfl, ?_, ?_, ?_, ?_, ?_, ?_, ?_, fun k hk => absurd hk (Nat.not_lt_zero k)⟩ ?_
  · simp (disch := omega) only [wr_ne]; rfl
  · simp (disch := omega) only [wr_ne]; rw [wr_e]
  · simp (disch := omega) only [wr_ne]; rw [wr_e]
  · simp (disch := omega) only [wr_ne]; rw [wr_e]; rfl
  · simp (disch := omega) only [wr_ne]; rw [wr_e]; rfl
  · simp (disch := omega) only [wr_ne]; rw [wr_e]; rfl
  · simp (disch := omega) only [wr_ne]; rw [wr_e]; rfl
  · rw [wr_e]; rfl
  rintro ii a y ⟨j, hj, hii, rfl, fy, h0, h1, h2, h3, h4, h5, h6, h7, h8⟩ L hL
  unfold lX12_goThrough_44
  have key : j = 5 → wX12_goThrough_89 (nI s) (1000000 + s) y K := by
    intro e
    subst e
    have hz : RRd B n s tc fr (wmk y (1000000 + s)) 0 8 := ⟨h0, rfl, h1, h2, h3, h4, h5, fun i hi => by
      show y.1 tc (fr + i) = _
      rw [fy.1 tc (fr + i) (by have := tr.1.1; omega) tr.2.1 tr.2.2]; exact hb i hi, by omega⟩
    have hE : RE (wmk y (1000000 + s)) S0 := ⟨h7, h8, h6, fun i hi => absurd hi (Nat.not_lt_zero i)⟩
    have fz : rgA x (wmk y (1000000 + s)) := fy
    have ev : (wmk y (1000000 + s)).1 307 = x.1 307 := funext (fun k => fy.1 307 k (by omega) (by decide) (by decide))
    unfold wX12_goThrough_89
    generalize wmk y (1000000 + s) = w at hz hE fz ev
    simp only [nI_lit]
    rw [q_eq (by omega) (by omega)]
    refine ⟨fun s1 => ?_, fun s1 => ?_⟩
    · unfold pA at k0
      rw [if_neg s1] at k0
      refine m_texts t tr s1 hz hE (fun q hq z gz az r => ?_) (fun q l hq z gz az rz r => ?_)
      · rw [hq] at k0
        exact k0 q rfl z (fz.tr gz) az r
      · rw [ev] at rz
        exact k1 s1 q l hq z (fz.tr gz) az rz r
    · unfold pA at k0
      rw [if_pos s1] at k0
      have k3 := k2 s1
      unfold pLv at k0 k3
      subst s1
      have wx := pCo_W hB t.2.1 0 (Nat.zero_le _)
      refine m_condF t tr.1 w 0 _ hz (fun q hq z r gz az pr => ?_) (fun q c v hq z gz hz => ?_)
      · rw [hq] at k0
        have := ((wx q).1 hq).2
        exact ⟨fun _ => ⟨pr, k0 q rfl z (fz.tr gz.g) az _⟩, fun u => absurd u (flt az (by omega))⟩
      rw [hq] at k0 k3
      obtain ⟨a1, a2, a3, a4, a5⟩ := (wx q).2 c v hq
      rw [ev]
      refine ⟨fun u => absurd hz.ok u, fun _ => ?_⟩
      refine m_lookT t tr.1 hz (fun u hu fu => ?_)
      rw [bI_o (t.cb q)]
      refine ⟨fun e => ⟨a4 _, ?_⟩, fun e => ?_⟩
      · simp only [if_pos e] at k3
        exact k3 _ _ _ rfl u (fz.tr (gz.tr fu).g) hu.ok
      · simp only [if_neg e] at k0
        exact m_stopT hu (fun g fg ag _ => ⟨a4 _, k0 _ rfl g ((fz.tr (gz.tr fu).g).tr fg.g) ag _⟩)
  simp only [nI_lit]
  rw [q_le (by omega) (by omega), q_eq (by omega) (by omega), q_eq (by omega) (by omega)]
  refine ⟨fun e => ?_, fun e => ⟨(vpi (by omega) (by omega)).mpr trivial, ?_⟩⟩
  · have key := key (by omega)
    refine ⟨fun e0 => ⟨fun e1 => ?_, fun e1 => ?_⟩, fun e0 => ?_⟩
    · have e2 : s = 2 := by omega
      rw [e2] at key ⊢; exact key
    · rw [e1] at key ⊢; exact key
    · rw [e0] at key ⊢; exact key
  · rw [cl_nI (by omega), nI_add]
    refine hL (5 - (j + 1)) _ _ (by omega) ⟨j + 1, by omega, rfl, rfl, ⟨fun c k a b d => ?_, fy.2.1, fy.2.2.1, fy.2.2.2⟩, h0, ?_, ?_, ?_, ?_, ?_, ?_, ?_, fun k hk => ?_⟩
    · rw [wr_n b]; exact fy.1 c k a b d
    · rw [wr_n (by decide)]; exact h1
    · rw [wr_n (by decide)]; exact h2
    · rw [wr_n (by decide)]; exact h3
    · rw [wr_n (by decide)]; exact h4
    · rw [wr_n (by decide)]; exact h5
    · rw [wr_n (by decide)]; exact h6
    · rw [wr_n (by decide)]; exact h7
    · by_cases q : k = j
      · rw [q, wr_e]
      · rw [wr_k q]; exact h8 k (by omega)
