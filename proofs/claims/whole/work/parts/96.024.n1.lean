/-! TEXTS, 10: what clauses do; the reference reads them. -/
abbrev ST : Type := Int32 × (Nat → Int32) × List Int32
def updI (f : Nat → Int32) (k : Nat) (v : Int32) : Nat → Int32 := fun j => if j = k then v else f j
def ac1 (w : Nat) (S : ST) : ST := if w / 65536 = 12 then (S.1, updI S.2.1 (w % 65536 / 10) (imin 9 (S.2.1 (w % 65536 / 10) + nI (w % 65536 % 10))), S.2.2) else (S.1, S.2.1, S.2.2 ++ [nI (w % 65536)])
def acs : List Nat → ST → ST
  | [], S => S
  | w :: l, S => acs l (ac1 w S)
theorem acs_app : ∀ a w S, acs (a ++ [w]) S = ac1 w (acs a S)
  | [], w, S => rfl
  | u :: a, w, S => acs_app a w (ac1 u S)
def wyF (n : Nat) (S : ST) : ST := (if n < 30 then S.1 ||| (nI 1 <<< (nI n &&& nI 31)) else S.1, S.2)
def clE (e : Nat → Int32) (n : Nat) (l : CL) (S : ST) : ST := if l.2.1 e = nI 0 then S else acs l.2.2 (wyF n S)
def txE (e : Nat → Int32) : Nat → List CL → ST → ST
  | _, [], S => S
  | n, l :: t, S => txE e (n + 1) t (clE e n l S)
theorem txE_app {e : Nat → Int32} : ∀ l n a S, txE e n (l ++ [a]) S = clE e (n + l.length) a (txE e n l S)
  | [], n, a, S => rfl
  | u :: l, n, a, S => by
    show txE e (n + 1) (l ++ [a]) (clE e n u S) = clE e (n + (l.length + 1)) a (txE e (n + 1) l (clE e n u S))
    rw [txE_app l (n + 1) a, show n + 1 + l.length = n + (l.length + 1) by omega]
def S0 : ST := (nI 0, fun _ => nI 0, [])
theorem acs_len : ∀ a S, (∀ w, w ∈ a → isAw w) → (acs a S).2.2 = S.2.2
  | [], S, _ => rfl
  | u :: a, S, h => by
    show (acs a (ac1 u S)).2.2 = S.2.2
    rw [acs_len a _ (fun w hw => h w (List.mem_cons_of_mem _ hw))]
    obtain ⟨k, dg, h1, h2, e⟩ := h u (List.mem_cons_self ..)
    unfold ac1
    rw [if_pos (by rw [e]; exact wd_dk (by omega))]
theorem clE_len {e : Nat → Int32} {n s : Nat} {l : CL} {S : ST} (h : isAx s l.2.2) : (clE e n l S).2.2.length ≤ S.2.2.length + 1 := by
  unfold clE
  split
  · omega
  · by_cases q : s = 0
    · rw [acs_len _ _ (h.1 q)]
      exact Nat.le_succ _
    · obtain ⟨v, hv, e⟩ := h.2 q
      rw [e]
      show (ac1 (wd 13 v) (wyF n S)).2.2.length ≤ _
      unfold ac1
      rw [if_neg (by rw [wd_dk (by omega)]; decide)]
      show (S.2.2 ++ [_]).length ≤ _
      rw [List.length_append]
      exact Nat.le_refl _
/-- the reference's cells of what a text does -/
def RE (x : ab_X) (S : ST) : Prop := x.1 246 75 = S.1 ∧ (∀ k, k < 5 → x.1 308 k = S.2.1 k) ∧ x.1 246 74 = nI S.2.2.length ∧ ∀ i, i < S.2.2.length → x.1 309 i = S.2.2.getD i 0
theorem RE.rf {x y : ab_X} {S : ST} (h : RE x S) (f : rf x y) : RE y S := ⟨by rw [f.1 _ _ (by omega)]; exact h.1, fun k hk => by rw [f.1 _ _ (by omega)]; exact h.2.1 k hk, by rw [f.1 _ _ (by omega)]; exact h.2.2.1, fun i hi => by rw [f.1 _ _ (by omega)]; exact h.2.2.2 i hi⟩
def rg (x y : ab_X) : Prop := (∀ c k, ¬ (c = 246 ∧ (k = 80 ∨ k = 81 ∨ k = 82 ∨ k = 74 ∨ k = 75)) → c ≠ 308 → c ≠ 309 → y.1 c k = x.1 c k) ∧ y.2 = x.2
theorem rg.rfl' {x : ab_X} : rg x x := ⟨fun _ _ _ _ _ => rfl, rfl⟩
theorem rg.tr {x y z : ab_X} (h : rg x y) (h2 : rg y z) : rg x z := ⟨fun c k a b d => (h2.1 c k a b d).trans (h.1 c k a b d), h2.2.trans h.2⟩
theorem rf.g {x y : ab_X} (h : rf x y) : rg x y := ⟨fun c k a b d => h.1 c k (by omega), h.2⟩
theorem rg.ev {x y : ab_X} (h : rg x y) : y.1 307 = x.1 307 := funext (fun k => h.1 307 k (by omega) (by decide) (by decide))
def aO (c : Nat) : Int32 := if c = 256 then -nI 1 else kxI 3 c
theorem aO_e : ∀ c, c < 257 → aO c = if c = 112 then nI 0 else if c = 115 then nI 1 else if c = 108 then nI 2 else if c = 99 then nI 3 else if c = 109 then nI 4 else -nI 1 := by decide +kernel
theorem m_actionOf {c : Nat} (hc : c ≤ 256) {x : ab_X} {K : Int32 → Prop} (k : K (aO c)) : wX12_actionOf (bI c) x K := by
  unfold wX12_actionOf
  simp only [nI_lit]
  rw [bI_e hc (by decide), bI_e hc (by decide), bI_e hc (by decide), bI_e hc (by decide), bI_e hc (by decide)]
  rw [aO_e c (by omega)] at k
  by_cases e1 : c = 112
  · rw [if_pos e1] at k
    exact ⟨fun u => absurd e1 u, fun _ => k⟩
  rw [if_neg e1] at k
  refine ⟨fun _ => ?_, fun u => absurd u e1⟩
  by_cases e2 : c = 115
  · rw [if_pos e2] at k
    exact ⟨fun u => absurd e2 u, fun _ => k⟩
  rw [if_neg e2] at k
  refine ⟨fun _ => ?_, fun u => absurd u e2⟩
  by_cases e3 : c = 108
  · rw [if_pos e3] at k
    exact ⟨fun u => absurd e3 u, fun _ => k⟩
  rw [if_neg e3] at k
  refine ⟨fun _ => ?_, fun u => absurd u e3⟩
  by_cases e4 : c = 99
  · rw [if_pos e4] at k
    exact ⟨fun u => absurd e4 u, fun _ => k⟩
  rw [if_neg e4] at k
  refine ⟨fun _ => ?_, fun u => absurd u e4⟩
  by_cases e5 : c = 109
  · rw [if_pos e5] at k
    exact ⟨fun u => absurd e5 u, fun _ => k⟩
  rw [if_neg e5] at k
  exact ⟨fun _ => k, fun u => absurd u e5⟩
theorem pNum_v {B : Nat → Nat} {n p q : Nat} {a : List Nat} {v : (Nat → Int32) → Int32} (hp : p ≤ n) (h : pNum B n 3 13 p = (q, some (a, v))) : ∃ w, w < 1000 ∧ a = [wd 13 w] ∧ v = fun _ => nI w := by
  obtain ⟨k1, k2, k3⟩ := sk_b (B := B) hp
  unfold pNum at h
  by_cases c : sk B n p < n ∧ (48 ≤ B (sk B n p) ∧ B (sk B n p) ≤ 57)
  · rw [if_pos c, nuF_1 c.1 c.2 (by decide)] at h
    have b := nuF_b (B := B) (n := n) (mx := 3) 3 1 (sk B n p + 1) (B (sk B n p) - 48) (by omega) (by omega) (by omega)
    cases hx : nuF B n 3 3 1 (sk B n p + 1) (B (sk B n p) - 48) with
    | mk q1 r1 =>
      rw [hx] at h
      cases r1 with
      | none => cases h
      | some r1 =>
        have bb := (b q1).2 r1 hx
        injection h with u1 u2
        injection u2 with u2
        injection u2 with u2 u3
        exact ⟨r1, by omega, u2.symm, u3.symm⟩
  · rw [if_neg c] at h
    cases h
def TR8 (n tc fr : Nat) : Prop := TR5 n tc fr ∧ tc ≠ 308 ∧ tc ≠ 309
/-- what the actions of a clause come to -/
theorem m_acts {B : Nat → Nat} {n s tc fr : Nat} (t : TX B n s) (tr : TR8 n tc fr) {x : ab_X} {p : Nat} {v3 : Int32} {S : ST} (hv : isB v3) (hx : RRd B n s tc fr x p 8) (hS : RE x S) {K : ab_X → Prop} (k0 : ∀ q, pAcP B n p = (q, none) → ∀ z, rg x z → z.1 246 81 = nI q → K z) (k1 : ∀ q a v, pAcP B n p = (q, some (a, v)) → ∀ z, rg x z → RRd B n s tc fr z q 8 → RE z (if v3 = nI 0 then S else acs a S) → K z) : wX12_clause_37 (nI 0) v3 x K := by
  have hn := t.1
  have hB : ∀ i, i < n → B i < 256 := t.2.2
  have hp := hx.le
  have k0 : ∀ q, pAc B n (n + 1) p 0 [] = (q, none) → ∀ z, rg x z → z.1 246 81 = nI q → K z := by
    intro q e
    refine k0 q ?_
    unfold pAcP; rw [e]
  have k1 : ∀ q c, pAc B n (n + 1) p 0 [] = (q, some c) → ∀ z, rg x z → RRd B n s tc fr z q 8 → RE z (if v3 = nI 0 then S else acs c S) → K z := by
    intro q c e
    refine k1 q c (fun _ => nI 0) ?_
    unfold pAcP; rw [e]
  have pb := pAc_b hB (n + 1) p 0 [] hp (by omega) rfl (fun w hw => absurd hw (List.not_mem_nil))
  unfold wX12_clause_37
  refine y0 ?_
  refine m_lookT t tr.1 hx (fun y hy fy => ?_)
  refine m_actionOf (t.cb p) ?_
  obtain ⟨s1, s2, s3⟩ := sk_b (B := B) hp
  generalize hT : pAc B n (n + 1) p 0 [] = T at k0 k1 pb
  have loop : ∀ a y, (rg x y ∧ ((∃ p' i ws, a = aO (cB B n p') ∧ n < p' + (n + 1) ∧ p' ≤ n ∧ RRd B n s tc fr y (sk B n p') 8 ∧ (i = 0 → ¬ a = -nI 1) ∧ pAc B n (n + 1) p' i ws = T ∧ RE y (if v3 = nI 0 then S else acs ws S)) ∨ (∃ q, y.1 246 81 = nI q ∧ q ≤ n ∧ T = (q, none)))) → Lp2 (lX12_clause_103 v3 K) a y := by
    intro a y h0
    refine Lp2.ind (fun ii a y => rg x y ∧ ((∃ p' i ws, a = aO (cB B n p') ∧ n < p' + ii ∧ p' ≤ n ∧ RRd B n s tc fr y (sk B n p') 8 ∧ (i = 0 → ¬ a = -nI 1) ∧ pAc B n ii p' i ws = T ∧ RE y (if v3 = nI 0 then S else acs ws S)) ∨ (∃ q, y.1 246 81 = nI q ∧ q ≤ n ∧ T = (q, none)))) (n + 1) h0 ?_
    rintro ii a y ⟨fy, ⟨p', i, ws, ha, hii, hp', hy, hi, hR, hE⟩ | ⟨q, aq, hq, hR⟩⟩ L hL
    case inr =>
      unfold lX12_clause_103
      exact ⟨fun _ => k0 q hR y fy aq, fun u => absurd u (flt aq (by omega))⟩
    obtain ⟨s1, s2, s3⟩ := sk_b (B := B) hp'
    cases ii with
    | zero => omega
    | succ f =>
      unfold lX12_clause_103
      refine ⟨fun u => absurd hy.ok u, fun _ => ?_⟩
      unfold pAc at hR
      by_cases c : cB B n p' = 256 ∨ kxI 3 (cB B n p') = -nI 1
      · have e : a = -nI 1 := by
          rw [ha]; unfold aO
          rcases c with c | c
          · rw [if_pos c]
          · split
            · rfl
            · exact c
        rw [if_pos c, if_neg (fun u => hi u e)] at hR
        exact ⟨fun _ => k1 _ _ hR.symm y fy hy hE, fun u => absurd e u⟩
      · have c3 : ¬ cB B n p' = 256 := fun u => c (Or.inl u)
        rw [if_neg c] at hR
        obtain ⟨l1, l2⟩ := cB_lt (B := B) (n := n) (p := p') rfl c3
        have lb : cB B n p' < 256 := by rw [← l2]; exact t.2.2 _ l1
        obtain ⟨kk, hkk, ek⟩ := (kx_3 _ lb).resolve_left (fun u => c (Or.inr u))
        rw [ek, cl_nI (by omega)] at hR
        have e4 : a = nI kk := by rw [ha]; unfold aO; rw [if_neg c3, ek]
        rw [e4]
        refine ⟨fun u => absurd u (by simp only [nI_lit]; rw [n1_eq' (by omega)]; exact id), fun _ => ?_⟩
        have nx := hy.nx tr.1 l1
        have le2 : sk B n p' + 1 ≤ n := l1
        obtain ⟨r1, r2, r3⟩ := sk_b (B := B) le2
        refine m_lookT t tr.1 nx (fun u hu fu => ?_)
        refine m_isDigit (d := 8) t tr.1 hu.2.2.2.2.1 hu.2.2.2.1 (hu.rd tr.1) r2 ?_
        have fu' : rg x u := fy.tr ((rf.w80.tr fu).g)
        by_cases d : 48 ≤ cB B n (sk B n p' + 1) ∧ cB B n (sk B n p' + 1) ≤ 57
        case neg =>
          rw [if_neg d] at hR
          rw [if_neg (by
            rintro ⟨u1, u2⟩
            apply d
            have : cB B n (sk B n p' + 1) = B (sk B n (sk B n p' + 1)) := if_pos u1
            rw [this]; exact u2)]
          exact x0 (m_stopT hu (fun z fz az _ => k0 _ hR.symm z (fu'.tr fz.g) az))
        rw [if_pos d] at hR
        obtain ⟨m1, m2⟩ := cB_lt (B := B) (n := n) (p := sk B n p' + 1) rfl (by omega)
        rw [if_pos ⟨m1, by rw [m2]; exact d⟩]
        refine x1 ?_
        have hEu : RE u (if v3 = nI 0 then S else acs ws S) := hE.rf (rf.w80.tr fu)
        have nx2 := hu.nx tr.1 m1
        have nxt : ∀ z, RRd B n s tc fr z (sk B n (sk B n p' + 1) + 1) 8 → rg x z → RE z (if v3 = nI 0 then S else acs (ws ++ [wd 12 (10 * kk + (cB B n (sk B n p' + 1) - 48))]) S) → wX12_clause_185 v3 z K L := by
          intro z hz fz hEz
          unfold wX12_clause_185
          refine m_lookT t tr.1 hz (fun g hg fg => ?_)
          refine m_actionOf (t.cb _) ?_
          refine hL _ _ _ (Nat.lt_succ_self f) ⟨fz.tr fg.g, Or.inl ⟨_, i + 1, _, rfl, by omega, by omega, hg, fun u => by omega, hR, hEz.rf fg⟩⟩
        refine ⟨fun u => ?_, fun u => ?_⟩
        · have u : v3 = nI 0 := u
          rw [if_pos u] at hEu nxt
          exact nxt _ nx2 (fu'.tr rf.w80.g) (hEu.rf rf.w80)
        · have u : ¬ v3 = nI 0 := u
          rw [if_neg u] at hEu nxt
          refine ⟨(vpi (by omega) (by omega)).mpr trivial, (vpi (by omega) (by omega)).mpr trivial, ?_⟩
          rw [cl_nI (by omega), wr_n (by decide), bI_n (by omega), hEu.2.1 kk hkk]
          have e9 : (acs ws S).2.1 kk + nI (cB B n (sk B n p' + 1)) - 48 = (acs ws S).2.1 kk + nI (cB B n (sk B n p' + 1) - 48) := by
            simp only [nI_lit]
            rw [← pk_sub (by omega), Int32.sub_eq_add_neg, Int32.sub_eq_add_neg, Int32.add_assoc]
          rw [e9]
          refine nxt _ ?_ (fu'.tr ⟨fun c k a b d => by rw [wr_n b, wr_ne (by omega)], rfl⟩) ?_
          · obtain ⟨g1, g2, g3, g4, g5, g6, g7, g8, g9⟩ := nx2
            exact ⟨g1, g2, by rw [wr_n (by decide)]; exact g3, by rw [wr_n (by decide)]; exact g4, by rw [wr_n (by decide)]; exact g5, by rw [wr_n (by decide)]; exact g6, by rw [wr_n (by decide)]; exact g7, fun i hi => by rw [wr_n tr.2.1]; exact g8 i hi, g9⟩
          · obtain ⟨g1, g2, g3, g4⟩ := hEu.rf rf.w80
            rw [acs_app]
            unfold ac1
            rw [if_pos (wd_dk (by omega)), wd_dv (by omega), show (10 * kk + (cB B n (sk B n p' + 1) - 48)) / 10 = kk by omega, show (10 * kk + (cB B n (sk B n p' + 1) - 48)) % 10 = cB B n (sk B n p' + 1) - 48 by omega]
            refine ⟨by rw [wr_n (by decide)]; exact g1, fun k hk => ?_, by rw [wr_n (by decide)]; exact g3, fun i hi => by rw [wr_n (by decide)]; exact g4 i hi⟩
            show _ = updI _ _ _ _
            unfold updI
            by_cases q : k = kk
            · rw [if_pos q, q, wr_e]
            · rw [if_neg q, wr_k q]; exact g2 k hk
  refine ⟨fun q => loop _ _ ⟨fy.g, Or.inl ⟨p, 0, [], rfl, by omega, hp, hy, fun _ => q, hT, ?_⟩⟩, fun q => ?_⟩
  · have := hS.rf fy
    show RE y (if v3 = nI 0 then S else S)
    split <;> exact this
  · refine m_stopT hy (fun z fz az _ => loop _ _ ⟨fy.g.tr fz.g, Or.inr ⟨_, az, s2, ?_⟩⟩)
    rw [← hT]
    unfold pAc
    have c : cB B n p = 256 ∨ kxI 3 (cB B n p) = -nI 1 := by
      by_cases e : cB B n p = 256
      · exact Or.inl e
      · right
        have q : aO (cB B n p) = -nI 1 := q
        unfold aO at q
        rw [if_neg e] at q
        exact q
    rw [if_pos c, if_pos rfl]
