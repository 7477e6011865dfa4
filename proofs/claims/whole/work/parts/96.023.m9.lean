/-! TEXTS, 9: whole texts; the program reads them. -/
def pTx (B : Nat → Nat) (n s : Nat) : Nat → Nat → List CL → Nat × Option (List CL)
  | 0, p, _ => (p, none)
  | f + 1, p, l => match pCl B n s p with
    | (q, none) => (q, none)
    | (q, some a) => if cB B n q = 256 then (sk B n q, some (l ++ [a])) else if cB B n q = 59 then pTx B n s f (sk B n q + 1) (l ++ [a]) else (sk B n q, none)
def okCL (s : Nat) (l : CL) : Prop := (∀ e, isB (l.2.1 e)) ∧ rOK s l.1 l.2.1 22 ∧ isAx s l.2.2
theorem pTx_b {B : Nat → Nat} {n s : Nat} (t : TX B n s) : ∀ f p l, p ≤ n → n < p + f → 5 * l.length ≤ p → (cdT l).length ≤ p → (∀ a, a ∈ l → okCL s a) → ∀ q, (pTx B n s f p l = (q, none) → q ≤ n) ∧ ∀ l', pTx B n s f p l = (q, some l') → q ≤ n ∧ 5 * l'.length ≤ q ∧ (cdT l').length ≤ q ∧ ∀ a, a ∈ l' → okCL s a
  | 0, p, l, hp, hf, h5, hc, hl, q => by omega
  | f + 1, p, l, hp, hf, h5, hc, hl, q => by
    have b := pCl_b t hp
    unfold pTx
    cases hx : pCl B n s p with
    | mk q1 r1 =>
      cases r1 with
      | none =>
        refine ⟨fun u => ?_, fun l' u => by cases u⟩
        injection u with u1 u2
        subst u1
        exact ((b q1).1 hx).2
      | some r1 =>
        obtain ⟨c, v, a⟩ := r1
        obtain ⟨a1, a2, a3, a4, a5, a6⟩ := (b q1).2 c v a hx
        obtain ⟨k1, k2, k3⟩ := sk_b (B := B) a2
        have l5 : 5 * (l ++ [(c, v, a)]).length ≤ q1 := by rw [List.length_append]; simp only [List.length_cons, List.length_nil]; omega
        have lc : (cdT (l ++ [(c, v, a)])).length ≤ q1 := by
          rw [cdT_app]
          show (cdT l ++ ((c ++ [wd 11 0] ++ a) ++ [])).length ≤ q1
          simp only [List.length_append, List.length_cons, List.length_nil]; omega
        have lo : ∀ u, u ∈ l ++ [(c, v, a)] → okCL s u := by
          intro u hu
          rcases List.mem_append.mp hu with h | h
          · exact hl u h
          · rw [List.mem_singleton.mp h]; exact ⟨a4, a5, a6⟩
        by_cases e : cB B n q1 = 256
        · simp only [if_pos e]
          refine ⟨fun u => (by cases u), fun l' u => ?_⟩
          injection u with u1 u2
          injection u2 with u2
          subst u1; subst u2
          exact ⟨k2, by omega, by omega, lo⟩
        · simp only [if_neg e]
          by_cases e2 : cB B n q1 = 59
          · simp only [if_pos e2]
            have lt := (cB_lt e2 (by decide)).1
            exact pTx_b t f (sk B n q1 + 1) _ lt (by omega) (by omega) (by omega) lo q
          · simp only [if_neg e2]
            refine ⟨fun u => ?_, fun l' u => by cases u⟩
            injection u with u1 u2
            subst u1; exact k2
def pLv (B : Nat → Nat) (n p : Nat) : Nat × Option (List Nat × ((Nat → Int32) → Int32)) :=
  match pCo B n 1 p with
  | (q, none) => (q, none)
  | (q, some r) => (sk B n q, if cB B n q = 256 then some r else none)
def pA (B : Nat → Nat) (n s : Nat) : Nat × Option (List Nat) := if s = 1 then
    (match pLv B n 0 with
    | (q, none) => (q, none)
    | (q, some (c, _)) => (q, some c))
  else
    (match pTx B n s (n + 1) 0 [] with
    | (q, none) => (q, none)
    | (q, some l) => (q, some (cdT l)))
def pfA (x z : ab_X) : Prop := (∀ c k, ¬ (c = 158 ∧ k = 2) → ¬ (c = 160 ∧ k = 1) → c ≠ 161 → z.1 c k = x.1 c k) ∧ z.2.1 = x.2.1 ∧ z.2.2.1 = x.2.2.1 ∧ z.2.2.2.2 = x.2.2.2.2
theorem pfA.tr {x y z : ab_X} (h : pfA x y) (f : pf y z) : pfA x z := ⟨fun c k a b d => (f.1 c k a b d).trans (h.1 c k a b d), by rw [f.2]; exact h.2.1, by rw [f.2]; exact h.2.2.1, by rw [f.2]; exact h.2.2.2⟩
theorem c_parse {B : Nat → Nat} {n s : Nat} (t : TX B n s) {x : ab_X} {K : Int32 → ab_X → Prop} (h1 : x.1 158 1 = nI n) (h2 : ∀ i, i < n → x.1 159 i = nI (B i)) (k0 : ∀ q, pA B n s = (q, none) → ∀ z, pfA x z → z.1 158 2 = nI q → K (nI 0) z) (k1 : ∀ q c, pA B n s = (q, some c) → ∀ z, pfA x z → z.1 160 1 = nI c.length → stC (z.1 161) c → c.length ≤ n → K (nI 1) z) : wX8_parse (nI s) x K := by
  have hn := t.1
  have hs := t.2.1
  have hB : ∀ i, i < n → B i < 256 := t.2.2
  have st : PRd B n s (wlt (wr (wr x 158 2 0) 160 1 0) (1000000 + s)) 0 [] := by
    refine ⟨?_, ?_, fun i hi => ?_, rfl, ?_, stC_nil, by omega⟩
    · show (wr (wr x 158 2 0) 160 1 0).1 158 1 = nI n
      rw [wr_n (by decide), wr_k (by decide)]; exact h1
    · show (wr (wr x 158 2 0) 160 1 0).1 158 2 = nI 0
      rw [wr_n (by decide), wr_e]; rfl
    · show (wr (wr x 158 2 0) 160 1 0).1 159 i = nI (B i)
      rw [wr_n (by decide), wr_n (by decide)]; exact h2 i hi
    · show (wr (wr x 158 2 0) 160 1 0).1 160 1 = nI 0
      rw [wr_e]; rfl
  have fr : pfA x (wlt (wr (wr x 158 2 0) 160 1 0) (1000000 + s)) := by
    refine ⟨fun c k a b d => ?_, rfl, rfl, rfl⟩
    show (wr (wr x 158 2 0) 160 1 0).1 c k = x.1 c k
    rw [wr_ne (by omega), wr_ne (by omega)]
  generalize hy : wlt (wr (wr x 158 2 0) 160 1 0) (1000000 + s) = y at st fr
  have key : s ≠ 1 → Lp2 (lX8_parse_63 (nI s) K) 0 y := by
    intro s1
    unfold pA at k0 k1
    rw [if_neg s1] at k0 k1
    have k0 : ∀ q, pTx B n s (n + 1) 0 [] = (q, none) → ∀ z, pfA x z → z.1 158 2 = nI q → K (nI 0) z := by
      intro q e
      refine k0 q ?_
      rw [e]
    have k1 : ∀ q l, pTx B n s (n + 1) 0 [] = (q, some l) → ∀ z, pfA x z → z.1 160 1 = nI (cdT l).length → stC (z.1 161) (cdT l) → (cdT l).length ≤ n → K (nI 1) z := by
      intro q l e
      refine k1 q (cdT l) ?_
      rw [e]
    generalize hT : pTx B n s (n + 1) 0 [] = T at k0 k1
    refine Lp2.ind (fun ii a z => ∃ p l, a = nI l.length ∧ n < p + ii ∧ PRd B n s z p (cdT l) ∧ 5 * l.length ≤ p ∧ (cdT l).length ≤ p ∧ pfA x z ∧ pTx B n s ii p l = T) (n + 1) ⟨0, [], rfl, by omega, st, by simp, Nat.le_refl _, fr, hT⟩ ?_
    rintro ii a z ⟨p, l, rfl, hii, hz, h5, hc, fz, hR⟩ L hL
    have hp := hz.le
    cases ii with
    | zero => omega
    | succ f =>
      unfold lX8_parse_63
      refine ⟨fun q => absurd q (by simp only [nI_lit]; rw [q_le (by omega) (by omega)]; omega), fun _ => ?_⟩
      unfold pTx at hR
      have b := pCl_b t hp
      refine c_clause t hz hc (fun q hq u fu au => x0 ?_) (fun q r hq u fu hu => x1 ?_)
      · rw [hq] at hR
        exact k0 q hR.symm u (fz.tr fu) au
      rw [hq] at hR
      obtain ⟨c, v, a⟩ := r
      obtain ⟨a1, a2, a3, a4, a5, a6⟩ := (b q).2 c v a hq
      obtain ⟨r1, r2, r3⟩ := sk_b (B := B) a2
      have ec : cdT l ++ cdC (c, v, a) = cdT (l ++ [(c, v, a)]) := by
        rw [cdT_app]
        show _ = cdT l ++ (cdC (c, v, a) ++ [])
        rw [List.append_nil]
      rw [ec] at hu
      have lc : (cdT (l ++ [(c, v, a)])).length ≤ q := by
        rw [← ec]
        show (cdT l ++ (c ++ [wd 11 0] ++ a)).length ≤ q
        simp only [List.length_append, List.length_cons, List.length_nil]; omega
      refine c_peekT t hu (fun w hw fw => ?_)
      simp only [nI_lit]
      rw [bI_o (t.cb q)]
      by_cases e : cB B n q = 256
      · simp only [if_pos e] at hR
        refine ⟨fun u => absurd e u, fun _ => ?_⟩
        exact k1 _ _ hR.symm w ((fz.tr fu).tr fw) hw.2.2.2.2.1 hw.2.2.2.2.2.1 (by omega)
      · simp only [if_neg e] at hR
        refine ⟨fun _ => ?_, fun u => absurd u e⟩
        refine c_passT t (by decide) hw (fun e2 g hg fg => x1 ?_) (fun e2 g hg fg => x0 ?_)
        · rw [cB_sk a2] at e2
          simp only [if_pos e2] at hR
          rw [sk_sk a2] at hg
          have e5 : nI l.length + nI 1 = nI (l ++ [(c, v, a)]).length := by rw [List.length_append]; exact nI_add _ 1
          rw [e5]
          have lt := (cB_lt e2 (by decide)).1
          refine hL _ _ _ (Nat.lt_succ_self f) ⟨_, _, rfl, by omega, hg, ?_, by omega, ((fz.tr fu).tr fw).tr fg, hR⟩
          rw [List.length_append]; simp only [List.length_cons, List.length_nil]; omega
        · rw [cB_sk a2] at e2
          simp only [if_neg e2] at hR
          rw [sk_sk a2] at hg
          exact k0 _ hR.symm g (((fz.tr fu).tr fw).tr fg) hg.2.1
  unfold wX8_parse
  simp only [nI_lit]
  rw [q_eq (by omega) (by omega), q_eq (by omega) (by omega)]
  refine ⟨fun e1 => ⟨fun e0 => ?_, fun e0 => ?_⟩, fun e1 => ?_⟩
  · have e2 : s = 2 := by omega
    have := key e1
    rw [← hy, e2] at this
    rw [e2]
    exact this
  · have := key e1
    rw [← hy, e0] at this
    rw [e0]
    exact this
  · unfold pA at k0 k1
    rw [if_pos e1] at k0 k1
    unfold pLv at k0 k1
    rw [e1] at t st hy
    have wx := pCo_W hB t.2.1 0 (Nat.zero_le _)
    have g : wX8_condition (nI 0) y (fun r1 x2 => ((r1 = 0 → K 0 x2) ∧ (¬ r1 = 0 → wX8_peek x2 (fun r3 x4 => ((¬ r3 = (-1) → K 0 x4) ∧ (r3 = (-1) → K 1 x4)))))) := by
      refine c_condF t y 0 [] _ st (Nat.le_refl _) (fun q hq z fz az => y0 ?_) (fun q c v hq z fz hz => y1 ?_)
      · rw [hq] at k0
        exact k0 q rfl z (fr.tr fz) az
      rw [hq] at k0 k1
      obtain ⟨a1, a2, a3, a4, a5⟩ := (wx q).2 c v hq
      refine c_peekT t hz (fun u hu fu => ?_)
      simp only [nI_lit]
      rw [bI_o (t.cb q)]
      refine ⟨fun e => ?_, fun e => ?_⟩
      · simp only [if_neg e] at k0
        exact k0 _ rfl u ((fr.tr fz).tr fu) hu.2.1
      · simp only [if_pos e] at k1
        exact k1 _ _ rfl u ((fr.tr fz).tr fu) hu.2.2.2.2.1 hu.2.2.2.2.2.1 (by omega)
    rw [← hy] at g
    exact g
