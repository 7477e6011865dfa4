/-! TEXTS, 8: clauses; the program reads them. -/
def isAw (w : Nat) : Prop := ∃ k dg, k < 5 ∧ dg < 10 ∧ w = wd 12 (10 * k + dg)
def pAc (B : Nat → Nat) (n : Nat) : Nat → Nat → Nat → List Nat → Nat × Option (List Nat)
  | 0, p, _, _ => (p, none)
  | f + 1, p, i, ws => if cB B n p = 256 ∨ kxI 3 (cB B n p) = -nI 1 then (sk B n p, if i = 0 then none else some ws) else
    if 48 ≤ cB B n (sk B n p + 1) ∧ cB B n (sk B n p + 1) ≤ 57 then pAc B n f (sk B n (sk B n p + 1) + 1) (i + 1) (ws ++ [wd 12 (10 * (kxI 3 (cB B n p)).toNatClampNeg + (cB B n (sk B n p + 1) - 48))]) else (sk B n (sk B n p + 1), none)
def pAcP (B : Nat → Nat) (n p : Nat) : PR := match pAc B n (n + 1) p 0 [] with
  | (q, none) => (q, none)
  | (q, some ws) => (q, some (ws, fun _ => nI 0))
theorem kx_3 : ∀ b, b < 256 → kxI 3 b = -nI 1 ∨ ∃ i, i < 5 ∧ kxI 3 b = nI i := by decide +kernel
theorem pAc_b {B : Nat → Nat} {n : Nat} (hB : ∀ i, i < n → B i < 256) : ∀ f p i ws, p ≤ n → n < p + f → ws.length = i → (∀ w, w ∈ ws → isAw w) → ∀ q, (pAc B n f p i ws = (q, none) → p ≤ q ∧ q ≤ n) ∧ ∀ ws', pAc B n f p i ws = (q, some ws') → p ≤ q ∧ q ≤ n ∧ 2 * ws'.length + p ≤ q + 2 * i ∧ (∀ w, w ∈ ws' → isAw w) ∧ 1 ≤ ws'.length
  | 0, p, i, ws, hp, hf, hl, hw, q => by omega
  | f + 1, p, i, ws, hp, hf, hl, hw, q => by
    obtain ⟨k1, k2, k3⟩ := sk_b (B := B) hp
    unfold pAc
    by_cases c : cB B n p = 256 ∨ kxI 3 (cB B n p) = -nI 1
    · rw [if_pos c]
      by_cases e : i = 0
      · rw [if_pos e]
        refine ⟨fun u => ?_, fun ws' u => by cases u⟩
        injection u with u1 u2
        subst u1; omega
      · rw [if_neg e]
        refine ⟨fun u => (by cases u), fun ws' u => ?_⟩
        injection u with u1 u2
        injection u2 with u2
        subst u1; subst u2
        exact ⟨k1, k2, by omega, hw, by omega⟩
    · rw [if_neg c]
      obtain ⟨l1, l2⟩ := cB_lt (B := B) (n := n) (p := p) rfl (fun u => c (Or.inl u))
      have lb : cB B n p < 256 := by rw [← l2]; exact hB _ l1
      obtain ⟨kk, hkk, ek⟩ := (kx_3 _ lb).resolve_left (fun u => c (Or.inr u))
      obtain ⟨r1, r2, r3⟩ := sk_b (B := B) (n := n) (p := sk B n p + 1) (by omega)
      by_cases d : 48 ≤ cB B n (sk B n p + 1) ∧ cB B n (sk B n p + 1) ≤ 57
      · rw [if_pos d]
        obtain ⟨m1, m2⟩ := cB_lt (B := B) (n := n) (p := sk B n p + 1) rfl (by omega)
        have ih := pAc_b hB f (sk B n (sk B n p + 1) + 1) (i + 1) (ws ++ [wd 12 (10 * (kxI 3 (cB B n p)).toNatClampNeg + (cB B n (sk B n p + 1) - 48))]) (by omega) (by omega) (by rw [List.length_append]; simp only [List.length_cons, List.length_nil]; omega) (fun w hw' => by
          rcases List.mem_append.mp hw' with h | h
          · exact hw w h
          · rw [List.mem_singleton.mp h, ek, cl_nI (by omega)]
            exact ⟨kk, _, hkk, by omega, rfl⟩) q
        refine ⟨fun u => ?_, fun ws' u => ?_⟩
        · have := ih.1 u; omega
        · obtain ⟨a1, a2, a3, a4, a5⟩ := ih.2 ws' u
          exact ⟨by omega, a2, by omega, a4, a5⟩
      · rw [if_neg d]
        refine ⟨fun u => ?_, fun ws' u => by cases u⟩
        injection u with u1 u2
        subst u1; omega
theorem c_indexIn {B : Nat → Nat} {n s s' : Nat} (t : TX B n s) (hs : s' < 4) {x : ab_X} {p : Nat} {c : List Nat} (h : PRd B n s x p c) {K : Int32 → ab_X → Prop} (k : ∀ z, PRd B n s z (sk B n p) c → pf x z → K (if cB B n p = 256 then -nI 1 else kxI s' (cB B n p)) z) : wX8_indexIn (1000000 + s') x K := by
  have cb := t.cb p
  unfold wX8_indexIn
  refine c_peekT t h (fun z hz fz => ?_)
  have k' := k z hz fz
  simp only [nI_lit]
  rw [bI_o cb]
  by_cases c3 : cB B n p = 256
  · rw [if_pos c3] at k'
    exact ⟨fun u => absurd c3 u, fun _ => k'⟩
  rw [if_neg c3] at k'
  refine ⟨fun _ => ?_, fun u => absurd u c3⟩
  obtain ⟨l1, l2⟩ := cB_lt (B := B) (n := n) (p := p) rfl c3
  have lb : cB B n p < 256 := by rw [← l2]; exact t.2.2 _ l1
  have e6 : ((bI (cB B n p)).toUInt32 % 65536).toInt32 = nI (cB B n p) := by
    rw [bI_n c3]
    have : ∀ b, b < 256 → ((nI b).toUInt32 % 65536).toInt32 = nI b := by decide +kernel
    exact this _ lb
  rw [e6]
  exact index_of hs lb k'
theorem c_actT {B : Nat → Nat} {n s : Nat} (t : TX B n s) : PSp B n s wX8_actions (pAcP B n) := by
  intro x p c0 K hx hl k0 k1
  have hn := t.1
  have hp := hx.le
  have k0 : ∀ q, pAc B n (n + 1) p 0 [] = (q, none) → ∀ z, pf x z → z.1 158 2 = nI q → K (nI 0) z := by
    intro q e
    refine k0 q ?_
    unfold pAcP; rw [e]
  have k1 : ∀ q c, pAc B n (n + 1) p 0 [] = (q, some c) → ∀ z, pf x z → PRd B n s z q (c0 ++ c) → K (nI 1) z := by
    intro q c e
    refine k1 q c (fun _ => nI 0) ?_
    unfold pAcP; rw [e]
  unfold wX8_actions
  generalize hT : pAc B n (n + 1) p 0 [] = T at k0 k1
  refine Lp2.ind (fun ii a y => ∃ p' i ws, a = nI i ∧ n < p' + ii ∧ PRd B n s y p' (c0 ++ ws) ∧ ws.length = i ∧ c0.length + 2 * i ≤ p' ∧ pf x y ∧ pAc B n ii p' i ws = T) (n + 1) ⟨p, 0, [], rfl, by omega, by rw [List.append_nil]; exact hx, rfl, by omega, pf.rfl', hT⟩ ?_
  rintro ii a y ⟨p', i, ws, rfl, hii, hy, hw, hi, fy, hR⟩ L hL
  have hp' := hy.le
  cases ii with
  | zero => omega
  | succ f =>
    unfold lX8_actions_2
    refine ⟨fun q => absurd q (by simp only [nI_lit]; rw [q_le (by omega) (by omega)]; omega), fun _ => ?_⟩
    obtain ⟨s1, s2, s3⟩ := sk_b (B := B) hp'
    unfold pAc at hR
    refine c_indexIn (s' := 3) t (by decide) hy (fun u hu fu => ?_)
    by_cases c : cB B n p' = 256 ∨ kxI 3 (cB B n p') = -nI 1
    · have e : (if cB B n p' = 256 then -nI 1 else kxI 3 (cB B n p')) = -nI 1 := by
        rcases c with c | c
        · rw [if_pos c]
        · split
          · rfl
          · exact c
      rw [if_pos c] at hR
      rw [e]
      refine ⟨fun u => absurd rfl u, fun _ => ?_⟩
      simp only [nI_lit]
      rw [q_le (by omega) (by omega)]
      refine ⟨fun q => ?_, fun q => ?_⟩
      · rw [if_pos (by omega)] at hR
        exact k0 _ hR.symm u (fy.tr fu) hu.2.1
      · rw [if_neg (by omega)] at hR
        exact k1 _ _ hR.symm u (fy.tr fu) hu
    · have c3 : ¬ cB B n p' = 256 := fun u => c (Or.inl u)
      rw [if_neg c] at hR
      rw [if_neg c3]
      obtain ⟨l1, l2⟩ := cB_lt (B := B) (n := n) (p := p') rfl c3
      have lb : cB B n p' < 256 := by rw [← l2]; exact t.2.2 _ l1
      obtain ⟨kk, hkk, ek⟩ := (kx_3 _ lb).resolve_left (fun u => c (Or.inr u))
      rw [ek, cl_nI (by omega)] at hR
      rw [ek]
      refine ⟨fun _ => ?_, fun u => absurd u (by simp only [nI_lit]; rw [n1_eq' (by omega)]; exact id)⟩
      have nx := hu.nx l1
      have le2 : sk B n p' + 1 ≤ n := l1
      obtain ⟨r1, r2, r3⟩ := sk_b (B := B) le2
      refine c_peekT t nx.1 (fun z hz fz => ?_)
      refine c_isDigit (t.cb _) ?_
      by_cases d : 48 ≤ cB B n (sk B n p' + 1) ∧ cB B n (sk B n p' + 1) ≤ 57
      case neg =>
        rw [if_neg d] at hR ⊢
        exact x0 (k0 _ hR.symm z ((((fy.tr fu).tr nx.2).tr fz)) hz.2.1)
      rw [if_pos d] at hR ⊢
      obtain ⟨m1, m2⟩ := cB_lt (B := B) (n := n) (p := sk B n p' + 1) rfl (by omega)
      refine x1 ⟨by rw [hz.2.1]; exact (vpi (by omega) (by omega)).mpr trivial, ?_⟩
      have e7 : (nI kk * 10 + z.1 159 (Int32.toNatClampNeg (z.1 158 2))) - 48 = nI (10 * kk + (cB B n (sk B n p' + 1) - 48)) := by
        rw [hz.2.1, cl_nI (by omega), hz.2.2.1 _ m1, m2]
        simp only [nI_lit]
        rw [pk_mul, nI_add, pk_sub (by omega)]
        congr 1; omega
      rw [e7]
      refine c_addT (k := 12) (by decide) (by omega) hz (by rw [List.length_append]; omega) (fun u3 a7 f3 => ?_)
      rw [List.append_assoc] at a7
      have nx3 := a7.nx m1
      have e5 : nI i + 1 = nI (i + 1) := nI_add i 1
      rw [e5]
      refine hL _ _ _ (Nat.lt_succ_self f) ⟨_, i + 1, _, rfl, by omega, nx3.1, ?_, by omega, (((((fy.tr fu).tr nx.2).tr fz).tr f3).tr nx3.2), hR⟩
      rw [List.length_append]; simp only [List.length_cons, List.length_nil]; omega
abbrev CL : Type := List Nat × ((Nat → Int32) → Int32) × List Nat
def cdC (l : CL) : List Nat := l.1 ++ [wd 11 0] ++ l.2.2
def cdT : List CL → List Nat
  | [] => []
  | l :: t => cdC l ++ cdT t
theorem cdT_app : ∀ a b, cdT (a ++ b) = cdT a ++ cdT b
  | [], b => rfl
  | l :: a, b => by
    show cdC l ++ cdT (a ++ b) = (cdC l ++ cdT a) ++ cdT b
    rw [cdT_app a b, List.append_assoc]
def pAn (B : Nat → Nat) (n s p : Nat) : PR := if s = 0 then pAcP B n p else pNum B n 3 13 p
def pCl (B : Nat → Nat) (n s p : Nat) : Nat × Option CL :=
  match pCo B n s p with
  | (q, none) => (q, none)
  | (q, some (c, v)) => if cB B n q = 63 then
    (match pAn B n s (sk B n q + 1) with
    | (q2, none) => (q2, none)
    | (q2, some (a, _)) => (q2, some (c, v, a)))
    else (sk B n q, none)
/-- the words of actions -/
def isAx (s : Nat) (a : List Nat) : Prop := (s = 0 → ∀ w, w ∈ a → isAw w) ∧ (s ≠ 0 → ∃ v, v < 1000 ∧ a = [wd 13 v])
theorem pAn_b {B : Nat → Nat} {n s p : Nat} (hB : ∀ i, i < n → B i < 256) (hp : p ≤ n) (q : Nat) : (pAn B n s p = (q, none) → p ≤ q ∧ q ≤ n) ∧ ∀ a v, pAn B n s p = (q, some (a, v)) → p + 1 ≤ q ∧ q ≤ n ∧ a.length + p ≤ q ∧ isAx s a := by
  unfold pAn
  by_cases e : s = 0
  · rw [if_pos e]
    unfold pAcP
    have b := pAc_b hB (n + 1) p 0 [] hp (by omega) rfl (fun w hw => absurd hw (List.not_mem_nil))
    cases hx : pAc B n (n + 1) p 0 [] with
    | mk q1 r1 =>
      cases r1 with
      | none =>
        refine ⟨fun u => ?_, fun a v u => by cases u⟩
        injection u with u1 u2
        subst u1
        exact (b q1).1 hx
      | some r1 =>
        obtain ⟨a1, a2, a3, a4, a5⟩ := (b q1).2 r1 hx
        refine ⟨fun u => (by cases u), fun a v u => ?_⟩
        injection u with u1 u2
        injection u2 with u2
        injection u2 with u2 u3
        subst u1; subst u2
        exact ⟨by omega, a2, by omega, fun _ => a4, fun u => absurd e u⟩
  · rw [if_neg e]
    obtain ⟨k1, k2, k3⟩ := sk_b (B := B) hp
    unfold pNum
    by_cases c : sk B n p < n ∧ (48 ≤ B (sk B n p) ∧ B (sk B n p) ≤ 57)
    · rw [if_pos c, nuF_1 c.1 c.2 (by decide)]
      have b := nuF_b (B := B) (n := n) (mx := 3) 3 1 (sk B n p + 1) (B (sk B n p) - 48) (by omega) (by omega) (by omega)
      cases hx : nuF B n 3 3 1 (sk B n p + 1) (B (sk B n p) - 48) with
      | mk q1 r1 =>
        cases r1 with
        | none =>
          refine ⟨fun u => ?_, fun a v u => by cases u⟩
          injection u with u1 u2
          subst u1
          have := (b q1).1 hx; omega
        | some r1 =>
          have bb := (b q1).2 r1 hx
          refine ⟨fun u => (by cases u), fun a v u => ?_⟩
          injection u with u1 u2
          injection u2 with u2
          injection u2 with u2 u3
          subst u1; subst u2
          exact ⟨by omega, by omega, by show 1 + p ≤ _; omega, fun u => absurd u e, fun _ => ⟨r1, by omega, rfl⟩⟩
    · rw [if_neg c]
      refine ⟨fun u => ?_, fun a v u => by cases u⟩
      injection u with u1 u2
      subst u1; omega
theorem pCl_b {B : Nat → Nat} {n s p : Nat} (t : TX B n s) (hp : p ≤ n) (q : Nat) : (pCl B n s p = (q, none) → p ≤ q ∧ q ≤ n) ∧ ∀ c v a, pCl B n s p = (q, some (c, v, a)) → p + 5 ≤ q ∧ q ≤ n ∧ c.length + 1 + a.length + p ≤ q ∧ (∀ e, isB (v e)) ∧ rOK s c v 22 ∧ isAx s a := by
  have hB : ∀ i, i < n → B i < 256 := t.2.2
  have wx := pCo_W hB t.2.1 p hp
  unfold pCl
  cases hx : pCo B n s p with
  | mk q1 r1 =>
    cases r1 with
    | none =>
      refine ⟨fun u => ?_, fun c v a u => by cases u⟩
      injection u with u1 u2
      subst u1
      exact (wx q1).1 hx
    | some r1 =>
      obtain ⟨c, v⟩ := r1
      obtain ⟨a1, a2, a3, a4, a5⟩ := (wx q1).2 c v hx
      obtain ⟨k1, k2, k3⟩ := sk_b (B := B) a2
      by_cases e : cB B n q1 = 63
      · have lt := (cB_lt e (by decide)).1
        have b := pAn_b (s := s) hB (p := sk B n q1 + 1) lt
        simp only [if_pos e]
        cases hy : pAn B n s (sk B n q1 + 1) with
        | mk q2 r2 =>
          cases r2 with
          | none =>
            refine ⟨fun u => ?_, fun c v a u => by cases u⟩
            injection u with u1 u2
            subst u1
            have := (b q2).1 hy; omega
          | some r2 =>
            obtain ⟨a, v2⟩ := r2
            obtain ⟨b1, b2, b3, b4⟩ := (b q2).2 a v2 hy
            refine ⟨fun u => (by cases u), fun c' v' a' u => ?_⟩
            injection u with u1 u2
            injection u2 with u2
            injection u2 with u2 u3
            injection u3 with u3 u4
            subst u1; subst u2; subst u3; subst u4
            exact ⟨by omega, b2, by omega, a4, a5, b4⟩
      · simp only [if_neg e]
        refine ⟨fun u => ?_, fun c v a u => by cases u⟩
        injection u with u1 u2
        subst u1; omega
theorem c_clause {B : Nat → Nat} {n s : Nat} (t : TX B n s) {x : ab_X} {p : Nat} {c0 : List Nat} {K : Int32 → ab_X → Prop} (hx : PRd B n s x p c0) (hl : c0.length ≤ p) (k0 : ∀ q, pCl B n s p = (q, none) → ∀ z, pf x z → z.1 158 2 = nI q → K (nI 0) z) (k1 : ∀ q l, pCl B n s p = (q, some l) → ∀ z, pf x z → PRd B n s z q (c0 ++ cdC l) → K (nI 1) z) : wX8_clause (nI s) x K := by
  have hn := t.1
  have hs := t.2.1
  have hB : ∀ i, i < n → B i < 256 := t.2.2
  have wx := pCo_W hB t.2.1 p hx.le
  unfold pCl at k0 k1
  unfold wX8_clause
  refine c_condF t x p c0 _ hx hl (fun q hq y fy ay => y0 ?_) (fun q c v hq y fy hy => y1 ?_)
  · rw [hq] at k0
    exact k0 q rfl y fy ay
  rw [hq] at k0 k1
  obtain ⟨a1, a2, a3, a4, a5⟩ := (wx q).2 c v hq
  obtain ⟨r1, r2, r3⟩ := sk_b (B := B) a2
  refine c_passT t (by decide) hy (fun e u hu fu => x1 ?_) (fun e u hu fu => x0 ?_)
  case refine_2 =>
    simp only [if_neg e] at k0
    exact k0 _ rfl u (fy.tr fu) hu.2.1
  have lt := (cB_lt e (by decide)).1
  simp only [if_pos e] at k0 k1
  refine c_addT (k := 11) (v := 0) (by decide) (by decide) hu (by rw [List.length_append]; omega) (fun z hz fz => ?_)
  have fin0 : ∀ q, pAn B n s (sk B n q + 1) = pAn B n s (sk B n q + 1) := fun _ => rfl
  have g0 : ∀ q2, pAn B n s (sk B n q + 1) = (q2, none) → ∀ z2, pf z z2 → z2.1 158 2 = nI q2 → isB (nI 0) ∧ K (nI 0) z2 := by
    intro q2 hq2 z2 f2 e2
    rw [hq2] at k0
    exact ⟨isB_0, k0 _ rfl z2 (((fy.tr fu).tr fz).tr f2) e2⟩
  have g1 : ∀ q2 a v2, pAn B n s (sk B n q + 1) = (q2, some (a, v2)) → ∀ z2, pf z z2 → PRd B n s z2 q2 (c0 ++ c ++ [wd 11 0] ++ a) → isB (nI 1) ∧ K (nI 1) z2 := by
    intro q2 a v2 hq2 z2 f2 e2
    rw [hq2] at k1
    refine ⟨isB_1, k1 _ _ rfl z2 (((fy.tr fu).tr fz).tr f2) ?_⟩
    unfold cdC
    rw [← List.append_assoc, ← List.append_assoc]
    exact e2
  have ll : (c0 ++ c ++ [wd 11 0]).length ≤ sk B n q + 1 := by simp only [List.length_append, List.length_cons, List.length_nil]; omega
  unfold pAn at g0 g1
  simp only [nI_lit]
  rw [q_eq (by omega) (by omega)]
  refine ⟨fun e0 => ?_, fun e0 => ?_⟩
  · rw [if_neg e0] at g0 g1
    exact c_numT (mx := 3) (kd := 13) t (by decide) (by decide) z (sk B n q + 1) (c0 ++ c ++ [wd 11 0]) _ hz ll (fun q2 hq2 z2 f2 e2 => g0 q2 hq2 z2 f2 e2) (fun q2 a v2 hq2 z2 f2 e2 => g1 q2 a v2 hq2 z2 f2 e2)
  · rw [if_pos e0] at g0 g1
    exact c_actT t z (sk B n q + 1) (c0 ++ c ++ [wd 11 0]) _ hz ll (fun q2 hq2 z2 f2 e2 => g0 q2 hq2 z2 f2 e2) (fun q2 a v2 hq2 z2 f2 e2 => g1 q2 a v2 hq2 z2 f2 e2)
