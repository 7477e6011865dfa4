/-! TEXTS, 2: the grammar. -/
abbrev PR : Type := Nat × Option (List Nat × ((Nat → Int32) → Int32))
def skF (B : Nat → Nat) (n : Nat) : Nat → Nat → Nat
  | 0, p => p
  | f + 1, p => if p < n ∧ B p = 32 then skF B n f (p + 1) else p
def sk (B : Nat → Nat) (n p : Nat) : Nat := skF B n (n - p) p
theorem sk_step {B : Nat → Nat} {n p : Nat} (h : p < n) (e : B p = 32) : sk B n p = sk B n (p + 1) := by
  unfold sk
  obtain ⟨k, hk⟩ : ∃ k, n - p = k + 1 := ⟨n - p - 1, by omega⟩
  rw [hk, show n - (p + 1) = k by omega]
  show (if p < n ∧ B p = 32 then skF B n k (p + 1) else p) = _
  rw [if_pos ⟨h, e⟩]
theorem sk_stop {B : Nat → Nat} {n p : Nat} (h : ¬ (p < n ∧ B p = 32)) : sk B n p = p := by
  unfold sk
  cases n - p with
  | zero => rfl
  | succ k =>
    show (if p < n ∧ B p = 32 then skF B n k (p + 1) else p) = _
    rw [if_neg h]
theorem skF_b {B : Nat → Nat} {n : Nat} : ∀ f p, p + f = n → p ≤ skF B n f p ∧ skF B n f p ≤ n ∧ ¬ (skF B n f p < n ∧ B (skF B n f p) = 32)
  | 0, p, h => ⟨Nat.le_refl _, by show p ≤ n; omega, fun u => by have : p < n := u.1; omega⟩
  | f + 1, p, h => by
    show p ≤ (if p < n ∧ B p = 32 then skF B n f (p + 1) else p) ∧ (if p < n ∧ B p = 32 then skF B n f (p + 1) else p) ≤ n ∧ ¬ ((if p < n ∧ B p = 32 then skF B n f (p + 1) else p) < n ∧ B (if p < n ∧ B p = 32 then skF B n f (p + 1) else p) = 32)
    by_cases q : p < n ∧ B p = 32
    · rw [if_pos q]
      have := skF_b (B := B) (n := n) f (p + 1) (by omega)
      exact ⟨by omega, this.2.1, this.2.2⟩
    · rw [if_neg q]
      exact ⟨Nat.le_refl _, by omega, q⟩
theorem sk_b {B : Nat → Nat} {n p : Nat} (h : p ≤ n) : p ≤ sk B n p ∧ sk B n p ≤ n ∧ ¬ (sk B n p < n ∧ B (sk B n p) = 32) := skF_b (n - p) p (by omega)
theorem sk_sk {B : Nat → Nat} {n p : Nat} (h : p ≤ n) : sk B n (sk B n p) = sk B n p := sk_stop (sk_b h).2.2
def cB (B : Nat → Nat) (n p : Nat) : Nat := if sk B n p < n then B (sk B n p) else 256
theorem cB_lt {B : Nat → Nat} {n p c : Nat} (h : cB B n p = c) (hc : c ≠ 256) : sk B n p < n ∧ B (sk B n p) = c := by
  unfold cB at h
  by_cases q : sk B n p < n
  · rw [if_pos q] at h; exact ⟨q, h⟩
  · rw [if_neg q] at h; exact absurd h.symm hc
theorem cB_sk {B : Nat → Nat} {n p : Nat} (h : p ≤ n) : cB B n (sk B n p) = cB B n p := by unfold cB; rw [sk_sk h]
/-- a number -/
def nuF (B : Nat → Nat) (n mx : Nat) : Nat → Nat → Nat → Nat → Nat × Option Nat
  | 0, _, p, _ => (p, none)
  | f + 1, i, p, v => if n ≤ p ∨ ¬ (48 ≤ B p ∧ B p ≤ 57) then (p, some v) else if i < mx then nuF B n mx f (i + 1) (p + 1) (10 * v + (B p - 48)) else (p, none)
def pNum (B : Nat → Nat) (n mx k p : Nat) : PR :=
  if sk B n p < n ∧ (48 ≤ B (sk B n p) ∧ B (sk B n p) ≤ 57) then
    (match nuF B n mx (mx + 1) 0 (sk B n p) 0 with
    | (q, none) => (q, none)
    | (q, some v) => (q, some ([wd k v], fun _ => nI v)))
  else (sk B n p, none)
/-- X (op X)* -/
def chn (B : Nat → Nat) (n : Nat) (ops : Nat → Nat) (X : Nat → PR) : Nat → Nat → List Nat → ((Nat → Int32) → Int32) → PR
  | 0, p, _, _ => (p, none)
  | f + 1, p, c, v => if ops (cB B n p) = 0 then (sk B n p, some (c, v)) else
    (match X (sk B n p + 1) with
    | (q, none) => (q, none)
    | (q, some (c2, v2)) => chn B n ops X f q (c ++ c2 ++ [wd (ops (cB B n p)) 0]) (fun e => jn (ops (cB B n p)) (v e) (v2 e)))
def pChn (B : Nat → Nat) (n : Nat) (ops : Nat → Nat) (X : Nat → PR) (p : Nat) : PR :=
  match X p with
  | (q, none) => (q, none)
  | (q, some (c, v)) => chn B n ops X (n + 1) q c v
/-- within brackets -/
def pIn (B : Nat → Nat) (n z : Nat) (X : Nat → PR) (p : Nat) : PR :=
  match X p with
  | (q, none) => (q, none)
  | (q, some (c, v)) => if cB B n q = z then (sk B n q + 1, some (c, v)) else (sk B n q, none)
def pAtom (B : Nat → Nat) (n s : Nat) (S : Option (Nat → PR)) (p : Nat) : PR :=
  if cB B n p = 91 then (match S with
    | none => (sk B n p, none)
    | some S => pIn B n 93 S (sk B n p + 1))
  else if 48 ≤ cB B n p ∧ cB B n p ≤ 57 then pNum B n 4 0 (sk B n p)
  else if cB B n p = 256 ∨ kxI s (cB B n p) = -nI 1 then (sk B n p, none)
  else (sk B n p + 1, some ([wd 1 (kxI s (cB B n p)).toNatClampNeg], fun e => e (cB B n p)))
def opT (c : Nat) : Nat := if c = 42 then 4 else 0
def opS (c : Nat) : Nat := if c = 43 then 2 else if c = 45 then 3 else 0
def opP (c : Nat) : Nat := if c = 38 then 9 else 0
def opC (c : Nat) : Nat := if c = 124 then 10 else 0
def opQ (c : Nat) : Nat := if c = 61 then 5 else if c = 60 then 6 else if c = 62 then 7 else 0
def pTm (B : Nat → Nat) (n s : Nat) (S : Option (Nat → PR)) (p : Nat) : PR := pChn B n opT (pAtom B n s S) p
def pSm (B : Nat → Nat) (n s : Nat) (S : Option (Nat → PR)) (p : Nat) : PR := pChn B n opS (pTm B n s S) p
/-- what lies one deeper -/
def lowS (B : Nat → Nat) (n s : Nat) : Nat → Option (Nat → PR)
  | 0 => none
  | d + 1 => some (pSm B n s (lowS B n s d))
def pCmp (B : Nat → Nat) (n : Nat) (S : Nat → PR) (p : Nat) : PR :=
  match S p with
  | (q, none) => (q, none)
  | (q, some (c, v)) => if opQ (cB B n q) = 0 then (sk B n q, none) else
    (match S (sk B n q + 1) with
    | (q2, none) => (q2, none)
    | (q2, some (c2, v2)) => (q2, some (c ++ c2 ++ [wd (opQ (cB B n q)) 0], fun e => jn (opQ (cB B n q)) (v e) (v2 e))))
def pNot (X : Nat → PR) (p : Nat) : PR :=
  match X p with
  | (q, none) => (q, none)
  | (q, some (c, v)) => (q, some (c ++ [wd 8 0], fun e => nI 1 - v e))
def pUnit (B : Nat → Nat) (n : Nat) (U : Option (Nat → PR)) (C : Option (Nat → PR)) (S : Nat → PR) (p : Nat) : PR :=
  if cB B n p = 33 then (match U with
    | none => (sk B n p, none)
    | some U => pNot U (sk B n p + 1))
  else if cB B n p = 40 then (match C with
    | none => (sk B n p, none)
    | some C => pIn B n 41 C (sk B n p + 1))
  else pCmp B n S (sk B n p)
def pPart (B : Nat → Nat) (n : Nat) (U : Nat → PR) (p : Nat) : PR := pChn B n opP U p
def pCond (B : Nat → Nat) (n : Nat) (U : Nat → PR) (p : Nat) : PR := pChn B n opC (pPart B n U) p
def pU (B : Nat → Nat) (n s : Nat) : Nat → Nat → PR
  | 0 => pUnit B n none none (pSm B n s (lowS B n s 0))
  | d + 1 => pUnit B n (some (pU B n s d)) (some (pCond B n (pU B n s d))) (pSm B n s (lowS B n s (d + 1)))
def pCo (B : Nat → Nat) (n s p : Nat) : PR := pCond B n (pU B n s 8) p
/-- a program's words at work on a stack -/
def ex1 (s : Nat) (e : Nat → Int32) (w : Nat) (st : List Int32) : Option (List Int32) :=
  if w / 65536 = 0 then (if st.length < 40 then some (nI (w % 65536) :: st) else none)
  else if w / 65536 = 1 then (if st.length < 40 ∧ w % 65536 < slen (2000000 + s) then some (e (sbN s (w % 65536)) :: st) else none)
  else if w / 65536 = 8 then (match st with
    | a :: t => some ((nI 1 - a) :: t)
    | [] => none)
  else if w / 65536 ≤ 10 then (match st with
    | b :: a :: t => some (jn (w / 65536) a b :: t)
    | _ => none)
  else none
def exE (s : Nat) (e : Nat → Int32) : List Nat → List Int32 → Option (List Int32)
  | [], st => some st
  | w :: c, st => (match ex1 s e w st with
    | some t => exE s e c t
    | none => none)
theorem exE_app {s : Nat} {e : Nat → Int32} : ∀ c st t, exE s e c st = some t → ∀ c2, exE s e (c ++ c2) st = exE s e c2 t
  | [], st, t, h, c2 => by
    have h : some st = some t := h
    rw [Option.some.inj h]; rfl
  | w :: c, st, t, h, c2 => by
    have h : (match ex1 s e w st with | some t => exE s e c t | none => none) = some t := h
    show (match ex1 s e w st with | some t => exE s e (c ++ c2) t | none => none) = _
    cases q : ex1 s e w st with
    | none => rw [q] at h; cases h
    | some u => rw [q] at h; exact exE_app c u t h c2
def rOK (s : Nat) (c : List Nat) (v : (Nat → Int32) → Int32) (h : Nat) : Prop := ∀ e st, st.length + h ≤ 40 → exE s e c st = some (v e :: st)
theorem rOK_mono {s : Nat} {c : List Nat} {v : (Nat → Int32) → Int32} {h h' : Nat} (r : rOK s c v h) (l : h ≤ h') : rOK s c v h' := fun e st q => r e st (by omega)
theorem rOK_bin {s : Nat} {c c2 : List Nat} {v v2 : (Nat → Int32) → Int32} {h k : Nat} (hk : 2 ≤ k ∧ k ≤ 10 ∧ k ≠ 8) (r : rOK s c v (h + 1)) (r2 : rOK s c2 v2 h) : rOK s (c ++ c2 ++ [wd k 0]) (fun e => jn k (v e) (v2 e)) (h + 1) := by
  intro e st q
  rw [List.append_assoc, exE_app _ _ _ (r e st q), exE_app _ _ _ (r2 e (v e :: st) (by show st.length + 1 + h ≤ 40; omega))]
  show (match ex1 s e (wd k 0) (v2 e :: v e :: st) with | some t => exE s e [] t | none => none) = _
  unfold ex1
  rw [wd_dk (by decide), if_neg (by omega), if_neg (by omega), if_neg (by omega), if_pos (by omega)]
  rfl
theorem rOK_not {s : Nat} {c : List Nat} {v : (Nat → Int32) → Int32} {h : Nat} (r : rOK s c v h) : rOK s (c ++ [wd 8 0]) (fun e => nI 1 - v e) h := by
  intro e st q
  rw [exE_app _ _ _ (r e st q)]
  rfl
def WX (n s : Nat) (X : Nat → PR) (m h : Nat) (P : Int32 → Prop) : Prop := ∀ p, p ≤ n → ∀ q, (X p = (q, none) → p ≤ q ∧ q ≤ n) ∧ ∀ c v, X p = (q, some (c, v)) → p + m ≤ q ∧ q ≤ n ∧ c.length + p ≤ q ∧ (∀ e, P (v e)) ∧ rOK s c v h
theorem chn_W {B : Nat → Nat} {n s m h : Nat} {ops : Nat → Nat} {X : Nat → PR} {P : Int32 → Prop} (w : WX n s X m h P) (o0 : ops 256 = 0) (ok : ∀ c, ops c ≠ 0 → 2 ≤ ops c ∧ ops c ≤ 10 ∧ ops c ≠ 8) (oP : ∀ c a b, ops c ≠ 0 → P a → P b → P (jn (ops c) a b)) (p0 : Nat) : ∀ f p c v, p ≤ n → n < p + f → p0 + m ≤ p → c.length + p0 ≤ p → (∀ e, P (v e)) → rOK s c v (h + 1) → ∀ q, (chn B n ops X f p c v = (q, none) → p0 ≤ q ∧ q ≤ n) ∧ ∀ c' v', chn B n ops X f p c v = (q, some (c', v')) → p0 + m ≤ q ∧ q ≤ n ∧ c'.length + p0 ≤ q ∧ (∀ e, P (v' e)) ∧ rOK s c' v' (h + 1)
  | 0, p, c, v, hp, hf, _, _, _, _, q => by omega
  | f + 1, p, c, v, hp, hf, h1, h2, h3, h4, q => by
    obtain ⟨k1, k2, k3⟩ := sk_b (B := B) hp
    unfold chn
    by_cases o : ops (cB B n p) = 0
    · rw [if_pos o]
      refine ⟨fun u => (by cases u), fun c' v' u => ?_⟩
      injection u with u1 u2
      injection u2 with u2
      injection u2 with u2 u3
      subst u1; subst u2; subst u3
      exact ⟨by omega, k2, by omega, h3, h4⟩
    · rw [if_neg o]
      have lt : sk B n p < n := by
        by_cases u : sk B n p < n
        · exact u
        · exfalso; apply o
          have : cB B n p = 256 := if_neg u
          rw [this, o0]
      have wx := w (sk B n p + 1) (by omega)
      cases hx : X (sk B n p + 1) with
      | mk q1 r1 =>
        cases r1 with
        | none =>
          refine ⟨fun u => ?_, fun c' v' u => by cases u⟩
          injection u with u1 u2
          subst u1
          have := (wx q1).1 hx
          omega
        | some r1 =>
          obtain ⟨c2, v2⟩ := r1
          obtain ⟨a1, a2, a3, a4, a5⟩ := (wx q1).2 c2 v2 hx
          refine chn_W w o0 ok oP p0 f q1 _ _ a2 (by omega) (by omega) ?_ (fun e => oP _ _ _ o (h3 e) (a4 e)) (rOK_bin (ok _ o) h4 a5) q
          simp only [List.length_append, List.length_cons, List.length_nil]
          omega
theorem pChn_W {B : Nat → Nat} {n s m h : Nat} {ops : Nat → Nat} {X : Nat → PR} {P : Int32 → Prop} (w : WX n s X m h P) (o0 : ops 256 = 0) (ok : ∀ c, ops c ≠ 0 → 2 ≤ ops c ∧ ops c ≤ 10 ∧ ops c ≠ 8) (oP : ∀ c a b, ops c ≠ 0 → P a → P b → P (jn (ops c) a b)) : WX n s (pChn B n ops X) m (h + 1) P := by
  intro p hp q
  unfold pChn
  have wx := w p hp
  cases hx : X p with
  | mk q1 r1 =>
    cases r1 with
    | none =>
      refine ⟨fun u => ?_, fun c' v' u => by cases u⟩
      injection u with u1 u2
      subst u1
      exact (wx q1).1 hx
    | some r1 =>
      obtain ⟨c2, v2⟩ := r1
      obtain ⟨a1, a2, a3, a4, a5⟩ := (wx q1).2 c2 v2 hx
      exact chn_W w o0 ok oP p (n + 1) q1 c2 v2 a2 (by omega) a1 a3 a4 (rOK_mono a5 (by omega)) q
theorem pIn_W {B : Nat → Nat} {n s m h z : Nat} {X : Nat → PR} {P : Int32 → Prop} (w : WX n s X m h P) (hz : z ≠ 256) : WX n s (pIn B n z X) (m + 1) h P := by
  intro p hp q
  unfold pIn
  have wx := w p hp
  cases hx : X p with
  | mk q1 r1 =>
    cases r1 with
    | none =>
      refine ⟨fun u => ?_, fun c' v' u => by cases u⟩
      injection u with u1 u2
      subst u1
      exact (wx q1).1 hx
    | some r1 =>
      obtain ⟨c2, v2⟩ := r1
      obtain ⟨a1, a2, a3, a4, a5⟩ := (wx q1).2 c2 v2 hx
      obtain ⟨k1, k2, k3⟩ := sk_b (B := B) a2
      by_cases e : cB B n q1 = z
      · simp only [if_pos e]
        refine ⟨fun u => (by cases u), fun c' v' u => ?_⟩
        injection u with u1 u2
        injection u2 with u2
        injection u2 with u2 u3
        subst u1; subst u2; subst u3
        have := (cB_lt e hz).1
        exact ⟨by omega, by omega, by omega, a4, a5⟩
      · simp only [if_neg e]
        refine ⟨fun u => ?_, fun c' v' u => by cases u⟩
        injection u with u1 u2
        subst u1
        omega
theorem WX_at {n s m h : Nat} {X : Nat → PR} {P : Int32 → Prop} {p p' : Nat} (w : WX n s X m h P) (hp : p ≤ p') (hp' : p' ≤ n) (q : Nat) : (X p' = (q, none) → p ≤ q ∧ q ≤ n) ∧ ∀ c v, X p' = (q, some (c, v)) → p + m ≤ q ∧ q ≤ n ∧ c.length + p ≤ q ∧ (∀ e, P (v e)) ∧ rOK s c v h := by
  have wx := w p' hp' q
  refine ⟨fun u => ?_, fun c v u => ?_⟩
  · have := wx.1 u; omega
  · obtain ⟨a1, a2, a3, a4, a5⟩ := wx.2 c v u
    exact ⟨by omega, a2, by omega, a4, a5⟩
theorem nuF_b {B : Nat → Nat} {n mx : Nat} : ∀ f i p v, p ≤ n → i + f = mx + 1 → v + 1 ≤ 10 ^ i → ∀ q, (nuF B n mx f i p v = (q, none) → p ≤ q ∧ q ≤ n) ∧ ∀ u, nuF B n mx f i p v = (q, some u) → p ≤ q ∧ q ≤ n ∧ u + 1 ≤ 10 ^ mx
  | 0, i, p, v, hp, hf, hv, q => by
    refine ⟨fun u => ?_, fun u h => by cases h⟩
    injection u with u1 u2
    subst u1; exact ⟨Nat.le_refl _, hp⟩
  | f + 1, i, p, v, hp, hf, hv, q => by
    unfold nuF
    by_cases c : n ≤ p ∨ ¬ (48 ≤ B p ∧ B p ≤ 57)
    · rw [if_pos c]
      refine ⟨fun u => (by cases u), fun u h => ?_⟩
      injection h with u1 u2
      injection u2 with u2
      subst u1; subst u2
      exact ⟨Nat.le_refl _, hp, Nat.le_trans hv (Nat.pow_le_pow_right (by decide) (by omega))⟩
    · rw [if_neg c]
      by_cases c2 : i < mx
      · rw [if_pos c2]
        have ih := nuF_b (B := B) (n := n) (mx := mx) f (i + 1) (p + 1) (10 * v + (B p - 48)) (by omega) (by omega) (by rw [Nat.pow_succ]; omega) q
        refine ⟨fun u => ?_, fun u h => ?_⟩
        · have := ih.1 u; omega
        · have := ih.2 u h; omega
      · rw [if_neg c2]
        refine ⟨fun u => ?_, fun u h => by cases h⟩
        injection u with u1 u2
        subst u1; exact ⟨Nat.le_refl _, hp⟩
theorem nuF_1 {B : Nat → Nat} {n mx p : Nat} (hp : p < n) (hd : 48 ≤ B p ∧ B p ≤ 57) (hm : 1 ≤ mx) : nuF B n mx (mx + 1) 0 p 0 = nuF B n mx mx 1 (p + 1) (B p - 48) := by
  conv => lhs; unfold nuF
  rw [if_neg (by omega), if_pos (by omega)]
  congr 1
  omega
theorem pNum_W {B : Nat → Nat} {n s mx : Nat} (h4 : mx ≤ 4) (h1 : 1 ≤ mx) : WX n s (pNum B n mx 0) 1 1 (fun _ => True) := by
  intro p hp q
  obtain ⟨k1, k2, k3⟩ := sk_b (B := B) hp
  unfold pNum
  by_cases c : sk B n p < n ∧ (48 ≤ B (sk B n p) ∧ B (sk B n p) ≤ 57)
  · rw [if_pos c, nuF_1 c.1 c.2 h1]
    have b := nuF_b (B := B) (n := n) (mx := mx) mx 1 (sk B n p + 1) (B (sk B n p) - 48) (by omega) (by omega) (by omega)
    have le : 10 ^ mx ≤ 10 ^ 4 := Nat.pow_le_pow_right (by decide) h4
    cases hx : nuF B n mx mx 1 (sk B n p + 1) (B (sk B n p) - 48) with
    | mk q1 r1 =>
      cases r1 with
      | none =>
        refine ⟨fun u => ?_, fun c' v' u => by cases u⟩
        injection u with u1 u2
        subst u1
        have := (b q1).1 hx; omega
      | some r1 =>
        have bb := (b q1).2 r1 hx
        refine ⟨fun u => (by cases u), fun c' v' u => ?_⟩
        injection u with u1 u2
        injection u2 with u2
        injection u2 with u2 u3
        subst u1; subst u2; subst u3
        refine ⟨by omega, by omega, by show 1 + p ≤ _; omega, fun _ => trivial, fun e st q => ?_⟩
        show (match ex1 s e (wd 0 r1) st with | some t => exE s e [] t | none => none) = _
        unfold ex1
        rw [wd_dk (by omega), wd_dv (by omega), if_pos rfl, if_pos (by omega)]
        rfl
  · rw [if_neg c]
    refine ⟨fun u => ?_, fun c' v' u => by cases u⟩
    injection u with u1 u2
    subst u1; omega
theorem pAtom_W {B : Nat → Nat} {n s h : Nat} (hB : ∀ i, i < n → B i < 256) (hs : s < 3) {S : Option (Nat → PR)} (w : ∀ T, S = some T → WX n s T 1 h (fun _ => True)) (hh : 1 ≤ h) : WX n s (pAtom B n s S) 1 h (fun _ => True) := by
  intro p hp q
  obtain ⟨k1, k2, k3⟩ := sk_b (B := B) hp
  have fail : ∀ q, ((((sk B n p, none) : PR) = (q, none) → p ≤ q ∧ q ≤ n) ∧ ∀ c v, (((sk B n p, none) : PR) = (q, some (c, v)) → p + 1 ≤ q ∧ q ≤ n ∧ c.length + p ≤ q ∧ (∀ e : Nat → Int32, (fun _ => True) (v e)) ∧ rOK s c v h)) := by
    intro q
    refine ⟨fun u => ?_, fun c' v' u => by cases u⟩
    injection u with u1 u2
    subst u1; omega
  unfold pAtom
  by_cases c1 : cB B n p = 91
  · rw [if_pos c1]
    have lt := (cB_lt c1 (by decide)).1
    cases S with
    | none => exact fail q
    | some T =>
      have wi := pIn_W (B := B) (z := 93) (w T rfl) (by decide)
      have := WX_at wi (p := p) (p' := sk B n p + 1) (by omega) (by omega) q
      refine ⟨this.1, fun c v u => ?_⟩
      obtain ⟨a1, a2, a3, a4, a5⟩ := this.2 c v u
      exact ⟨by omega, a2, a3, a4, a5⟩
  rw [if_neg c1]
  by_cases c2 : 48 ≤ cB B n p ∧ cB B n p ≤ 57
  · rw [if_pos c2]
    have := WX_at (pNum_W (B := B) (n := n) (s := s) (mx := 4) (by decide) (by decide)) (p := p) (p' := sk B n p) k1 k2 q
    refine ⟨this.1, fun c v u => ?_⟩
    obtain ⟨a1, a2, a3, a4, a5⟩ := this.2 c v u
    exact ⟨a1, a2, a3, a4, rOK_mono a5 hh⟩
  rw [if_neg c2]
  by_cases c3 : cB B n p = 256 ∨ kxI s (cB B n p) = -nI 1
  · rw [if_pos c3]; exact fail q
  · rw [if_neg c3]
    have c3a : cB B n p ≠ 256 := fun u => c3 (Or.inl u)
    obtain ⟨l1, l2⟩ := cB_lt rfl c3a
    have lb := hB _ l1
    rw [l2] at lb
    obtain ⟨i, i1, i2, i3, i4, -⟩ := (kx_d s (by omega) (cB B n p) lb).resolve_left (fun u => c3 (Or.inr u))
    refine ⟨fun u => (by cases u), fun c' v' u => ?_⟩
    injection u with u1 u2
    injection u2 with u2
    injection u2 with u2 u3
    subst u1; subst u2; subst u3
    refine ⟨by omega, by omega, by show 1 + p ≤ _; omega, fun _ => trivial, fun e st q => ?_⟩
    rw [i2, cl_nI (by omega)]
    show (match ex1 s e (wd 1 i) st with | some t => exE s e [] t | none => none) = _
    unfold ex1
    rw [wd_dk (by omega), wd_dv (by omega), if_neg (by decide), if_pos rfl, if_pos ⟨by omega, i3⟩, i4]
    rfl
theorem opT_ok : opT 256 = 0 ∧ (∀ c, opT c ≠ 0 → 2 ≤ opT c ∧ opT c ≤ 10 ∧ opT c ≠ 8) := ⟨rfl, fun c h => by unfold opT at h ⊢; split <;> simp_all⟩
theorem opS_ok : opS 256 = 0 ∧ (∀ c, opS c ≠ 0 → 2 ≤ opS c ∧ opS c ≤ 10 ∧ opS c ≠ 8) := ⟨rfl, fun c h => by unfold opS at h ⊢; split <;> (try split) <;> simp_all⟩
theorem opP_ok : opP 256 = 0 ∧ (∀ c, opP c ≠ 0 → 2 ≤ opP c ∧ opP c ≤ 10 ∧ opP c ≠ 8) := ⟨rfl, fun c h => by unfold opP at h ⊢; split <;> simp_all⟩
theorem opC_ok : opC 256 = 0 ∧ (∀ c, opC c ≠ 0 → 2 ≤ opC c ∧ opC c ≤ 10 ∧ opC c ≠ 8) := ⟨rfl, fun c h => by unfold opC at h ⊢; split <;> simp_all⟩
theorem opP_9 {c : Nat} (h : opP c ≠ 0) : opP c = 9 := by unfold opP at h ⊢; split <;> simp_all
theorem opC_10 {c : Nat} (h : opC c ≠ 0) : opC c = 10 := by unfold opC at h ⊢; split <;> simp_all
theorem opQ_567 {c : Nat} (h : opQ c ≠ 0) : opQ c = 5 ∨ opQ c = 6 ∨ opQ c = 7 := by unfold opQ at h ⊢; split <;> (try split) <;> (try split) <;> simp_all
theorem pTm_W {B : Nat → Nat} {n s h : Nat} (hB : ∀ i, i < n → B i < 256) (hs : s < 3) {S : Option (Nat → PR)} (w : ∀ T, S = some T → WX n s T 1 h (fun _ => True)) (hh : 1 ≤ h) : WX n s (pTm B n s S) 1 (h + 1) (fun _ => True) := pChn_W (pAtom_W hB hs w hh) opT_ok.1 opT_ok.2 (fun _ _ _ _ _ _ => trivial)
theorem pSm_W {B : Nat → Nat} {n s h : Nat} (hB : ∀ i, i < n → B i < 256) (hs : s < 3) {S : Option (Nat → PR)} (w : ∀ T, S = some T → WX n s T 1 h (fun _ => True)) (hh : 1 ≤ h) : WX n s (pSm B n s S) 1 (h + 2) (fun _ => True) := pChn_W (pTm_W hB hs w hh) opS_ok.1 opS_ok.2 (fun _ _ _ _ _ _ => trivial)
theorem low_W {B : Nat → Nat} {n s : Nat} (hB : ∀ i, i < n → B i < 256) (hs : s < 3) : ∀ d T, lowS B n s d = some T → WX n s T 1 (2 * d + 1) (fun _ => True)
  | 0, T, h => by cases h
  | d + 1, T, h => by
    have h : some (pSm B n s (lowS B n s d)) = some T := h
    injection h with h
    subst h
    exact pSm_W hB hs (low_W hB hs d) (by omega)
theorem sum_W {B : Nat → Nat} {n s : Nat} (hB : ∀ i, i < n → B i < 256) (hs : s < 3) (d : Nat) : WX n s (pSm B n s (lowS B n s d)) 1 (2 * d + 3) (fun _ => True) := pSm_W hB hs (low_W hB hs d) (by omega)
theorem pCmp_W {B : Nat → Nat} {n s h : Nat} {S : Nat → PR} (w : WX n s S 1 h (fun _ => True)) : WX n s (pCmp B n S) 3 (h + 1) isB := by
  intro p hp q
  unfold pCmp
  have wx := w p hp
  cases hx : S p with
  | mk q1 r1 =>
    cases r1 with
    | none =>
      refine ⟨fun u => ?_, fun c' v' u => by cases u⟩
      injection u with u1 u2
      subst u1
      exact (wx q1).1 hx
    | some r1 =>
      obtain ⟨c, v⟩ := r1
      obtain ⟨a1, a2, a3, a4, a5⟩ := (wx q1).2 c v hx
      obtain ⟨k1, k2, k3⟩ := sk_b (B := B) a2
      by_cases e : opQ (cB B n q1) = 0
      · simp only [if_pos e]
        refine ⟨fun u => ?_, fun c' v' u => by cases u⟩
        injection u with u1 u2
        subst u1
        omega
      · simp only [if_neg e]
        have lt : sk B n q1 < n := by
          by_cases u : sk B n q1 < n
          · exact u
          · exfalso; apply e
            have : cB B n q1 = 256 := if_neg u
            rw [this]; rfl
        have wy := w (sk B n q1 + 1) (by omega)
        cases hy : S (sk B n q1 + 1) with
        | mk q2 r2 =>
          cases r2 with
          | none =>
            refine ⟨fun u => ?_, fun c' v' u => by cases u⟩
            injection u with u1 u2
            subst u1
            have := (wy q2).1 hy; omega
          | some r2 =>
            obtain ⟨c2, v2⟩ := r2
            obtain ⟨b1, b2, b3, b4, b5⟩ := (wy q2).2 c2 v2 hy
            refine ⟨fun u => (by cases u), fun c' v' u => ?_⟩
            injection u with u1 u2
            injection u2 with u2
            injection u2 with u2 u3
            subst u1; subst u2; subst u3
            have o := opQ_567 e
            refine ⟨by omega, b2, ?_, fun e => jn_B o, rOK_bin (by omega) (rOK_mono a5 (by omega)) b5⟩
            simp only [List.length_append, List.length_cons, List.length_nil]
            omega
theorem isB_not {a : Int32} (h : isB a) : isB (nI 1 - a) := by rcases h with rfl | rfl <;> (unfold isB; decide)
theorem pNot_W {n s m h : Nat} {X : Nat → PR} (w : WX n s X m h isB) (p p' : Nat) (hp : p < p') (hp' : p' ≤ n) (q : Nat) : (pNot X p' = (q, none) → p ≤ q ∧ q ≤ n) ∧ ∀ c v, pNot X p' = (q, some (c, v)) → p + m ≤ q ∧ q ≤ n ∧ c.length + p ≤ q ∧ (∀ e, isB (v e)) ∧ rOK s c v h := by
  unfold pNot
  have wx := w p' hp'
  cases hx : X p' with
  | mk q1 r1 =>
    cases r1 with
    | none =>
      refine ⟨fun u => ?_, fun c' v' u => by cases u⟩
      injection u with u1 u2
      subst u1
      have := (wx q1).1 hx; omega
    | some r1 =>
      obtain ⟨c2, v2⟩ := r1
      obtain ⟨a1, a2, a3, a4, a5⟩ := (wx q1).2 c2 v2 hx
      refine ⟨fun u => (by cases u), fun c' v' u => ?_⟩
      injection u with u1 u2
      injection u2 with u2
      injection u2 with u2 u3
      subst u1; subst u2; subst u3
      refine ⟨by omega, a2, ?_, fun e => isB_not (a4 e), rOK_not a5⟩
      simp only [List.length_append, List.length_cons, List.length_nil]
      omega
theorem pUnit_W {B : Nat → Nat} {n s h : Nat} {U C : Option (Nat → PR)} {S : Nat → PR} (wU : ∀ T, U = some T → WX n s T 3 h isB) (wC : ∀ T, C = some T → WX n s T 3 h isB) (wS : WX n s S 1 (h - 1) (fun _ => True)) (hh : 1 ≤ h) : WX n s (pUnit B n U C S) 3 h isB := by
  intro p hp q
  obtain ⟨k1, k2, k3⟩ := sk_b (B := B) hp
  have fail : ∀ q, ((((sk B n p, none) : PR) = (q, none) → p ≤ q ∧ q ≤ n) ∧ ∀ c v, (((sk B n p, none) : PR) = (q, some (c, v)) → p + 3 ≤ q ∧ q ≤ n ∧ c.length + p ≤ q ∧ (∀ e : Nat → Int32, isB (v e)) ∧ rOK s c v h)) := by
    intro q
    refine ⟨fun u => ?_, fun c' v' u => by cases u⟩
    injection u with u1 u2
    subst u1; omega
  unfold pUnit
  by_cases c1 : cB B n p = 33
  · rw [if_pos c1]
    have lt := (cB_lt c1 (by decide)).1
    cases U with
    | none => exact fail q
    | some T => exact pNot_W (wU T rfl) p (sk B n p + 1) (by omega) (by omega) q
  rw [if_neg c1]
  by_cases c2 : cB B n p = 40
  · rw [if_pos c2]
    have lt := (cB_lt c2 (by decide)).1
    cases C with
    | none => exact fail q
    | some T =>
      have := WX_at (pIn_W (B := B) (z := 41) (wC T rfl) (by decide)) (p := p) (p' := sk B n p + 1) (by omega) (by omega) q
      refine ⟨this.1, fun c v u => ?_⟩
      obtain ⟨a1, a2, a3, a4, a5⟩ := this.2 c v u
      exact ⟨by omega, a2, a3, a4, a5⟩
  rw [if_neg c2]
  have wc := pCmp_W (B := B) wS
  rw [show h - 1 + 1 = h by omega] at wc
  exact WX_at wc k1 k2 q
theorem pPart_W {B : Nat → Nat} {n s h : Nat} {U : Nat → PR} (w : WX n s U 3 h isB) : WX n s (pPart B n U) 3 (h + 1) isB := pChn_W w opP_ok.1 opP_ok.2 (fun c a b o ha hb => by rw [opP_9 o]; exact jn_B9 (Or.inl rfl) ha hb)
theorem pCond_W {B : Nat → Nat} {n s h : Nat} {U : Nat → PR} (w : WX n s U 3 h isB) : WX n s (pCond B n U) 3 (h + 2) isB := pChn_W (pPart_W w) opC_ok.1 opC_ok.2 (fun c a b o ha hb => by rw [opC_10 o]; exact jn_B9 (Or.inr rfl) ha hb)
theorem WX_mono {n s m h h' : Nat} {X : Nat → PR} {P : Int32 → Prop} (w : WX n s X m h P) (l : h ≤ h') : WX n s X m h' P := by
  intro p hp q
  refine ⟨(w p hp q).1, fun c v u => ?_⟩
  obtain ⟨a1, a2, a3, a4, a5⟩ := (w p hp q).2 c v u
  exact ⟨a1, a2, a3, a4, rOK_mono a5 l⟩
theorem pU_W {B : Nat → Nat} {n s : Nat} (hB : ∀ i, i < n → B i < 256) (hs : s < 3) : ∀ d, WX n s (pU B n s d) 3 (2 * d + 4) isB
  | 0 => pUnit_W (fun T h => by cases h) (fun T h => by cases h) (sum_W hB hs 0) (by omega)
  | d + 1 => by
    refine pUnit_W (fun T h => ?_) (fun T h => ?_) (WX_mono (sum_W hB hs (d + 1)) (by omega)) (by omega)
    · injection h with h; subst h; exact WX_mono (pU_W hB hs d) (by omega)
    · injection h with h; subst h; exact WX_mono (pCond_W (pU_W hB hs d)) (by omega)
theorem pCo_W {B : Nat → Nat} {n s : Nat} (hB : ∀ i, i < n → B i < 256) (hs : s < 3) : WX n s (pCo B n s) 3 22 isB := pCond_W (pU_W hB hs 8)
