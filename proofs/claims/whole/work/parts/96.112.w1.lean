/-! ROUNDS: lists of stops, their minutes, worths and order; nothing of the machine. -/
def tmL (w : Nat → Nat → Nat) (c : Nat → Nat) (b : Nat) : Nat → List Nat → Nat
  | a, [] => w a b
  | a, i :: l => w a (c i) + 10 + tmL w c b (c i) l
def smL (g : Nat → Nat) : List Nat → Nat
  | [] => 0
  | i :: l => g i + smL g l
def lxL : List Nat → List Nat → Prop
  | [], _ => True
  | _ :: _, [] => False
  | a :: s, b :: t => a < b ∨ (a = b ∧ lxL s t)
theorem lxL_anti : ∀ s t, lxL s t → lxL t s → s = t
  | [], [], _, _ => rfl
  | [], _ :: _, _, h => h.elim
  | _ :: _, [], h, _ => h.elim
  | a :: s, b :: t, h, h2 => by
    have h : a < b ∨ (a = b ∧ lxL s t) := h
    have h2 : b < a ∨ (b = a ∧ lxL t s) := h2
    have e : a = b := by omega
    subst e
    have h3 : lxL s t := by rcases h with h | h; exact absurd h (Nat.lt_irrefl _); exact h.2
    have h4 : lxL t s := by rcases h2 with h | h; exact absurd h (Nat.lt_irrefl _); exact h.2
    rw [lxL_anti s t h3 h4]
theorem lxL_app : ∀ p q r, lxL q r → lxL (p ++ q) (p ++ r)
  | [], _, _, h => h
  | _ :: p, q, r, h => Or.inr ⟨rfl, lxL_app p q r h⟩
theorem lxL_pre : ∀ o l, lxL o l → (∃ q, l = o ++ q) ∨ ∀ r, lxL (o ++ r) l
  | [], l, _ => Or.inl ⟨l, rfl⟩
  | _ :: _, [], h => h.elim
  | a :: s, b :: t, h => by
    have h : a < b ∨ (a = b ∧ lxL s t) := h
    rcases h with h' | ⟨rfl, h'⟩
    · exact Or.inr (fun r => Or.inl h')
    · rcases lxL_pre s t h' with ⟨q, rfl⟩ | h2
      · exact Or.inl ⟨q, rfl⟩
      · exact Or.inr (fun r => Or.inr ⟨rfl, h2 r⟩)
theorem smL_app {g : Nat → Nat} : ∀ p q, smL g (p ++ q) = smL g p + smL g q
  | [], q => by show smL g q = 0 + _; omega
  | i :: p, q => by
    show g i + smL g (p ++ q) = (g i + smL g p) + _
    rw [smL_app p q]; omega
theorem lxL_map {f : Nat → Nat} {n : Nat} (hf : ∀ i j, i < n → j < n → i < j → f i < f j) : ∀ s t, (∀ i, i ∈ s → i < n) → (∀ i, i ∈ t → i < n) → lxL s t → lxL (s.map f) (t.map f)
  | [], _, _, _, _ => trivial
  | _ :: _, [], _, _, h => h.elim
  | a :: s, b :: t, hs, ht, h => by
    have h : a < b ∨ (a = b ∧ lxL s t) := h
    show f a < f b ∨ (f a = f b ∧ lxL (s.map f) (t.map f))
    rcases h with h' | ⟨rfl, h'⟩
    · exact Or.inl (hf a b (hs a (List.mem_cons_self ..)) (ht b (List.mem_cons_self ..)) h')
    · exact Or.inr ⟨rfl, lxL_map hf s t (fun i q => hs i (List.mem_cons_of_mem _ q)) (fun i q => ht i (List.mem_cons_of_mem _ q)) h'⟩
theorem tmL_map {w : Nat → Nat → Nat} {c : Nat → Nat} {b : Nat} {f : Nat → Nat} : ∀ l a, tmL w c b a (l.map f) = tmL w (fun i => c (f i)) b a l
  | [], _ => rfl
  | i :: l, a => by
    show w a (c (f i)) + 10 + tmL w c b (c (f i)) (l.map f) = w a (c (f i)) + 10 + tmL w (fun i => c (f i)) b (c (f i)) l
    rw [tmL_map l]
theorem smL_map {g : Nat → Nat} {f : Nat → Nat} : ∀ l, smL g (l.map f) = smL (fun i => g (f i)) l
  | [] => rfl
  | i :: l => by
    show g (f i) + smL g (l.map f) = g (f i) + _
    rw [smL_map l]
/-- one is better than another -/
def btr (W M W' M' : Nat) : Prop := W' < W ∨ (W = W' ∧ M < M')
def BestL (P : List Nat → Prop) (sW sM : List Nat → Nat) (B : List Nat) : Prop := P B ∧ ∀ L, P L → ¬ btr (sW L) (sM L) (sW B) (sM B) ∧ (sW L = sW B → sM L = sM B → lxL B L)
theorem BestL.uniq {P : List Nat → Prop} {sW sM : List Nat → Nat} {B B' : List Nat} (h : BestL P sW sM B) (h' : BestL P sW sM B') : B = B' := by
  obtain ⟨h1, h2⟩ := h
  obtain ⟨h3, h4⟩ := h'
  obtain ⟨a, a'⟩ := h2 B' h3
  obtain ⟨b, b'⟩ := h4 B h1
  unfold btr at a b
  have e1 : sW B' = sW B := by omega
  have e2 : sM B' = sM B := by omega
  exact lxL_anti _ _ (a' e1 e2) (b' e1.symm e2.symm)
/-- sums over the numbers below n -/
def sBn (P : Nat → Bool) (g : Nat → Nat) : Nat → Nat
  | 0 => 0
  | n + 1 => sBn P g n + (if P n then g n else 0)
theorem sBn_congr {P Q : Nat → Bool} {g : Nat → Nat} : ∀ n, (∀ i, i < n → P i = Q i) → sBn P g n = sBn Q g n
  | 0, _ => rfl
  | n + 1, h => by
    show sBn P g n + _ = sBn Q g n + _
    rw [sBn_congr n (fun i hi => h i (by omega)), h n (by omega)]
theorem sBn_add {P Q : Nat → Bool} {g : Nat → Nat} {j : Nat} (h1 : P j = false) (h2 : Q j = true) (h3 : ∀ i, i ≠ j → P i = Q i) : ∀ n, sBn Q g n = sBn P g n + (if j < n then g j else 0)
  | 0 => rfl
  | n + 1 => by
    have ih := sBn_add h1 h2 h3 n (g := g)
    show sBn Q g n + (if Q n then g n else 0) = sBn P g n + (if P n then g n else 0) + _
    by_cases e : n = j
    · subst e
      rw [ih, h1, h2, if_neg (Nat.lt_irrefl _), if_pos (Nat.lt_succ_self _)]
      simp
    · rw [ih, h3 n e]
      by_cases q : j < n
      · rw [if_pos q, if_pos (by omega : j < n + 1)]; omega
      · rw [if_neg q, if_neg (by omega : ¬ j < n + 1)]; omega
theorem sBn_0 {g : Nat → Nat} : ∀ n, sBn (fun _ => false) g n = 0
  | 0 => rfl
  | n + 1 => by
    show sBn _ g n + 0 = 0
    rw [sBn_0 n]
theorem smL_sBn {g : Nat → Nat} {n : Nat} : ∀ l : List Nat, l.Nodup → (∀ i, i ∈ l → i < n) → smL g l = sBn (fun i => decide (i ∈ l)) g n
  | [], _, _ => by
    rw [sBn_congr (Q := fun _ => false) n (fun i _ => decide_eq_false (List.not_mem_nil)), sBn_0]; rfl
  | j :: l, hd, hl => by
    have hd := List.nodup_cons.mp hd
    have ih := smL_sBn (g := g) (n := n) l hd.2 (fun i q => hl i (List.mem_cons_of_mem _ q))
    show g j + smL g l = _
    rw [sBn_add (P := fun i => decide (i ∈ l)) (j := j) (decide_eq_false hd.1) (decide_eq_true (List.mem_cons_self ..)) (fun i hi => by
      by_cases q : i ∈ l
      · rw [decide_eq_true q, decide_eq_true (List.mem_cons_of_mem _ q)]
      · rw [decide_eq_false q, decide_eq_false (fun u => (List.mem_cons.mp u).elim hi q)]) n, ih, if_pos (hl j (List.mem_cons_self ..))]
    omega
theorem sBn_le {P : Nat → Bool} {g : Nat → Nat} {m : Nat} (hg : ∀ i, g i ≤ m) : ∀ n, sBn P g n ≤ m * n
  | 0 => Nat.le_refl _
  | n + 1 => by
    have := sBn_le (P := P) hg n
    have h2 := hg n
    show sBn P g n + (if P n then g n else 0) ≤ m * (n + 1)
    rw [Nat.mul_succ]
    split <;> omega
theorem smL_one : ∀ l : List Nat, smL (fun _ => 1) l = l.length
  | [] => rfl
  | i :: l => by
    show 1 + smL _ l = l.length + 1
    rw [smL_one l]; omega
theorem nd_len {n : Nat} (l : List Nat) (hd : l.Nodup) (hl : ∀ i, i ∈ l → i < n) : l.length ≤ n := by
  rw [← smL_one, smL_sBn l hd hl]
  have := sBn_le (P := fun i => decide (i ∈ l)) (g := fun _ => 1) (m := 1) (fun _ => Nat.le_refl _) n
  omega
/-- a list whose set is given by bits -/
def stL (s : Nat) (l : List Nat) : Prop := l.Nodup ∧ ∀ i, i ∈ l ↔ s.testBit i = true
def mkL : List Nat → Nat
  | [] => 0
  | i :: l => mkL l ||| 2 ^ i
theorem mkL_bit : ∀ l j, (mkL l).testBit j = decide (j ∈ l)
  | [], j => by
    show Nat.testBit 0 j = _
    rw [Nat.zero_testBit, decide_eq_false (List.not_mem_nil)]
  | i :: l, j => by
    show (mkL l ||| 2 ^ i).testBit j = _
    rw [Nat.testBit_or, mkL_bit l j, Nat.testBit_two_pow]
    by_cases e : j = i
    · subst e; simp
    · have e' : ¬ i = j := fun u => e u.symm
      simp [e, e']
theorem mkL_lt {n : Nat} : ∀ l : List Nat, (∀ i, i ∈ l → i < n) → mkL l < 2 ^ n
  | [], _ => Nat.two_pow_pos n
  | i :: l, h => by
    show mkL l ||| 2 ^ i < 2 ^ n
    exact Nat.or_lt_two_pow (mkL_lt l (fun j q => h j (List.mem_cons_of_mem _ q))) (Nat.pow_lt_pow_of_lt (by decide) (h i (List.mem_cons_self ..)))
theorem stL_mk {l : List Nat} (h : l.Nodup) : stL (mkL l) l := ⟨h, fun i => by rw [mkL_bit]; simp⟩
theorem stL_sm {g : Nat → Nat} {s n : Nat} {l : List Nat} (h : stL s l) (hn : s < 2 ^ n) : smL g l = sBn (fun i => s.testBit i) g n := by
  have lt : ∀ i, i ∈ l → i < n := fun i q => by
    rcases Nat.lt_or_ge i n with u | u
    · exact u
    · have e := (h.2 i).mp q
      rw [Nat.testBit_lt_two_pow (Nat.lt_of_lt_of_le hn (Nat.pow_le_pow_right (by decide) u))] at e
      cases e
  rw [smL_sBn l h.1 lt]
  refine sBn_congr n (fun i _ => ?_)
  by_cases q : i ∈ l
  · rw [decide_eq_true q, (h.2 i).mp q]
  · rw [decide_eq_false q]
    cases e : s.testBit i
    · rfl
    · exact absurd ((h.2 i).mpr e) q
theorem stL_0 {l : List Nat} (h : stL 0 l) : l = [] := by
  cases l with
  | nil => rfl
  | cons i l =>
    have := (h.2 i).mp (List.mem_cons_self ..)
    rw [Nat.zero_testBit] at this
    cases this
theorem stL_cons {s i : Nat} {l : List Nat} (hb : s.testBit i = true) : stL s (i :: l) ↔ stL (s ^^^ 2 ^ i) l := by
  have tb : ∀ j, (s ^^^ 2 ^ i).testBit j = (s.testBit j ^^ decide (i = j)) := fun j => by rw [Nat.testBit_xor, Nat.testBit_two_pow]
  constructor
  · rintro ⟨h1, h2⟩
    have h1 := List.nodup_cons.mp h1
    refine ⟨h1.2, fun j => ?_⟩
    rw [tb]
    by_cases e : i = j
    · subst e
      rw [hb]
      simp [h1.1]
    · have := h2 j
      rw [List.mem_cons] at this
      have e' : ¬ j = i := fun u => e u.symm
      simp [e, e'] at this ⊢
      exact this
  · rintro ⟨h1, h2⟩
    have ni : ¬ i ∈ l := fun u => by
      have := (h2 i).mp u
      rw [tb, hb] at this
      simp at this
    refine ⟨List.nodup_cons.mpr ⟨ni, h1⟩, fun j => ?_⟩
    rw [List.mem_cons]
    have := h2 j
    rw [tb] at this
    by_cases e : i = j
    · subst e; simp [hb]
    · have e' : ¬ j = i := fun u => e u.symm
      simp [e] at this
      simp [e', this]
theorem xr_lt : ∀ s, s < 256 → ∀ i, i < 8 → s.testBit i = true → s ^^^ 2 ^ i < s := by decide +kernel
theorem stL_ne {s : Nat} (h : s ≠ 0) (hs : s < 256) : ∃ i, i < 8 ∧ s.testBit i = true := by
  have : ∀ s, s < 256 → s ≠ 0 → ∃ i, i < 8 ∧ s.testBit i = true := by decide +kernel
  exact this s hs h
