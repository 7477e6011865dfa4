/-! TEXTS, 12: a program of words is run. -/
abbrev MS : Type := List Int32 × Nat × Int32 × ST
def exW (s : Nat) (e : Nat → Int32) (w : Nat) (m : MS) : Option MS :=
  if w / 65536 ≤ 10 then (match ex1 s e w m.1 with
    | some t => some (t, m.2)
    | none => none)
  else if w / 65536 = 11 then (match m.1 with
    | a :: t => some (t, m.2.1 + 1, (if a = nI 0 then nI 0 else nI 1), if a = nI 0 then m.2.2.2 else wyF m.2.1 m.2.2.2)
    | [] => none)
  else if w / 65536 = 12 then (if w % 65536 / 10 < 5 then some (m.1, m.2.1, m.2.2.1, if m.2.2.1 = nI 0 then m.2.2.2 else ac1 w m.2.2.2) else none)
  else if w / 65536 = 13 then (if m.2.2.2.2.2.length < 40 then some (m.1, m.2.1, m.2.2.1, if m.2.2.1 = nI 0 then m.2.2.2 else ac1 w m.2.2.2) else none)
  else none
def exT (s : Nat) (e : Nat → Int32) : List Nat → MS → Option MS
  | [], m => some m
  | w :: c, m => (match exW s e w m with
    | some t => exT s e c t
    | none => none)
theorem exT_app {s : Nat} {e : Nat → Int32} : ∀ c m t, exT s e c m = some t → ∀ c2, exT s e (c ++ c2) m = exT s e c2 t
  | [], m, t, h, c2 => by
    have h : some m = some t := h
    rw [Option.some.inj h]; rfl
  | w :: c, m, t, h, c2 => by
    have h : (match exW s e w m with | some t => exT s e c t | none => none) = some t := h
    show (match exW s e w m with | some t => exT s e (c ++ c2) t | none => none) = _
    cases q : exW s e w m with
    | none => rw [q] at h; cases h
    | some u => rw [q] at h; exact exT_app c u t h c2
theorem ex1_k {s : Nat} {e : Nat → Int32} {w : Nat} {st t : List Int32} (h : ex1 s e w st = some t) : w / 65536 ≤ 10 := by
  by_cases q : w / 65536 ≤ 10
  · exact q
  · unfold ex1 at h
    rw [if_neg (by omega), if_neg (by omega), if_neg (by omega), if_neg q] at h
    cases h
theorem exT_E {s : Nat} {e : Nat → Int32} : ∀ c st t m, exE s e c st = some t → exT s e c (st, m) = some (t, m)
  | [], st, t, m, h => by
    have h : some st = some t := h
    rw [Option.some.inj h]; rfl
  | w :: c, st, t, m, h => by
    have h : (match ex1 s e w st with | some t => exE s e c t | none => none) = some t := h
    show (match exW s e w (st, m) with | some t => exT s e c t | none => none) = _
    cases q : ex1 s e w st with
    | none => rw [q] at h; cases h
    | some u =>
      rw [q] at h
      have : exW s e w (st, m) = some (u, m) := by
        unfold exW
        rw [if_pos (ex1_k q)]
        show (match ex1 s e w st with | some t => some (t, m) | none => none) = _
        rw [q]
      rw [this]
      exact exT_E c u t m h
theorem exT_a {s : Nat} {e : Nat → Int32} : ∀ a st n h S, (∀ w, w ∈ a → isAw w) → exT s e a (st, n, h, S) = some (st, n, h, if h = nI 0 then S else acs a S)
  | [], st, n, h, S, _ => by
    show some (st, n, h, S) = some (st, n, h, if h = nI 0 then S else S)
    split <;> rfl
  | w :: a, st, n, h, S, hw => by
    obtain ⟨k, dg, h1, h2, ew⟩ := hw w (List.mem_cons_self ..)
    have : exW s e w (st, n, h, S) = some (st, n, h, if h = nI 0 then S else ac1 w S) := by
      unfold exW
      have e1 : w / 65536 = 12 := by rw [ew]; exact wd_dk (by omega)
      have e2 : w % 65536 = 10 * k + dg := by rw [ew]; exact wd_dv (by omega)
      rw [if_neg (by omega), if_neg (by omega), if_pos e1, if_pos (by omega)]
    show (match exW s e w (st, n, h, S) with | some t => exT s e a t | none => none) = _
    rw [this]
    show exT s e a (st, n, h, if h = nI 0 then S else ac1 w S) = _
    rw [exT_a a st n h _ (fun u hu => hw u (List.mem_cons_of_mem _ hu))]
    by_cases q : h = nI 0
    · rw [if_pos q, if_pos q, if_pos q]
    · rw [if_neg q, if_neg q, if_neg q]; rfl
theorem exT_cl {s : Nat} {e : Nat → Int32} {l : CL} {n : Nat} {h : Int32} {S : ST} (ok : okCL s l) (hl : S.2.2.length < 40) : ∃ h', isB h' ∧ exT s e (cdC l) ([], n, h, S) = some ([], n + 1, h', clE e n l S) := by
  obtain ⟨o1, o2, o3⟩ := ok
  have b := o1 e
  refine ⟨if l.2.1 e = nI 0 then nI 0 else nI 1, ?_, ?_⟩
  · split
    · exact isB_0
    · exact isB_1
  unfold cdC
  rw [List.append_assoc, exT_app _ _ _ (exT_E _ _ _ _ (o2 e [] (by decide)))]
  show (match exW s e (wd 11 0) ([l.2.1 e], n, h, S) with | some t => exT s e l.2.2 t | none => none) = _
  have : exW s e (wd 11 0) ([l.2.1 e], n, h, S) = some ([], n + 1, (if l.2.1 e = nI 0 then nI 0 else nI 1), if l.2.1 e = nI 0 then S else wyF n S) := by
    unfold exW
    rw [wd_dk (by decide), if_neg (by decide), if_pos rfl]
  rw [this]
  show exT s e l.2.2 ([], n + 1, (if l.2.1 e = nI 0 then nI 0 else nI 1), if l.2.1 e = nI 0 then S else wyF n S) = _
  unfold clE
  by_cases q0 : s = 0
  · rw [exT_a _ _ _ _ _ (o3.1 q0)]
    by_cases q : l.2.1 e = nI 0
    · rw [if_pos q, if_pos q, if_pos q, if_pos rfl]
    · rw [if_neg q, if_neg q, if_neg q, if_neg (by decide)]
  · obtain ⟨v, hv, ea⟩ := o3.2 q0
    rw [ea]
    show (match exW s e (wd 13 v) _ with | some t => exT s e [] t | none => none) = _
    unfold exW
    rw [wd_dk (by omega), if_neg (by decide), if_neg (by decide), if_neg (by decide), if_pos rfl]
    by_cases q : l.2.1 e = nI 0
    · rw [if_pos q, if_pos q, if_pos q]
      rw [if_pos hl, if_pos rfl]
      rfl
    · rw [if_neg q, if_neg q, if_neg q]
      rw [if_pos (show (wyF n S).2.2.length < 40 from hl), if_neg (show ¬ nI 1 = nI 0 by decide)]
      rfl
theorem exT_tx {s : Nat} {e : Nat → Int32} : ∀ l n h S, (∀ a, a ∈ l → okCL s a) → isB h → S.2.2.length + l.length ≤ 40 → ∃ h', isB h' ∧ exT s e (cdT l) ([], n, h, S) = some ([], n + l.length, h', txE e n l S)
  | [], n, h, S, _, hb, _ => ⟨h, hb, rfl⟩
  | a :: l, n, h, S, ok, hb, hl => by
    have hl' : S.2.2.length + (l.length + 1) ≤ 40 := hl
    have oa := ok a (List.mem_cons_self ..)
    obtain ⟨h1, b1, e1⟩ := exT_cl (e := e) (n := n) (h := h) (S := S) oa (by omega)
    have len := clE_len (e := e) (n := n) (S := S) oa.2.2
    obtain ⟨h2, b2, e2⟩ := exT_tx (e := e) l (n + 1) h1 (clE e n a S) (fun u hu => ok u (List.mem_cons_of_mem _ hu)) b1 (by omega)
    refine ⟨h2, b2, ?_⟩
    show exT s e (cdC a ++ cdT l) ([], n, h, S) = some ([], n + (l.length + 1), h2, txE e (n + 1) l (clE e n a S))
    rw [exT_app _ _ _ e1, e2, show n + 1 + l.length = n + (l.length + 1) by omega]
def SK (f : Nat → Int32) : List Int32 → Prop
  | [] => True
  | a :: t => f t.length = a ∧ SK f t
theorem SK_ext {f f' : Nat → Int32} : ∀ st, (∀ i, i < st.length → f' i = f i) → SK f st → SK f' st
  | [], _, _ => trivial
  | a :: t, h, ⟨h1, h2⟩ => ⟨by rw [h t.length (Nat.lt_succ_self _)]; exact h1, SK_ext t (fun i hi => h i (Nat.lt_succ_of_lt hi)) h2⟩
def PM (v0 : Nat) (x : ab_X) (c : List Nat) (m : MS) : Prop := (x.1 v0 1 = nI c.length ∧ stC (x.1 (v0 + 1)) c) ∧ (x.1 v0 3 = nI m.1.length ∧ SK (x.1 (v0 + 2)) m.1 ∧ m.1.length ≤ 40) ∧ (x.1 v0 4 = nI m.2.1 ∧ x.1 v0 5 = m.2.2.1) ∧ (x.1 v0 6 = m.2.2.2.1 ∧ (∀ k, k < 5 → x.1 (v0 + 3) k = m.2.2.2.2.1 k) ∧ x.1 v0 9 = nI m.2.2.2.2.2.length ∧ ∀ i, i < m.2.2.2.2.2.length → x.1 (v0 + 4) i = m.2.2.2.2.2.getD i 0)
def rn (v0 : Nat) (x y : ab_X) : Prop := (∀ c k, ¬ (c = v0 ∧ (k = 3 ∨ k = 4 ∨ k = 5 ∨ k = 6 ∨ k = 9)) → c ≠ v0 + 2 → c ≠ v0 + 3 → c ≠ v0 + 4 → y.1 c k = x.1 c k) ∧ y.2 = x.2
theorem rn.rfl' {v0 : Nat} {x : ab_X} : rn v0 x x := ⟨fun _ _ _ _ _ _ => rfl, rfl⟩
theorem rn.tr {v0 : Nat} {x y z : ab_X} (h : rn v0 x y) (h2 : rn v0 y z) : rn v0 x z := ⟨fun c k a b d e => (h2.1 c k a b d e).trans (h.1 c k a b d e), h2.2.trans h.2⟩
theorem c_popM {v0 : Nat} {x : ab_X} {c : List Nat} {a : Int32} {t : List Int32} {m : Nat × Int32 × ST} (h : PM v0 x c (a :: t, m)) {K : Int32 → ab_X → Prop} (k : ∀ z, PM v0 z c (t, m) → rn v0 x z → K a z) : wX9_pop v0 x K := by
  obtain ⟨⟨h1, h2⟩, ⟨h3, ⟨h4, h5⟩, h6⟩, ⟨h7, h8⟩, h9, h10, h11, h12⟩ := h
  have h6 : t.length + 1 ≤ 40 := h6
  have h3 : x.1 v0 3 = nI (t.length + 1) := h3
  unfold wX9_pop
  rw [wr_e, h3]
  simp only [nI_lit]
  rw [q_le (by omega) (by omega), pk_sub (by omega), Nat.add_sub_cancel, cl_nI (by omega), wr_n (by omega)]
  refine ⟨fun _ => ⟨(vpi (by omega) (by omega)).mpr trivial, ?_⟩, fun u => absurd (by omega) u⟩
  rw [h4]
  refine k _ ⟨⟨by rw [wr_k (by omega)]; exact h1, by rw [wr_n (by omega)]; exact h2⟩, ⟨wr_e, by rw [wr_n (by omega)]; exact h5, by show t.length ≤ 40; omega⟩, ⟨by rw [wr_k (by omega)]; exact h7, by rw [wr_k (by omega)]; exact h8⟩, by rw [wr_k (by omega)]; exact h9, fun k hk => by rw [wr_n (by omega)]; exact h10 k hk, by rw [wr_k (by omega)]; exact h11, fun i hi => by rw [wr_n (by omega)]; exact h12 i hi⟩ ⟨fun c k a b d e => wr_ne (by omega), rfl⟩
theorem c_pushM {v0 : Nat} {x : ab_X} {c : List Nat} {a : Int32} {t : List Int32} {m : Nat × Int32 × ST} (h : PM v0 x c (t, m)) (hl : t.length < 40) {K : ab_X → Prop} (k : ∀ z, PM v0 z c (a :: t, m) → rn v0 x z → K z) : wX9_push v0 a x K := by
  obtain ⟨⟨h1, h2⟩, ⟨h3, h5, h6⟩, ⟨h7, h8⟩, h9, h10, h11, h12⟩ := h
  have h3 : x.1 v0 3 = nI t.length := h3
  unfold wX9_push
  rw [wr_n (by omega), h3]
  simp only [nI_lit]
  rw [q_le (by omega) (by omega), cl_nI (by omega), nI_add]
  refine ⟨fun u => absurd u (by omega), fun _ => ⟨(vpi (by omega) (by omega)).mpr trivial, ?_⟩⟩
  refine k _ ⟨⟨?_, ?_⟩, ⟨wr_e, ⟨?_, ?_⟩, by show t.length + 1 ≤ 40; omega⟩, ⟨?_, ?_⟩, ?_, fun k hk => ?_, ?_, fun i hi => ?_⟩ ⟨fun c k a b d e => by simp (disch := omega) only [wr_ne], rfl⟩
  · simp (disch := omega) only [wr_ne]; exact h1
  · rw [wr_n (by omega), wr_n (by omega)]; exact h2
  · rw [wr_n (by omega), wr_e]
  · rw [wr_n (by omega)]
    exact SK_ext t (fun i hi => wr_k (by omega)) h5
  · simp (disch := omega) only [wr_ne]; exact h7
  · simp (disch := omega) only [wr_ne]; exact h8
  · simp (disch := omega) only [wr_ne]; exact h9
  · simp (disch := omega) only [wr_ne]; exact h10 k hk
  · simp (disch := omega) only [wr_ne]; exact h11
  · simp (disch := omega) only [wr_ne]; exact h12 i hi
theorem c_join {k : Nat} {a b : Int32} (hk : 2 ≤ k ∧ k ≤ 10 ∧ k ≠ 8) {x : ab_X} {K : Int64 → Prop} (h : K (jl k a b)) : wX9_joined (nI k) a b x K := by
  unfold wX9_joined
  rw [nI_toInt (by omega)]
  simp only [nI_lit]
  rw [q_eq (by omega) (by omega), q_eq (by omega) (by omega), q_eq (by omega) (by omega), q_eq (by omega) (by omega), q_eq (by omega) (by omega), q_eq (by omega) (by omega), q_eq (by omega) (by omega), q_eq (by omega) (by omega)]
  refine ⟨fun u => ?_, fun u => ?_, fun u => ?_, fun u => ?_, fun u => ?_, fun u => ?_, fun u => ?_, fun u => ?_, fun u => ?_⟩
  · have : k = 10 := by omega
    subst this; exact h
  · subst u; exact h
  · subst u; exact h
  · subst u; exact h
  · subst u
    have h : K (if a = b then 1 else 0) := h
    exact ⟨fun w => by rw [if_neg w] at h; exact h, fun w => by rw [if_pos w] at h; exact h⟩
  · subst u
    have h : K (if b ≤ a then 0 else 1) := h
    exact ⟨fun w => by rw [if_pos w] at h; exact h, fun w => by rw [if_neg w] at h; exact h⟩
  · subst u
    have h : K (if a ≤ b then 0 else 1) := h
    exact ⟨fun w => by rw [if_pos w] at h; exact h, fun w => by rw [if_neg w] at h; exact h⟩
  · omega
  · subst u; exact h
