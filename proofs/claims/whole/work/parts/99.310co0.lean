/-! WHAT THE CONSTRUCTORS MAKE: states as lists of cells. -/
abbrev CellD : Type := ab_S × (Nat → Int32) × (Nat → Option Nat)
def cd0 : CellD := (.inl 0, (fun _ => 0), (fun _ => none))
def cLs (L : List CellD) : ab_St := (L.length, (fun c => (L.getD c cd0).1), (fun c => (L.getD c cd0).2.1), (fun _ _ => 0), (fun _ _ => 0), (fun c => (L.getD c cd0).2.2))
def cO (ci : Nat) : CellD := (.inl ci, (fun _ => 0), (fun _ => none))
def cA (t n : Nat) : CellD := (.inr (t, n), (fun _ => 0), (fun _ => none))
def sR (c : CellD) (k r : Nat) : CellD := (c.1, c.2.1, va_up c.2.2 k (some r))
def sI (c : CellD) (k : Nat) (v : Int32) : CellD := (c.1, upd c.2.1 k v, c.2.2)
def okC (L : List CellD) : Prop := ∀ c, c ∈ L → ∀ k r, c.2.2 k = some r → r < L.length ∨ 1000000 ≤ r
def lvO (n : Nat) (lv : List (Nat × Value)) : Prop := ∀ q, q ∈ lv → ∀ r : Nat, q.2 = .ref r → r ≤ n
theorem cgD_app {L : List CellD} {x : CellD} (c : Nat) : (L ++ [x]).getD c cd0 = if c = L.length then x else L.getD c cd0 := by
  rw [List.getD_eq_getElem?_getD, List.getD_eq_getElem?_getD]
  by_cases e : c = L.length
  · rw [if_pos e, e, List.getElem?_append_right (Nat.le_refl _), Nat.sub_self]; rfl
  · rw [if_neg e]
    rcases Nat.lt_or_ge c L.length with h | h
    · rw [List.getElem?_append_left h]
    · rw [List.getElem?_append_right h, List.getElem?_eq_none h]
      have : [x][c - L.length]? = none := List.getElem?_eq_none (by show 1 ≤ c - L.length; omega)
      rw [this]
theorem cgD_set {L : List CellD} {b : Nat} {x : CellD} (hb : b < L.length) (c : Nat) : (L.set b x).getD c cd0 = if c = b then x else L.getD c cd0 := by
  rw [List.getD_eq_getElem?_getD, List.getD_eq_getElem?_getD, List.getElem?_set]
  by_cases e : c = b
  · subst e; rw [if_pos rfl, if_pos rfl, if_pos hb]; rfl
  · rw [if_neg e, if_neg (fun u => e u.symm)]
theorem cLs_new {L : List CellD} {ci : Nat} : ab_new (cLs L) ci = cLs (L ++ [cO ci]) := by
  refine Prod.ext (by show L.length + 1 = (L ++ [cO ci]).length; simp) (Prod.ext ?_ (Prod.ext ?_ (Prod.ext rfl (Prod.ext rfl ?_))))
  · funext c
    show (if c = L.length then Sum.inl ci else (L.getD c cd0).1) = ((L ++ [cO ci]).getD c cd0).1
    rw [cgD_app]; split <;> rfl
  · funext c
    show (if c = L.length then (fun _ => 0) else (L.getD c cd0).2.1) = ((L ++ [cO ci]).getD c cd0).2.1
    rw [cgD_app]; split <;> rfl
  · funext c
    show (if c = L.length then (fun _ => none) else (L.getD c cd0).2.2) = ((L ++ [cO ci]).getD c cd0).2.2
    rw [cgD_app]; split <;> rfl
theorem cLs_newA {L : List CellD} {t n : Nat} : ab_newA (cLs L) t n = cLs (L ++ [cA t n]) := by
  refine Prod.ext (by show L.length + 1 = (L ++ [cA t n]).length; simp) (Prod.ext ?_ (Prod.ext ?_ (Prod.ext ?_ (Prod.ext ?_ ?_))))
  · funext c
    show (if c = L.length then Sum.inr (t, n) else (L.getD c cd0).1) = ((L ++ [cA t n]).getD c cd0).1
    rw [cgD_app]; split <;> rfl
  · funext c
    show (if c = L.length then (fun _ => 0) else (L.getD c cd0).2.1) = ((L ++ [cA t n]).getD c cd0).2.1
    rw [cgD_app]; split <;> rfl
  · funext c
    show (if c = L.length then (fun _ => 0) else (fun _ => 0)) = (fun _ => 0)
    split <;> rfl
  · funext c
    show (if c = L.length then (fun _ => 0) else (fun _ => 0)) = (fun _ => 0)
    split <;> rfl
  · funext c
    show (if c = L.length then (fun _ => none) else (L.getD c cd0).2.2) = ((L ++ [cA t n]).getD c cd0).2.2
    rw [cgD_app]; split <;> rfl
theorem cLs_ur {L : List CellD} {b k r : Nat} (hb : b < L.length) : ab_ur (cLs L) b k (some r) = cLs (L.set b (sR (L.getD b cd0) k r)) := by
  refine Prod.ext (by show L.length = (L.set b _).length; simp) (Prod.ext ?_ (Prod.ext ?_ (Prod.ext rfl (Prod.ext rfl ?_))))
  · funext c
    show (L.getD c cd0).1 = ((L.set b _).getD c cd0).1
    rw [cgD_set hb]; split
    · next e => rw [e]; rfl
    · rfl
  · funext c
    show (L.getD c cd0).2.1 = ((L.set b _).getD c cd0).2.1
    rw [cgD_set hb]; split
    · next e => rw [e]; rfl
    · rfl
  · funext c
    show (if c = b then va_up ((L.getD b cd0).2.2) k (some r) else (L.getD c cd0).2.2) = ((L.set b _).getD c cd0).2.2
    rw [cgD_set hb]; split <;> rfl
theorem cLs_ui {L : List CellD} {b k : Nat} {v : Int32} (hb : b < L.length) : ab_ui (cLs L) b k v = cLs (L.set b (sI (L.getD b cd0) k v)) := by
  refine Prod.ext (by show L.length = (L.set b _).length; simp) (Prod.ext ?_ (Prod.ext ?_ (Prod.ext rfl (Prod.ext rfl ?_))))
  · funext c
    show (L.getD c cd0).1 = ((L.set b _).getD c cd0).1
    rw [cgD_set hb]; split
    · next e => rw [e]; rfl
    · rfl
  · funext c
    show (if c = b then upd ((L.getD b cd0).2.1) k v else (L.getD c cd0).2.1) = ((L.set b _).getD c cd0).2.1
    rw [cgD_set hb]; split <;> rfl
  · funext c
    show (L.getD c cd0).2.2 = ((L.set b _).getD c cd0).2.2
    rw [cgD_set hb]; split
    · next e => rw [e]; rfl
    · rfl
theorem cgD_n {A B : List CellD} {o : CellD} : (A ++ o :: B).getD A.length cd0 = o := by
  rw [List.getD_eq_getElem?_getD, List.getElem?_append_right (Nat.le_refl _), Nat.sub_self]; rfl
theorem cset_n {A B : List CellD} {o x : CellD} : (A ++ o :: B).set A.length x = A ++ x :: B := by
  rw [List.set_append_right _ _ (Nat.le_refl _), Nat.sub_self]; rfl
theorem clen {A B : List CellD} {o : CellD} : (A ++ o :: B).length = A.length + 1 + B.length := by
  rw [List.length_append, List.length_cons]; omega
theorem ca_b {A B : List CellD} {o x : CellD} : (A ++ o :: B) ++ [x] = A ++ o :: (B ++ [x]) := by
  rw [List.append_assoc]; rfl
theorem okC_nR {L : List CellD} (h : okC L) (hl : L.length < 1000000) : ab_nR (cLs L) := by
  intro c k hc
  have hc : c < L.length := hc
  show (L.getD c cd0).2.2 k ≠ some L.length
  intro e
  have hm : L.getD c cd0 ∈ L := by
    rw [List.getD_eq_getElem?_getD, List.getElem?_eq_getElem hc]
    exact List.getElem_mem hc
  rcases h _ hm k _ e with h | h <;> omega
theorem okC_app {L : List CellD} {x : CellD} (h : okC L) (hx : ∀ k r, x.2.2 k = some r → r < L.length + 1 ∨ 1000000 ≤ r) : okC (L ++ [x]) := by
  intro c hc k r e
  rw [List.length_append]
  show r < L.length + 1 ∨ _
  rcases List.mem_append.mp hc with q | q
  · rcases h c q k r e with u | u
    · exact Or.inl (by omega)
    · exact Or.inr u
  · rw [List.mem_singleton.mp q] at e
    exact hx k r e
theorem okC_set {A B : List CellD} {o x : CellD} (h : okC (A ++ o :: B)) (hx : ∀ k r, x.2.2 k = some r → r < A.length + 1 + B.length ∨ 1000000 ≤ r) : okC (A ++ x :: B) := by
  intro c hc k r e
  rw [clen]
  rcases List.mem_append.mp hc with q | q
  · have := h c (List.mem_append_left _ q) k r e
    rw [clen] at this; exact this
  · rcases List.mem_cons.mp q with rfl | q
    · exact hx k r e
    · have := h c (List.mem_append_right _ (List.mem_cons_of_mem _ q)) k r e
      rw [clen] at this; exact this
theorem okC_o {A B : List CellD} {o : CellD} (h : okC (A ++ o :: B)) {k r : Nat} (e : o.2.2 k = some r) : r < A.length + 1 + B.length ∨ 1000000 ≤ r := by
  have := h o (List.mem_append_right _ (List.mem_cons_self ..)) k r e
  rw [clen] at this; exact this
theorem okC_sR {A B : List CellD} {o : CellD} {k r : Nat} (h : okC (A ++ o :: B)) (hr : r < A.length + 1 + B.length ∨ 1000000 ≤ r) : okC (A ++ sR o k r :: B) := by
  refine okC_set h (fun j r' e => ?_)
  have e : (if j = k then some r else o.2.2 j) = some r' := e
  split at e
  · injection e with e; rw [← e]; exact hr
  · exact okC_o h e
theorem okC_sI {A B : List CellD} {o : CellD} {k : Nat} {v : Int32} (h : okC (A ++ o :: B)) : okC (A ++ sI o k v :: B) := okC_set h (fun j r' e => okC_o h e)
theorem lvO_nr {n m : Nat} {lv : List (Nat × Value)} (h : lvO n lv) (hm : n < m) : ab_nr m (lv.map (·.2)) := by
  intro v hv e
  obtain ⟨q, q1, q2⟩ := List.mem_map.mp hv
  exact absurd (h q q1 m (by rw [q2]; exact e)) (Nat.not_le.mpr hm)
theorem lvO_rf {n m : Nat} {lv : List (Nat × Value)} (h : lvO n lv) (hm : n < m) : ab_refs m (lv.map (·.2)) := by
  intro v hv x e
  obtain ⟨q, q1, q2⟩ := List.mem_map.mp hv
  exact Nat.lt_of_le_of_lt (h q q1 x (by rw [q2]; exact e)) hm
/-- a field of this, by its link -/
def co_F (M : ab_M) (idx ci k : Nat) : Prop := ab_L M.1.cls idx ci k ∧ ab_isr (ab_tf ci k) = true ∧ (∀ a, narrow (ab_tf ci k) (.ref a) = .ref a) ∧ (∀ a, fits (ab_tf ci k) (.ref a) = true) ∧ M.1.name = "<init>" ∧ ((ab_TX ci k).2.2.2 = false ∨ ((ab_TX ci k).2.2.2 = true ∧ (ab_TX ci k).1 = M.1.cls))
