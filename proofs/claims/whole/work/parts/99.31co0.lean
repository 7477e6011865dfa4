/-! WHAT THE CONSTRUCTORS MAKE: states as lists of cells. -/
abbrev CellD : Type := ab_S × (Nat → Int32) × (Nat → Option Nat)
def cd0 : CellD := (.inl 0, (fun _ => 0), (fun _ => none))
def cst (L : List CellD) : ab_St := (L.length, (fun c => (L.getD c cd0).1), (fun c => (L.getD c cd0).2.1), (fun _ _ => 0), (fun _ _ => 0), (fun c => (L.getD c cd0).2.2))
def cO (ci : Nat) : CellD := (.inl ci, (fun _ => 0), (fun _ => none))
def cA (t n : Nat) : CellD := (.inr (t, n), (fun _ => 0), (fun _ => none))
def sR (c : CellD) (k r : Nat) : CellD := (c.1, c.2.1, va_up c.2.2 k (some r))
def sI (c : CellD) (k : Nat) (v : Int32) : CellD := (c.1, upd c.2.1 k v, c.2.2)
def okC (L : List CellD) : Prop := ∀ c, c ∈ L → ∀ k r, c.2.2 k = some r → r < L.length ∨ 1000000 ≤ r
def lvO (n : Nat) (lv : List (Nat × Value)) : Prop := ∀ q, q ∈ lv → ∀ r, q.2 = .ref r → r ≤ n
theorem cgD_app {L : List CellD} {x : CellD} (c : Nat) : (L ++ [x]).getD c cd0 = if c = L.length then x else L.getD c cd0 := by
  rw [List.getD_eq_getElem?_getD, List.getD_eq_getElem?_getD]
  by_cases e : c = L.length
  · rw [if_pos e, e, List.getElem?_append_right (Nat.le_refl _), Nat.sub_self]; rfl
  · rw [if_neg e]
    rcases Nat.lt_or_ge c L.length with h | h
    · rw [List.getElem?_append_left h]
    · rw [List.getElem?_append_right h, List.getElem?_eq_none h]
      have : [x][c - L.length]? = none := List.getElem?_eq_none (by show 1 ≤ c - L.length; omega)
      rw [this]
theorem cgD_set {L : List CellD} {b : Nat} {x : CellD} (hb : b < L.length) (c : Nat) : (L.set b x).getD c cd0 = if c = b then x else L.getD c cd0 := by
  rw [List.getD_eq_getElem?_getD, List.getD_eq_getElem?_getD, List.getElem?_set]
  by_cases e : c = b
  · subst e; rw [if_pos rfl, if_pos rfl, if_pos hb]; rfl
  · rw [if_neg e, if_neg (fun u => e u.symm)]
theorem cst_new {L : List CellD} {ci : Nat} : ab_new (cst L) ci = cst (L ++ [cO ci]) := by
  refine Prod.ext (by show L.length + 1 = (L ++ [cO ci]).length; simp) (Prod.ext ?_ (Prod.ext ?_ (Prod.ext rfl (Prod.ext rfl ?_))))
  · funext c
    show (if c = L.length then Sum.inl ci else (L.getD c cd0).1) = ((L ++ [cO ci]).getD c cd0).1
    rw [cgD_app]; split <;> rfl
  · funext c
    show (if c = L.length then (fun _ => 0) else (L.getD c cd0).2.1) = ((L ++ [cO ci]).getD c cd0).2.1
    rw [cgD_app]; split <;> rfl
  · funext c
    show (if c = L.length then (fun _ => none) else (L.getD c cd0).2.2) = ((L ++ [cO ci]).getD c cd0).2.2
    rw [cgD_app]; split <;> rfl
theorem cst_newA {L : List CellD} {t n : Nat} : ab_newA (cst L) t n = cst (L ++ [cA t n]) := by
  refine Prod.ext (by show L.length + 1 = (L ++ [cA t n]).length; simp) (Prod.ext ?_ (Prod.ext ?_ (Prod.ext ?_ (Prod.ext ?_ ?_))))
  · funext c
    show (if c = L.length then Sum.inr (t, n) else (L.getD c cd0).1) = ((L ++ [cA t n]).getD c cd0).1
    rw [cgD_app]; split <;> rfl
  · funext c
    show (if c = L.length then (fun _ => 0) else (L.getD c cd0).2.1) = ((L ++ [cA t n]).getD c cd0).2.1
    rw [cgD_app]; split <;> rfl
  · funext c
    show (if c = L.length then (fun _ => 0) else (fun _ => 0)) = (fun _ => 0)
    split <;> rfl
  · funext c
    show (if c = L.length then (fun _ => 0) else (fun _ => 0)) = (fun _ => 0)
    split <;> rfl
  · funext c
    show (if c = L.length then (fun _ => none) else (L.getD c cd0).2.2) = ((L ++ [cA t n]).getD c cd0).2.2
    rw [cgD_app]; split <;> rfl
theorem cst_ur {L : List CellD} {b k r : Nat} (hb : b < L.length) : ab_ur (cst L) b k (some r) = cst (L.set b (sR (L.getD b cd0) k r)) := by
  refine Prod.ext (by show L.length = (L.set b _).length; simp) (Prod.ext ?_ (Prod.ext ?_ (Prod.ext rfl (Prod.ext rfl ?_))))
  · funext c
    show (L.getD c cd0).1 = ((L.set b _).getD c cd0).1
    rw [cgD_set hb]; split
    · next e => rw [e]; rfl
    · rfl
  · funext c
    show (L.getD c cd0).2.1 = ((L.set b _).getD c cd0).2.1
    rw [cgD_set hb]; split
    · next e => rw [e]; rfl
    · rfl
  · funext c
    show (if c = b then va_up ((L.getD b cd0).2.2) k (some r) else (L.getD c cd0).2.2) = ((L.set b _).getD c cd0).2.2
    rw [cgD_set hb]; split <;> rfl
theorem cst_ui {L : List CellD} {b k : Nat} {v : Int32} (hb : b < L.length) : ab_ui (cst L) b k v = cst (L.set b (sI (L.getD b cd0) k v)) := by
  refine Prod.ext (by show L.length = (L.set b _).length; simp) (Prod.ext ?_ (Prod.ext ?_ (Prod.ext rfl (Prod.ext rfl ?_))))
  · funext c
    show (L.getD c cd0).1 = ((L.set b _).getD c cd0).1
    rw [cgD_set hb]; split
    · next e => rw [e]; rfl
    · rfl
  · funext c
    show (if c = b then upd ((L.getD b cd0).2.1) k v else (L.getD c cd0).2.1) = ((L.set b _).getD c cd0).2.1
    rw [cgD_set hb]; split <;> rfl
  · funext c
    show (L.getD c cd0).2.2 = ((L.set b _).getD c cd0).2.2
    rw [cgD_set hb]; split
    · next e => rw [e]; rfl
    · rfl
theorem cgD_n {A B : List CellD} {o : CellD} : (A ++ o :: B).getD A.length cd0 = o := by
  rw [List.getD_eq_getElem?_getD, List.getElem?_append_right (Nat.le_refl _), Nat.sub_self]; rfl
theorem cset_n {A B : List CellD} {o x : CellD} : (A ++ o :: B).set A.length x = A ++ x :: B := by
  rw [List.set_append_right _ _ (Nat.le_refl _), Nat.sub_self]; rfl
theorem clen {A B : List CellD} {o : CellD} : (A ++ o :: B).length = A.length + 1 + B.length := by
  rw [List.length_append, List.length_cons]; omega
theorem ca_b {A B : List CellD} {o x : CellD} : (A ++ o :: B) ++ [x] = A ++ o :: (B ++ [x]) := by
  rw [List.append_assoc]; rfl
theorem okC_nR {L : List CellD} (h : okC L) (hl : L.length < 1000000) : ab_nR (cst L) := by
  intro c k hc
  have hc : c < L.length := hc
  show (L.getD c cd0).2.2 k ≠ some L.length
  intro e
  have hm : L.getD c cd0 ∈ L := by
    rw [List.getD_eq_getElem?_getD, List.getElem?_eq_getElem hc]
    exact List.getElem_mem hc
  rcases h _ hm k _ e with h | h <;> omega
theorem okC_app {L : List CellD} {x : CellD} (h : okC L) (hx : ∀ k r, x.2.2 k = some r → r < L.length + 1 ∨ 1000000 ≤ r) : okC (L ++ [x]) := by
  intro c hc k r e
  rw [List.length_append]
  show r < L.length + 1 ∨ _
  rcases List.mem_append.mp hc with q | q
  · rcases h c q k r e with u | u
    · exact Or.inl (by omega)
    · exact Or.inr u
  · rw [List.mem_singleton.mp q] at e
    exact hx k r e
theorem okC_set {A B : List CellD} {o x : CellD} (h : okC (A ++ o :: B)) (hx : ∀ k r, x.2.2 k = some r → r < A.length + 1 + B.length ∨ 1000000 ≤ r) : okC (A ++ x :: B) := by
  intro c hc k r e
  rw [clen]
  rcases List.mem_append.mp hc with q | q
  · have := h c (List.mem_append_left _ q) k r e
    rw [clen] at this; exact this
  · rcases List.mem_cons.mp q with rfl | q
    · exact hx k r e
    · have := h c (List.mem_append_right _ (List.mem_cons_of_mem _ q)) k r e
      rw [clen] at this; exact this
theorem okC_o {A B : List CellD} {o : CellD} (h : okC (A ++ o :: B)) {k r : Nat} (e : o.2.2 k = some r) : r < A.length + 1 + B.length ∨ 1000000 ≤ r := by
  have := h o (List.mem_append_right _ (List.mem_cons_self ..)) k r e
  rw [clen] at this; exact this
theorem okC_sR {A B : List CellD} {o : CellD} {k r : Nat} (h : okC (A ++ o :: B)) (hr : r < A.length + 1 + B.length ∨ 1000000 ≤ r) : okC (A ++ sR o k r :: B) := by
  refine okC_set h (fun j r' e => ?_)
  have e : (if j = k then some r else o.2.2 j) = some r' := e
  split at e
  · injection e with e; rw [← e]; exact hr
  · exact okC_o h e
theorem okC_sI {A B : List CellD} {o : CellD} {k : Nat} {v : Int32} (h : okC (A ++ o :: B)) : okC (A ++ sI o k v :: B) := okC_set h (fun j r' e => okC_o h e)
theorem lvO_nr {n m : Nat} {lv : List (Nat × Value)} (h : lvO n lv) (hm : n < m) : ab_nr m (lv.map (·.2)) := by
  intro v hv e
  obtain ⟨q, q1, q2⟩ := List.mem_map.mp hv
  have := h q q1 m (by rw [q2]; exact e)
  omega
theorem lvO_rf {n m : Nat} {lv : List (Nat × Value)} (h : lvO n lv) (hm : n < m) : ab_refs m (lv.map (·.2)) := by
  intro v hv x e
  obtain ⟨q, q1, q2⟩ := List.mem_map.mp hv
  have := h q q1 x (by rw [q2]; exact e)
  omega
/-- a field of this, by its link -/
def co_F (M : ab_M) (idx ci k : Nat) : Prop := ab_L M.1.cls idx ci k ∧ ab_isr (ab_tf ci k) = true ∧ (∀ a, narrow (ab_tf ci k) (.ref a) = .ref a) ∧ (∀ a, fits (ab_tf ci k) (.ref a) = true) ∧ M.1.name = "<init>" ∧ ((ab_TX ci k).2.2.2 = false ∨ ((ab_TX ci k).2.2.2 = true ∧ (ab_TX ci k).1 = M.1.cls))
section CWR
variable {M : ab_M} {pc : Nat} {lv : List (Nat × Value)} {A B : List CellD} {o : CellD} {d : Nat} {K : Option Value → ab_St → Prop}
theorem CW_putr {idx ci k r pc2 bc bs : Nat} {st : List Value} (hF : co_F M idx ci k) (hd : decode M.2.1 pc = .ok (.putfield idx, 3)) (hp : pc + 3 = pc2) (ho : o.1 = .inl ci) (h : EC M pc2 lv st (cst (A ++ sR o k r :: B)) d bc bs K) : EC M pc lv (.ref r :: .ref A.length :: st) (cst (A ++ o :: B)) d bc bs K := by
  have hb : A.length < (A ++ o :: B).length := by rw [clen]; omega
  have hs : (cst (A ++ o :: B)).2.1 A.length = .inl ci := by
    show ((A ++ o :: B).getD A.length cd0).1 = _
    rw [cgD_n]; exact ho
  have e : ab_ur (cst (A ++ o :: B)) A.length k (some r) = cst (A ++ sR o k r :: B) := by rw [cst_ur hb, cgD_n, cset_n]
  obtain ⟨f1, f2, f3, f4, f5, f6⟩ := hF
  rcases f6 with f6 | ⟨f6, f7⟩
  · exact EC_putr f2 f6 f3 f4 f1 hp hd hb hs (by rw [e]; exact h)
  · exact EC_putF f2 f6 f5 f7 f3 f4 f1 hp hd hb hs (by rw [e]; exact h)
theorem CW_puti {idx ci k pc2 bc bs : Nat} {v : Int32} {st : List Value} (hF : ab_L M.1.cls idx ci k ∧ ab_isr (ab_tf ci k) = false ∧ M.1.name = "<init>" ∧ ((ab_TX ci k).2.2.2 = false ∨ ((ab_TX ci k).2.2.2 = true ∧ (ab_TX ci k).1 = M.1.cls))) (hn : narrow (ab_tf ci k) (.int v) = .int v) (hfit : fits (ab_tf ci k) (.int v) = true) (hd : decode M.2.1 pc = .ok (.putfield idx, 3)) (hp : pc + 3 = pc2) (ho : o.1 = .inl ci) (h : EC M pc2 lv st (cst (A ++ sI o k v :: B)) d bc bs K) : EC M pc lv (.int v :: .ref A.length :: st) (cst (A ++ o :: B)) d bc bs K := by
  have hb : A.length < (A ++ o :: B).length := by rw [clen]; omega
  have hs : (cst (A ++ o :: B)).2.1 A.length = .inl ci := by
    show ((A ++ o :: B).getD A.length cd0).1 = _
    rw [cgD_n]; exact ho
  have e : ab_ui (cst (A ++ o :: B)) A.length k v = cst (A ++ sI o k v :: B) := by rw [cst_ui hb, cgD_n, cset_n]
  obtain ⟨f1, f2, f5, f6⟩ := hF
  rcases f6 with f6 | ⟨f6, f7⟩
  · exact EC_puti f2 f6 hn hfit f1 hp hd hb hs (by rw [e]; exact h)
  · exact EC_putFi f2 f6 f5 f7 hn hfit f1 hp hd hb hs (by rw [e]; exact h)
theorem CW_getr {idx ci k r pc2 bc bs : Nat} {st : List Value} (hF : ab_L M.1.cls idx ci k ∧ ab_isr (ab_tf ci k) = true) (hr : o.2.2 k = some r) (hd : decode M.2.1 pc = .ok (.getfield idx, 3)) (hp : pc + 3 = pc2) (ho : o.1 = .inl ci) (h : EC M pc2 lv (.ref r :: st) (cst (A ++ o :: B)) d bc bs K) : EC M pc lv (.ref A.length :: st) (cst (A ++ o :: B)) d bc bs K := by
  have hb : A.length < (A ++ o :: B).length := by rw [clen]; omega
  have hs : (cst (A ++ o :: B)).2.1 A.length = .inl ci := by
    show ((A ++ o :: B).getD A.length cd0).1 = _
    rw [cgD_n]; exact ho
  exact EC_getr hF.2 (by show ((A ++ o :: B).getD A.length cd0).2.2 k = _; rw [cgD_n]; exact hr) hF.1 hp hd hb hs h
theorem CW_arrI {N pc2 b s' : Nat} {n : Int32} {st : List Value} (hk : Cond.arrayClass .int ∈ ab_G) (hN : ¬ n < 0 ∧ n.toNatClampNeg = N ∧ N ≤ 100000) (hd : decode M.2.1 pc = .ok (.newarray .int, 2)) (hp : pc + 2 = pc2) (hv : lvO A.length lv) (hst : ab_nr (A.length + 1 + B.length) st) (hok : okC (A ++ o :: B)) (hs : A.length + B.length < 900000) (h : okC (A ++ o :: (B ++ [cA 0 N])) → EC M pc2 lv (.ref (A.length + 1 + B.length) :: st) (cst (A ++ o :: (B ++ [cA 0 N]))) d b s' K) : EC M pc lv (.int n :: st) (cst (A ++ o :: B)) d (b + 1) (s' + N) K := by
  have hl : (cst (A ++ o :: B)).1 = A.length + 1 + B.length := clen
  have hn := okC_app (x := cA 0 N) hok (fun k r e => absurd e (by simp [cA]))
  rw [ca_b] at hn
  refine EC_newa_int hk hp hd hN.1 hN.2.1 hN.2.2 (by rw [hl]; omega) (okC_nR hok (by rw [clen]; omega)) (by rw [hl]; exact lvO_nr hv (by omega)) (by rw [hl]; exact hst) rfl rfl ?_
  rw [cst_newA, hl, ca_b]
  exact h hn
theorem CW_arrZ {N pc2 b s' : Nat} {n : Int32} {st : List Value} (hk : Cond.arrayClass .boolean ∈ ab_G) (hN : ¬ n < 0 ∧ n.toNatClampNeg = N ∧ N ≤ 100000) (hd : decode M.2.1 pc = .ok (.newarray .boolean, 2)) (hp : pc + 2 = pc2) (hv : lvO A.length lv) (hst : ab_nr (A.length + 1 + B.length) st) (hok : okC (A ++ o :: B)) (hs : A.length + B.length < 900000) (h : okC (A ++ o :: (B ++ [cA 1 N])) → EC M pc2 lv (.ref (A.length + 1 + B.length) :: st) (cst (A ++ o :: (B ++ [cA 1 N]))) d b s' K) : EC M pc lv (.int n :: st) (cst (A ++ o :: B)) d (b + 1) (s' + N) K := by
  have hl : (cst (A ++ o :: B)).1 = A.length + 1 + B.length := clen
  have hn := okC_app (x := cA 1 N) hok (fun k r e => absurd e (by simp [cA]))
  rw [ca_b] at hn
  refine EC_newa_bool hk hp hd hN.1 hN.2.1 hN.2.2 (by rw [hl]; omega) (okC_nR hok (by rw [clen]; omega)) (by rw [hl]; exact lvO_nr hv (by omega)) (by rw [hl]; exact hst) rfl rfl ?_
  rw [cst_newA, hl, ca_b]
  exact h hn
theorem CW_arrY {N pc2 b s' : Nat} {n : Int32} {st : List Value} (hk : Cond.arrayClass .byte ∈ ab_G) (hN : ¬ n < 0 ∧ n.toNatClampNeg = N ∧ N ≤ 100000) (hd : decode M.2.1 pc = .ok (.newarray .byte, 2)) (hp : pc + 2 = pc2) (hv : lvO A.length lv) (hst : ab_nr (A.length + 1 + B.length) st) (hok : okC (A ++ o :: B)) (hs : A.length + B.length < 900000) (h : okC (A ++ o :: (B ++ [cA 2 N])) → EC M pc2 lv (.ref (A.length + 1 + B.length) :: st) (cst (A ++ o :: (B ++ [cA 2 N]))) d b s' K) : EC M pc lv (.int n :: st) (cst (A ++ o :: B)) d (b + 1) (s' + N) K := by
  have hl : (cst (A ++ o :: B)).1 = A.length + 1 + B.length := clen
  have hn := okC_app (x := cA 2 N) hok (fun k r e => absurd e (by simp [cA]))
  rw [ca_b] at hn
  refine EC_newa_byte hk hp hd hN.1 hN.2.1 hN.2.2 (by rw [hl]; omega) (okC_nR hok (by rw [clen]; omega)) (by rw [hl]; exact lvO_nr hv (by omega)) (by rw [hl]; exact hst) rfl rfl ?_
  rw [cst_newA, hl, ca_b]
  exact h hn
theorem CW_arrD {N pc2 b s' : Nat} {n : Int32} {st : List Value} (hk : Cond.arrayClass .double ∈ ab_G) (hN : ¬ n < 0 ∧ n.toNatClampNeg = N ∧ N ≤ 100000) (hd : decode M.2.1 pc = .ok (.newarray .double, 2)) (hp : pc + 2 = pc2) (hv : lvO A.length lv) (hst : ab_nr (A.length + 1 + B.length) st) (hok : okC (A ++ o :: B)) (hs : A.length + B.length < 900000) (h : okC (A ++ o :: (B ++ [cA 4 N])) → EC M pc2 lv (.ref (A.length + 1 + B.length) :: st) (cst (A ++ o :: (B ++ [cA 4 N]))) d b s' K) : EC M pc lv (.int n :: st) (cst (A ++ o :: B)) d (b + 1) (s' + N) K := by
  have hl : (cst (A ++ o :: B)).1 = A.length + 1 + B.length := clen
  have hn := okC_app (x := cA 4 N) hok (fun k r e => absurd e (by simp [cA]))
  rw [ca_b] at hn
  refine EC_newa_dbl hk hp hd hN.1 hN.2.1 hN.2.2 (by rw [hl]; omega) (okC_nR hok (by rw [clen]; omega)) (by rw [hl]; exact lvO_nr hv (by omega)) (by rw [hl]; exact hst) rfl rfl ?_
  rw [cst_newA, hl, ca_b]
  exact h hn
theorem CW_anew5 {idx N pc2 b s' : Nat} {n : Int32} {st : List Value} (hk : Cond.classLink M.1.cls idx "CityBrigade$House" ∈ ab_G) (hN : ¬ n < 0 ∧ n.toNatClampNeg = N ∧ N ≤ 100000) (hd : decode M.2.1 pc = .ok (.anewarray idx, 3)) (hp : pc + 3 = pc2) (hv : lvO A.length lv) (hst : ab_nr (A.length + 1 + B.length) st) (hok : okC (A ++ o :: B)) (hs : A.length + B.length < 900000) (h : okC (A ++ o :: (B ++ [cA 5 N])) → EC M pc2 lv (.ref (A.length + 1 + B.length) :: st) (cst (A ++ o :: (B ++ [cA 5 N]))) d b s' K) : EC M pc lv (.int n :: st) (cst (A ++ o :: B)) d (b + 1) (s' + N) K := by
  have hl : (cst (A ++ o :: B)).1 = A.length + 1 + B.length := clen
  have hn := okC_app (x := cA 5 N) hok (fun k r e => absurd e (by simp [cA]))
  rw [ca_b] at hn
  refine EC_anew5 hk hp hd hN.1 hN.2.1 hN.2.2 (by rw [hl]; omega) (okC_nR hok (by rw [clen]; omega)) (by rw [hl]; exact lvO_nr hv (by omega)) (by rw [hl]; exact hst) rfl rfl ?_
  rw [cst_newA, hl, ca_b]
  exact h hn
theorem CW_anew6 {idx N pc2 b s' : Nat} {n : Int32} {st : List Value} (hk : Cond.classLink M.1.cls idx "CityBrigade$Crew" ∈ ab_G) (hN : ¬ n < 0 ∧ n.toNatClampNeg = N ∧ N ≤ 100000) (hd : decode M.2.1 pc = .ok (.anewarray idx, 3)) (hp : pc + 3 = pc2) (hv : lvO A.length lv) (hst : ab_nr (A.length + 1 + B.length) st) (hok : okC (A ++ o :: B)) (hs : A.length + B.length < 900000) (h : okC (A ++ o :: (B ++ [cA 6 N])) → EC M pc2 lv (.ref (A.length + 1 + B.length) :: st) (cst (A ++ o :: (B ++ [cA 6 N]))) d b s' K) : EC M pc lv (.int n :: st) (cst (A ++ o :: B)) d (b + 1) (s' + N) K := by
  have hl : (cst (A ++ o :: B)).1 = A.length + 1 + B.length := clen
  have hn := okC_app (x := cA 6 N) hok (fun k r e => absurd e (by simp [cA]))
  rw [ca_b] at hn
  refine EC_anew6 hk hp hd hN.1 hN.2.1 hN.2.2 (by rw [hl]; omega) (okC_nR hok (by rw [clen]; omega)) (by rw [hl]; exact lvO_nr hv (by omega)) (by rw [hl]; exact hst) rfl rfl ?_
  rw [cst_newA, hl, ca_b]
  exact h hn
theorem CW_anew7 {idx N pc2 b s' : Nat} {n : Int32} {st : List Value} (hk : Cond.classLink M.1.cls idx "CityBrigade$Call" ∈ ab_G) (hN : ¬ n < 0 ∧ n.toNatClampNeg = N ∧ N ≤ 100000) (hd : decode M.2.1 pc = .ok (.anewarray idx, 3)) (hp : pc + 3 = pc2) (hv : lvO A.length lv) (hst : ab_nr (A.length + 1 + B.length) st) (hok : okC (A ++ o :: B)) (hs : A.length + B.length < 900000) (h : okC (A ++ o :: (B ++ [cA 7 N])) → EC M pc2 lv (.ref (A.length + 1 + B.length) :: st) (cst (A ++ o :: (B ++ [cA 7 N]))) d b s' K) : EC M pc lv (.int n :: st) (cst (A ++ o :: B)) d (b + 1) (s' + N) K := by
  have hl : (cst (A ++ o :: B)).1 = A.length + 1 + B.length := clen
  have hn := okC_app (x := cA 7 N) hok (fun k r e => absurd e (by simp [cA]))
  rw [ca_b] at hn
  refine EC_anew7 hk hp hd hN.1 hN.2.1 hN.2.2 (by rw [hl]; omega) (okC_nR hok (by rw [clen]; omega)) (by rw [hl]; exact lvO_nr hv (by omega)) (by rw [hl]; exact hst) rfl rfl ?_
  rw [cst_newA, hl, ca_b]
  exact h hn
theorem CW_anew8 {idx N pc2 b s' : Nat} {n : Int32} {st : List Value} (hk : Cond.classLink M.1.cls idx "CityBrigade$Text" ∈ ab_G) (hN : ¬ n < 0 ∧ n.toNatClampNeg = N ∧ N ≤ 100000) (hd : decode M.2.1 pc = .ok (.anewarray idx, 3)) (hp : pc + 3 = pc2) (hv : lvO A.length lv) (hst : ab_nr (A.length + 1 + B.length) st) (hok : okC (A ++ o :: B)) (hs : A.length + B.length < 900000) (h : okC (A ++ o :: (B ++ [cA 8 N])) → EC M pc2 lv (.ref (A.length + 1 + B.length) :: st) (cst (A ++ o :: (B ++ [cA 8 N]))) d b s' K) : EC M pc lv (.int n :: st) (cst (A ++ o :: B)) d (b + 1) (s' + N) K := by
  have hl : (cst (A ++ o :: B)).1 = A.length + 1 + B.length := clen
  have hn := okC_app (x := cA 8 N) hok (fun k r e => absurd e (by simp [cA]))
  rw [ca_b] at hn
  refine EC_anew8 hk hp hd hN.1 hN.2.1 hN.2.2 (by rw [hl]; omega) (okC_nR hok (by rw [clen]; omega)) (by rw [hl]; exact lvO_nr hv (by omega)) (by rw [hl]; exact hst) rfl rfl ?_
  rw [cst_newA, hl, ca_b]
  exact h hn
theorem CW_new {idx ci pc2 b s' : Nat} {st : List Value} (hci : ci ≤ 12) (hk : Cond.classLink M.1.cls idx (ab_RX ci) ∈ ab_G ∧ Cond.instantiable (ab_RX ci) (ab_N ci) ∈ ab_G ∧ Cond.initialized (ab_RX ci) ∈ ab_G) (hd : decode M.2.1 pc = .ok (.new idx, 3)) (hp : pc + 3 = pc2) (hv : lvO A.length lv) (hst : ab_nr (A.length + 1 + B.length) st) (hok : okC (A ++ o :: B)) (hs : A.length + B.length < 900000) (h : okC ((A ++ o :: B) ++ [cO ci]) → EC M pc2 lv (.ref (A.length + 1 + B.length) :: st) (cst ((A ++ o :: B) ++ [cO ci])) d b s' K) : EC M pc lv st (cst (A ++ o :: B)) d (b + 1) (s' + ab_N ci) K := by
  have hl : (cst (A ++ o :: B)).1 = A.length + 1 + B.length := clen
  have hn := okC_app (x := cO ci) hok (fun k r e => absurd e (by simp [cO]))
  refine EC_new hci hk hp hd (by rw [hl]; omega) (okC_nR hok (by rw [clen]; omega)) (by rw [hl]; exact lvO_nr hv (by omega)) (by rw [hl]; exact hst) rfl rfl ?_
  rw [cst_new, hl]
  exact h hn
theorem nr1 {n m : Nat} (h : n < m) : ab_nr m [.ref n] := by
  intro v hv e
  rw [List.mem_singleton.mp hv] at e
  injection e with e
  omega
theorem nr0 {m : Nat} : ab_nr m [] := fun v hv => absurd hv List.not_mem_nil
theorem lvO_n {n : Nat} : lvO n [] := fun q hq => absurd hq List.not_mem_nil
theorem lvO_r {n r i : Nat} {lv : List (Nat × Value)} (h : r ≤ n) (t : lvO n lv) : lvO n ((i, .ref r) :: lv) := by
  intro q hq r' e
  rcases List.mem_cons.mp hq with rfl | hq
  · injection e with e; omega
  · exact t q hq r' e
theorem lvO_i {n i : Nat} {v : Int32} {lv : List (Nat × Value)} (t : lvO n lv) : lvO n ((i, .int v) :: lv) := by
  intro q hq r' e
  rcases List.mem_cons.mp hq with rfl | hq
  · cases e
  · exact t q hq r' e
theorem rf1 {n m : Nat} (h : n < m) : ab_refs m [.ref n] := by
  intro v hv x e
  rw [List.mem_singleton.mp hv] at e
  injection e with e
  omega
theorem rf2 {n m k : Nat} (h : n < m) (h2 : k < m) : ab_refs m [.ref n, .ref k] := by
  intro v hv x e
  rcases List.mem_cons.mp hv with rfl | hv
  · injection e with e; omega
  · exact rf1 h2 v hv x e
theorem ca_m {A B X : List CellD} {o : CellD} : (A ++ o :: B) ++ X = A ++ o :: (B ++ X) := by
  rw [List.append_assoc]; rfl
theorem CW_subI {idxn idxi idxf cj ci k bcj bsj dj pc1 pc2 pc3 pc4 pc5 b s' m : Nat} {host : String} {Mj : ab_M} {mk : Nat → List CellD} (hm : B.length = m) (hmk : ∀ n, 1 ≤ (mk n).length)
    (hcon : ∀ (A' : List CellD) (n' : Nat) (K' : Option Value → ab_St → Prop), A'.length = n' → n' < 800000 → okC (A' ++ [cO cj]) → (okC (A' ++ mk n') → K' none (cst (A' ++ mk n'))) → EC Mj 0 [(0, .ref n')] [] (cst (A' ++ [cO cj])) dj bcj bsj K')
    (hcj : cj ≤ 12) (hkn : Cond.classLink M.1.cls idxn (ab_RX cj) ∈ ab_G ∧ Cond.instantiable (ab_RX cj) (ab_N cj) ∈ ab_G ∧ Cond.initialized (ab_RX cj) ∈ ab_G) (hlink : Cond.methodLink M.1.cls idxi Mj.1 ∈ ab_G) (hinst : Cond.instanceMethod Mj.1 ∈ ab_G) (hini : Mj.1.name = "<init>") (hvoid : Mj.2.2.2 = none) (hMj : ab_okM Mj 0) (hL1 : 1 ≤ Mj.2.2.1) (hdj : dj + 1 ≤ d) (hF : co_F M idxf ci k)
    (e0 : decode M.2.1 pc = .ok (.aload_n 0, 1)) (p1 : pc + 1 = pc1) (e1 : decode M.2.1 pc1 = .ok (.new idxn, 3)) (p2 : pc1 + 3 = pc2) (e2 : decode M.2.1 pc2 = .ok (.dup, 1)) (p3 : pc2 + 1 = pc3) (e3 : decode M.2.1 pc3 = .ok (.invokespecial idxi, 3)) (p4 : pc3 + 3 = pc4) (e4 : decode M.2.1 pc4 = .ok (.putfield idxf, 3)) (p5 : pc4 + 3 = pc5)
    (h0 : lv[0]? = some (0, .ref A.length)) (hv : lvO A.length lv) (ho : o.1 = .inl ci) (hok : okC (A ++ o :: B)) (hA : A.length + m < 700000)
    (h : okC (A ++ sR o k (A.length + 1 + m) :: (B ++ mk (A.length + 1 + m))) → EC M pc5 lv [] (cst (A ++ sR o k (A.length + 1 + m) :: (B ++ mk (A.length + 1 + m)))) d b s' K) : EC M pc lv [] (cst (A ++ o :: B)) d (b + bcj + 1) (s' + bsj + ab_N cj) K := by
  subst hm
  refine EC_aload_n (k := 0) p1 e0 0 h0 ?_
  refine CW_new hcj hkn e1 p2 hv (nr1 (by omega)) hok (by omega) (fun hok2 => ?_)
  refine EC_dup p3 e2 rfl ?_
  have hl : (cst ((A ++ o :: B) ++ [cO cj])).1 = A.length + 1 + B.length + 1 := by
    show ((A ++ o :: B) ++ [cO cj]).length = _
    rw [List.length_append, clen]; rfl
  refine EC_invI (M' := Mj) (As := []) (rest := [.ref (A.length + 1 + B.length), .ref A.length]) (b := A.length + 1 + B.length) hlink hinst hini hvoid p4 hMj e3 rfl rfl hL1 (by decide) hdj (Nat.add_comm _ _) (Nat.add_comm _ _) (Or.inr ⟨by rw [hl]; exact rf2 (by omega) (by omega), by rw [hl]; exact lvO_rf hv (by omega)⟩) ?_
  refine hcon (A ++ o :: B) (A.length + 1 + B.length) _ clen (by omega) hok2 (fun hok3 => ?_)
  rw [ca_m] at hok3 ⊢
  refine CW_putr (A := A) hF e4 p5 ho ?_
  refine h (okC_sR hok3 (Or.inl ?_))
  have := hmk (A.length + 1 + B.length)
  rw [List.length_append]
  omega
theorem CW_subN {idxn idxi idxf cj ci k bcj bsj dj pc1 pc2 pc3 pc4 pc5 b s' m : Nat} {host : String} {Mj : ab_M} {mk : Nat → List CellD} (hm : B.length = m) (hmk : ∀ n, 1 ≤ (mk n).length)
    (hcon : ∀ (A' : List CellD) (n' : Nat) (K' : Option Value → ab_St → Prop), A'.length = n' → n' < 800000 → okC (A' ++ [cO cj]) → (okC (A' ++ mk n') → K' none (cst (A' ++ mk n'))) → EC Mj 0 [(0, .ref n')] [] (cst (A' ++ [cO cj])) dj bcj bsj K')
    (hcj : cj ≤ 12) (hkn : Cond.classLink M.1.cls idxn (ab_RX cj) ∈ ab_G ∧ Cond.instantiable (ab_RX cj) (ab_N cj) ∈ ab_G ∧ Cond.initialized (ab_RX cj) ∈ ab_G) (hlink : Cond.methodLinkNest M.1.cls idxi Mj.1 host ∈ tables_1.filter ab_isN) (hinst : Cond.instanceMethod Mj.1 ∈ ab_G) (hini : Mj.1.name = "<init>") (hvoid : Mj.2.2.2 = none) (hMj : ab_okM Mj 0) (hL1 : 1 ≤ Mj.2.2.1) (hdj : dj + 1 ≤ d) (hF : co_F M idxf ci k)
    (e0 : decode M.2.1 pc = .ok (.aload_n 0, 1)) (p1 : pc + 1 = pc1) (e1 : decode M.2.1 pc1 = .ok (.new idxn, 3)) (p2 : pc1 + 3 = pc2) (e2 : decode M.2.1 pc2 = .ok (.dup, 1)) (p3 : pc2 + 1 = pc3) (e3 : decode M.2.1 pc3 = .ok (.invokespecial idxi, 3)) (p4 : pc3 + 3 = pc4) (e4 : decode M.2.1 pc4 = .ok (.putfield idxf, 3)) (p5 : pc4 + 3 = pc5)
    (h0 : lv[0]? = some (0, .ref A.length)) (hv : lvO A.length lv) (ho : o.1 = .inl ci) (hok : okC (A ++ o :: B)) (hA : A.length + m < 700000)
    (h : okC (A ++ sR o k (A.length + 1 + m) :: (B ++ mk (A.length + 1 + m))) → EC M pc5 lv [] (cst (A ++ sR o k (A.length + 1 + m) :: (B ++ mk (A.length + 1 + m)))) d b s' K) : EC M pc lv [] (cst (A ++ o :: B)) d (b + bcj + 1) (s' + bsj + ab_N cj) K := by
  subst hm
  refine EC_aload_n (k := 0) p1 e0 0 h0 ?_
  refine CW_new hcj hkn e1 p2 hv (nr1 (by omega)) hok (by omega) (fun hok2 => ?_)
  refine EC_dup p3 e2 rfl ?_
  have hl : (cst ((A ++ o :: B) ++ [cO cj])).1 = A.length + 1 + B.length + 1 := by
    show ((A ++ o :: B) ++ [cO cj]).length = _
    rw [List.length_append, clen]; rfl
  refine EC_invIN (host := host) (M' := Mj) (As := []) (rest := [.ref (A.length + 1 + B.length), .ref A.length]) (b := A.length + 1 + B.length) hlink hinst hini hvoid p4 hMj e3 rfl rfl hL1 (by decide) hdj (Nat.add_comm _ _) (Nat.add_comm _ _) (Or.inr ⟨by rw [hl]; exact rf2 (by omega) (by omega), by rw [hl]; exact lvO_rf hv (by omega)⟩) ?_
  refine hcon (A ++ o :: B) (A.length + 1 + B.length) _ clen (by omega) hok2 (fun hok3 => ?_)
  rw [ca_m] at hok3 ⊢
  refine CW_putr (A := A) hF e4 p5 ho ?_
  refine h (okC_sR hok3 (Or.inl ?_))
  have := hmk (A.length + 1 + B.length)
  rw [List.length_append]
  omega
end CWR
