/-! LAW: what a house fails by; the program. -/
theorem exE_cg {s : Nat} {e e' : Nat → Int32} (h : ∀ i, i < slen (2000000 + s) → e (sbN s i) = e' (sbN s i)) : ∀ c st, exE s e c st = exE s e' c st
  | [], st => rfl
  | w :: c, st => by
    have : ex1 s e w st = ex1 s e' w st := by
      unfold ex1
      by_cases q : w / 65536 = 1
      · have n0 : ¬ w / 65536 = 0 := by omega
        simp only [if_neg n0, if_pos q]
        by_cases q2 : st.length < 40 ∧ w % 65536 < slen (2000000 + s)
        · rw [if_pos q2, if_pos q2, h _ q2.2]
        · rw [if_neg q2, if_neg q2]
      · rw [if_neg q, if_neg q]
    show (match ex1 s e w st with | some t => exE s e c t | none => none) = (match ex1 s e' w st with | some t => exE s e' c t | none => none)
    rw [this]
    cases ex1 s e' w st with
    | none => rfl
    | some t => exact exE_cg h c t
theorem ok_cg {s : Nat} {e e' : Nat → Int32} (h : ∀ i, i < slen (2000000 + s) → e (sbN s i) = e' (sbN s i)) {c : List Nat} {v : (Nat → Int32) → Int32} {k : Nat} (hk : k ≤ 40) (r : rOK s c v k) : v e = v e' := by
  have a := r e [] (by simpa using hk)
  have b := r e' [] (by simpa using hk)
  rw [exE_cg h, b] at a
  injection a with a
  injection a with a _
  exact a.symm
theorem txE_cg {s : Nat} {e e' : Nat → Int32} (h : ∀ i, i < slen (2000000 + s) → e (sbN s i) = e' (sbN s i)) : ∀ l n S, (∀ a, a ∈ l → okCL s a) → txE e n l S = txE e' n l S
  | [], n, S, _ => rfl
  | a :: l, n, S, ok => by
    show txE e (n + 1) l (clE e n a S) = txE e' (n + 1) l (clE e' n a S)
    have : clE e n a S = clE e' n a S := by
      unfold clE
      rw [ok_cg h (by decide) (ok a (List.mem_cons_self ..)).2.1]
    rw [this]
    exact txE_cg h l (n + 1) _ (fun u hu => ok u (List.mem_cons_of_mem _ hu))
/-- the clauses of a text that is kept -/
def TXL (f : Nat → Int32) (fr : Nat) (len p1 : Int32) (pg : Nat → Int32) (s : Nat) (l : List CL) : Prop := ∃ B n q, TX B n s ∧ len = nI n ∧ (∀ i, i < n → f (fr + i) = s8 (B i)) ∧ pTx B n s (n + 1) 0 [] = (q, some l) ∧ p1 = nI (cdT l).length ∧ stC pg (cdT l) ∧ (cdT l).length ≤ 200
noncomputable def txL (f : Nat → Int32) (fr : Nat) (len p1 : Int32) (pg : Nat → Int32) (s : Nat) : List CL := Classical.epsilon (TXL f fr len p1 pg s)
theorem txL_of {Y : Nat → Nat → Int32} {s tc fr : Nat} {len : Int32} {v0 : Nat} (hs : s ≠ 1) (h : txAt Y s tc fr len v0) : TXL (Y tc) fr len (Y v0 1) (Y (v0 + 1)) s (txL (Y tc) fr len (Y v0 1) (Y (v0 + 1)) s) := by
  apply Classical.epsilon_spec
  obtain ⟨B, n, q, c, t, h1, h2, h3, h4, h5, h6⟩ := h
  unfold pA at h3
  rw [if_neg hs] at h3
  cases hx : pTx B n s (n + 1) 0 [] with
  | mk q1 r1 =>
    rw [hx] at h3
    cases r1 with
    | none => cases h3
    | some l =>
      injection h3 with u1 u2
      injection u2 with u2
      subst u2
      exact ⟨l, B, n, q1, t, h1, h2, hx, h4, h5, h6⟩
theorem TXL.ok {f : Nat → Int32} {fr : Nat} {len p1 : Int32} {pg : Nat → Int32} {s : Nat} {l : List CL} (h : TXL f fr len p1 pg s l) : (∀ a, a ∈ l → okCL s a) ∧ l.length ≤ 40 := by
  obtain ⟨B, n, q, t, -, -, h3, -⟩ := h
  have pT := (pTx_b t (n + 1) 0 [] (Nat.zero_le _) (by omega) (by simp) (by simp [cdT]) (fun a ha => absurd ha (List.not_mem_nil)) q).2 l h3
  have := t.1
  exact ⟨pT.2.2.2, by omega⟩
noncomputable def actL (Y : Nat → Nat → Int32) (k : Nat) : List CL := txL (Y 301) (200 * k) (Y 304 k) (Y (174 + 5 * k) 1) (Y (174 + 5 * k + 1)) 2
def mxT (Y : Nat → Nat → Int32) (h : Nat) : Nat → Int32
  | 0 => nI 0
  | n + 1 => imax (mxT Y h n) (Y 273 (6 * h + n))
def bsI (Y : Nat → Nat → Int32) (h : Nat) : Int32 := (if prv Y h = -nI 1 then nI 0 else nI 1) + (if nxt Y (nv Y 246 31) h = -nI 1 then nI 0 else nI 1)
def lA (Y : Nat → Nat → Int32) (h : Nat) (q : Int32) (i : Nat) : Int32 := if i = 0 then Y 256 h else if i = 1 then Y 257 h else if i = 2 then ua Y h q else if i = 3 then Y 255 h else if i = 4 then mxT Y h (nv Y 256 h) else if i = 5 then (if Y 258 h = -nI 1 then nI 0 else nI 1) else if i = 6 then Y 259 h else if i = 7 then Y 260 h else if i = 8 then (if Y 265 h = nI 0 then nI 0 else nI 1) else if i = 9 then bsI Y h else ds Y h q
def eA (Y : Nat → Nat → Int32) (h : Nat) (q : Int32) (c : Nat) : Int32 := lA Y h q (kxI 2 c).toNatClampNeg
theorem kx_2 : ∀ i, i < 11 → kxI 2 (sbN 2 i) = nI i := by decide +kernel
theorem eA_s {Y : Nat → Nat → Int32} {h : Nat} {q : Int32} {i : Nat} (hi : i < 11) : eA Y h q (sbN 2 i) = lA Y h q i := by
  unfold eA; rw [kx_2 i hi, cl_nI (by omega)]
/-- what a house fails by -/
noncomputable def fcS (Y : Nat → Nat → Int32) (h : Nat) (q : Int32) : ST := if af Y h q = -nI 1 then S0 else txE (eA Y h q) 0 (actL Y (af Y h q).toNatClampNeg) S0
theorem RR_wc {x : ab_X} {Y : Nat → Nat → Int32} {D : Nat → UInt64} {c k : Nat} {v : Int32} (w : WW Y) (r : RR x.1 Y D) (h1 : ¬ kC c) (h2 : c ≠ 158) (h3 : c < 82 ∨ 97 < c) : RR (wr x c k v).1 Y D := RR_keep w r ⟨fun d q => wr_n (fun e => h1 (e ▸ q)), by rw [wr_n (by omega)], fun d f p q => by rw [wr_n (by omega)]⟩ keepM.rfl' (fun _ _ => rfl)
theorem c_besideH {x : ab_X} {Y : Nat → Nat → Int32} {D : Nat → UInt64} {h : Nat} (r : RR x.1 Y D) (w : WW Y) (hh : h < nv Y 246 31) {K : Int32 → Prop} (k : K (bsI Y h)) : wX4_beside (30 + 3 * h) x K := by
  obtain ⟨t1, t2, t3, t4, t5, t8, t10, t11⟩ := r.ho.2.2.1 h hh
  unfold wX4_beside wX4_beside_13
  rw [t10, t11]
  unfold bsI at k
  refine ⟨fun u => ?_, fun u => ?_⟩
  · have u : ¬ prv Y h = -nI 1 := u
    rw [if_neg u] at k
    refine ⟨fun u2 => ?_, fun u2 => ?_⟩
    · have u2 : ¬ nxt Y (nv Y 246 31) h = -nI 1 := u2
      rw [if_neg u2] at k; exact k
    · have u2 : nxt Y (nv Y 246 31) h = -nI 1 := u2
      rw [if_pos u2] at k; exact k
  · have u : prv Y h = -nI 1 := u
    rw [if_pos u] at k
    refine ⟨fun u2 => ?_, fun u2 => ?_⟩
    · have u2 : ¬ nxt Y (nv Y 246 31) h = -nI 1 := u2
      rw [if_neg u2] at k; exact k
    · have u2 : nxt Y (nv Y 246 31) h = -nI 1 := u2
      rw [if_pos u2] at k; exact k
theorem c_spell {x : ab_X} {Y : Nat → Nat → Int32} {D : Nat → UInt64} {h : Nat} {q : Int32} (r : RR x.1 Y D) (w : WW Y) (hh : h < nv Y 246 31) {K : ab_X → Prop} (k : ∀ z : ab_X, (∀ c, c ≠ 173 → z.1 c = x.1 c) → z.2 = x.2 → (∀ i, i < 11 → z.1 173 i = lA Y h q i) → K z) : wX5_spell (30 + 3 * h) q x K := by
  have b31 := w.b31
  have b1 := w.b1
  obtain ⟨t1, t2, t3, t4, t5, t8, t10, t11⟩ := r.ho.2.2.1 h hh
  obtain ⟨v1, v2, v3, v3', v4, v4', v5, v6, v6'⟩ := w.ho.1 h hh
  obtain ⟨u0, u6, u7, u9, -⟩ := r.ho.1 h (by omega)
  have b6 := v3.2
  unfold wX5_spell
  refine Lp2.seq (nv Y 256 h) (mxT Y h) nI rfl rfl ?_ ?_
  · intro i hi L hL
    have e := (r.ho.2.1 h i (by omega) (by omega)).1
    unfold lX5_spell_5
    rw [t3, v3.1, q_le (by omega) (by omega), cl_nI (by omega), e]
    refine ⟨fun u => absurd u (by omega), fun _ => ⟨(vpi (by omega) (by decide)).mpr trivial, ?_⟩⟩
    have e2 : nI i + 1 = nI (i + 1) := nI_add i 1
    rw [e2]; exact hL
  · intro L
    have c0 : ∀ j, j < 11 → vp_in (nI j) 11 := fun j hj => (vpi hj (by decide)).mpr trivial
    unfold lX5_spell_5
    rw [t3, v3.1]
    simp only [nI_lit]
    rw [q_le (by omega) (by omega)]
    refine ⟨fun _ => ?_, fun u => absurd (Nat.le_refl _) u⟩
    simp (disch := omega) only [cl_nI, wr_n, u0, t4, t2, t5]
    refine ⟨c0 _ (by decide), c0 _ (by decide), ?_⟩
    refine c_useAt (Y := Y) (D := D) (RR_wc w (RR_wc w r (by unfold kC; omega) (by decide) (by decide)) (by unfold kC; omega) (by decide) (by decide)) w hh ?_
    refine ⟨c0 _ (by decide), c0 _ (by decide), c0 _ (by decide), ?_⟩
    have sp : ∀ (y : ab_X) (s5 : Int32), (∀ c, c ≠ 173 → y.1 c = x.1 c) → y.2 = x.2 → (∀ i, i < 5 → y.1 173 i = lA Y h q i) → s5 = lA Y h q 5 → wX5_spell_102 (30 + 3 * h) q (nI 5) s5 y K := by
      intro y s5 y1 y2 y3 y5
      have sp2 : ∀ (z : ab_X) (s8' : Int32), (∀ c, c ≠ 173 → z.1 c = x.1 c) → z.2 = x.2 → (∀ i, i < 8 → z.1 173 i = lA Y h q i) → s8' = lA Y h q 8 → wX5_spell_143 (30 + 3 * h) q (nI 8) s8' z K := by
        intro z s8' z1 z2 z3 z8
        have rz : RR z.1 Y D := RR_keep w r ⟨fun d q => z1 d (fun e => by rw [e] at q; unfold kC at q; omega), by rw [z1 158 (by decide)], fun d f p q => by rw [z1 _ (by omega)]⟩ keepM.rfl' (fun _ _ => rfl)
        unfold wX5_spell_143
        simp only [nI_lit]
        rw [cl_nI (by decide), cl_nI (by decide), cl_nI (by decide)]
        refine ⟨c0 _ (by decide), ?_⟩
        refine c_besideH (Y := Y) (D := D) (RR_wc w rz (by unfold kC; omega) (by decide) (by decide)) w hh ⟨c0 _ (by decide), ?_⟩
        rw [wr_n (by omega), wr_n (by omega), z1 _ (by omega), u0]
        refine c_days (Y := Y) (D := D) (RR_wc w (RR_wc w rz (by unfold kC; omega) (by decide) (by decide)) (by unfold kC; omega) (by decide) (by decide)) w hh ⟨c0 _ (by decide), ?_⟩
        refine k _ (fun c hc => by rw [wr_n hc, wr_n hc, wr_n hc]; exact z1 c hc) z2 (fun i hi => ?_)
        by_cases e10 : i = 10
        · subst e10; rw [wr_e]; rfl
        rw [wr_k e10]
        by_cases e9 : i = 9
        · subst e9; rw [wr_e]; rfl
        rw [wr_k e9]
        by_cases e8 : i = 8
        · subst e8; rw [wr_e]; exact z8
        rw [wr_k e8]
        exact z3 i (by omega)
      unfold wX5_spell_102
      simp only [nI_lit]
      simp (disch := omega) only [cl_nI, wr_n, y1, u7, t8, u6]
      refine ⟨c0 _ (by decide), c0 _ (by decide), c0 _ (by decide), ?_⟩
      have st : ∀ i, i < 8 → (wr (wr (wr y 173 5 s5) 173 6 (Y 259 h)) 173 7 (Y 260 h)).1 173 i = lA Y h q i := by
        intro i hi
        by_cases e7 : i = 7
        · subst e7; rw [wr_e]; rfl
        rw [wr_k e7]
        by_cases e6 : i = 6
        · subst e6; rw [wr_e]; rfl
        rw [wr_k e6]
        by_cases e5 : i = 5
        · subst e5; rw [wr_e]; exact y5
        rw [wr_k e5]
        exact y3 i (by omega)
      have l8 : lA Y h q 8 = if Y 265 h = nI 0 then nI 0 else nI 1 := rfl
      refine ⟨fun u => sp2 _ _ (fun c hc => by rw [wr_n hc, wr_n hc, wr_n hc]; exact y1 c hc) y2 st ?_, fun u => sp2 _ _ (fun c hc => by rw [wr_n hc, wr_n hc, wr_n hc]; exact y1 c hc) y2 st ?_⟩
      · rw [l8, if_pos u]
      · rw [l8, if_neg u]
    have st : ∀ i, i < 5 → (wr (wr (wr (wr (wr x 173 0 (nI (nv Y 256 h))) 173 1 (Y 257 h)) 173 2 (ua Y h q)) 173 3 (Y 255 h)) 173 4 (mxT Y h (nv Y 256 h))).1 173 i = lA Y h q i := by
      intro i hi
      by_cases e4 : i = 4
      · subst e4; rw [wr_e]; rfl
      rw [wr_k e4]
      by_cases e3 : i = 3
      · subst e3; rw [wr_e]; rfl
      rw [wr_k e3]
      by_cases e2 : i = 2
      · subst e2; rw [wr_e]; rfl
      rw [wr_k e2]
      by_cases e1 : i = 1
      · subst e1; rw [wr_e]; rfl
      rw [wr_k e1]
      have e0 : i = 0 := by omega
      subst e0
      rw [wr_e]
      exact v3.1.symm
    have l5 : lA Y h q 5 = if Y 258 h = -nI 1 then nI 0 else nI 1 := rfl
    have so : ∀ c, c ≠ 173 → (wr (wr (wr (wr (wr x 173 0 (nI (nv Y 256 h))) 173 1 (Y 257 h)) 173 2 (ua Y h q)) 173 3 (Y 255 h)) 173 4 (mxT Y h (nv Y 256 h))).1 c = x.1 c := fun c hc => by rw [wr_n hc, wr_n hc, wr_n hc, wr_n hc, wr_n hc]
    refine ⟨fun u => sp _ _ so rfl st ?_, fun u => sp _ _ so rfl st ?_⟩
    · rw [l5, if_neg u]
    · rw [l5, if_pos u]
