/-! ROUNDS: the houses that may be looked at; what a look is worth. -/
def cdL (rc : Nat → Bool) : Nat → List Nat
  | 0 => []
  | h + 1 => if rc h && decide ((cdL rc h).length < 8) then cdL rc h ++ [h] else cdL rc h
theorem cdL_len (rc : Nat → Bool) : ∀ k, (cdL rc k).length ≤ 8
  | 0 => Nat.zero_le _
  | h + 1 => by
    have := cdL_len rc h
    show (if rc h && decide ((cdL rc h).length < 8) then cdL rc h ++ [h] else cdL rc h).length ≤ 8
    split
    · next q =>
      simp at q
      rw [List.length_append]
      have : [h].length = 1 := rfl
      omega
    · exact this
theorem cdL_lt (rc : Nat → Bool) : ∀ k i, i ∈ cdL rc k → i < k
  | 0, i, h => absurd h List.not_mem_nil
  | k + 1, i, h => by
    have h : i ∈ (if rc k && decide ((cdL rc k).length < 8) then cdL rc k ++ [k] else cdL rc k) := h
    split at h
    · rcases List.mem_append.mp h with q | q
      · have := cdL_lt rc k i q; omega
      · have := List.mem_singleton.mp q; omega
    · have := cdL_lt rc k i h; omega
theorem cdL_mono (rc : Nat → Bool) : ∀ k i j, i < j → j < (cdL rc k).length → (cdL rc k).getD i 0 < (cdL rc k).getD j 0
  | 0, i, j, _, h => absurd h (Nat.not_lt_zero j)
  | k + 1, i, j, hij, h => by
    have h : j < (if rc k && decide ((cdL rc k).length < 8) then cdL rc k ++ [k] else cdL rc k).length := h
    show (if rc k && decide ((cdL rc k).length < 8) then cdL rc k ++ [k] else cdL rc k).getD i 0 < (if rc k && decide ((cdL rc k).length < 8) then cdL rc k ++ [k] else cdL rc k).getD j 0
    split at h
    · next q =>
      rw [if_pos q]
      rw [List.length_append] at h
      have h : j < (cdL rc k).length + 1 := h
      by_cases e : j = (cdL rc k).length
      · have hi : i < (cdL rc k).length := by omega
        rw [e, gD_r, gD_l hi]
        refine cdL_lt rc k _ ?_
        rw [List.getD_eq_getElem?_getD, List.getElem?_eq_getElem hi]
        exact List.getElem_mem hi
      · rw [gD_l (by omega), gD_l (by omega)]
        exact cdL_mono rc k i j hij (by omega)
    · next q =>
      rw [if_neg q]
      exact cdL_mono rc k i j hij h
theorem cdL_8 (rc : Nat → Bool) {h : Nat} (e : (cdL rc h).length = 8) : ∀ d, cdL rc (h + d) = cdL rc h
  | 0 => rfl
  | d + 1 => by
    have ih := cdL_8 rc e d
    show (if rc (h + d) && decide ((cdL rc (h + d)).length < 8) then _ else cdL rc (h + d)) = _
    rw [ih, e, if_neg (by simp)]
/-- may a house be looked at -/
def cdB (rc : Nat → Bool) (h : Nat) : Bool := rc h && decide ((cdL rc h).length < 8)
theorem cdL_mem (rc : Nat → Bool) : ∀ k i, i ∈ cdL rc k ↔ i < k ∧ cdB rc i = true
  | 0, i => ⟨fun h => absurd h List.not_mem_nil, fun h => absurd h.1 (Nat.not_lt_zero i)⟩
  | k + 1, i => by
    have ih := cdL_mem rc k i
    show i ∈ (if cdB rc k then cdL rc k ++ [k] else cdL rc k) ↔ _
    cases q : cdB rc k
    · rw [if_neg (by decide), ih]
      refine ⟨fun u => ⟨by omega, u.2⟩, fun u => ⟨?_, u.2⟩⟩
      by_cases e : i = k
      · rw [e, q] at u; exact absurd u.2 (by decide)
      · omega
    · rw [if_pos rfl, List.mem_append, List.mem_singleton, ih]
      refine ⟨fun u => ?_, fun u => ?_⟩
      · rcases u with u | rfl
        · exact ⟨by omega, u.2⟩
        · exact ⟨by omega, q⟩
      · by_cases e : i = k
        · exact Or.inr e
        · exact Or.inl ⟨by omega, u.2⟩
theorem cdL_cn (rc : Nat → Bool) : ∀ k, cn (cdB rc) k = (cdL rc k).length
  | 0 => rfl
  | k + 1 => by
    have ih := cdL_cn rc k
    show cn (cdB rc) k + (if cdB rc k then 1 else 0) = (if cdB rc k then cdL rc k ++ [k] else cdL rc k).length
    rw [ih]
    cases q : cdB rc k
    · rfl
    · rw [if_pos rfl, if_pos rfl, List.length_append]; rfl
def rcF (Y : Nat → Nat → Int32) (base : Nat) (h : Nat) : Bool := decide (wkF Y base (crF Y h) < 1000000)
noncomputable def gF (Y : Nat → Nat → Int32) (q h : Nat) : Nat := 10 * (fcS Y h (nI q)).2.2.length + min 30 (ds Y h (nI q)).toNatClampNeg
theorem ds_I {Y : Nat → Nat → Int32} (w : WW Y) {h q : Nat} (hq : q ≤ 20000) : ds Y h (nI q) = nI (ds Y h (nI q)).toNatClampNeg ∧ (ds Y h (nI q)).toNatClampNeg ≤ 20000 := by
  have key : ∃ m, m ≤ 20000 ∧ ds Y h (nI q) = nI m := by
    unfold ds
    cases e : dl Y h (nI q) (nv Y 246 99) with
    | none => exact ⟨999, by decide, rfl⟩
    | some i =>
      have hi := dl_lt Y h (nI q) _ i e
      obtain ⟨-, -, -, -, v5, -, -⟩ := w.ev.1 i hi
      have hk : ∀ n j, dl Y h (nI q) n = some j → ¬ nI q < Y 323 j := by
        intro n
        induction n with
        | zero => intro j e; exact absurd e (by simp [dl])
        | succ n ih =>
          intro j e
          rw [dl_s] at e
          split at e
          · next u => injection e with e; rw [← e]; exact u.2.2
          · exact ih j e
      have nl := hk _ i e
      rw [v5.1, q_lt (by omega) (by have := v5.2; omega)] at nl
      refine ⟨(q - nv Y 323 i) / 1440, ?_, ?_⟩
      · have := Nat.div_le_self (q - nv Y 323 i) 1440
        omega
      · show (nI q - Y 323 i) / nI 1440 = _
        rw [v5.1, pk_sub (by omega), q_div (by omega) (by decide) (by decide)]
  obtain ⟨m, hm, e⟩ := key
  rw [e, cl_nI (by omega)]
  exact ⟨rfl, hm⟩
theorem gF_le {Y : Nat → Nat → Int32} (w : WW Y) (ht : InvT Y) (q h : Nat) : gF Y q h ≤ 1000 := by
  have := fcS_len (h := h) (q := nI q) ht w.b72
  unfold gF
  omega
theorem gF_I {Y : Nat → Nat → Int32} (w : WW Y) {q h : Nat} (hq : q ≤ 20000) : (10 : Int32) * nI (fcS Y h (nI q)).2.2.length + imin 30 (ds Y h (nI q)) = nI (gF Y q h) := by
  obtain ⟨e, b⟩ := ds_I (h := h) w hq
  show nI 10 * _ + imin (nI 30) _ = _
  rw [e, imin_I (by decide) (by omega), pk_mul, nI_add]
  rfl
