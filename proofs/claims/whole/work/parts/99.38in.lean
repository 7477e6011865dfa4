/-- the law's numbers before the first call -/
def xQ0 : ab_X := ((fun c => (LQ0.getD c cd0).2.1), (fun _ _ => 0), (fun _ _ => 0), 1000000, 299, 1000004)
theorem LQ_sh : ∀ c, c < 338 → (LQ0.getD c cd0).1 = SH c := by decide +kernel
def nfc (c : Nat) : Nat := match SH c with
  | .inl ci => ab_N ci
  | .inr _ => 0
theorem LQ_rf : ∀ c, c < 338 → ∀ k, k < nfc c → (LQ0.getD c cd0).2.2 k = RF 1000000 299 1000004 c k := by decide +kernel
def isRow (c : Nat) : Bool := match SH c with
  | .inl _ => true
  | .inr q => decide (q.1 < 5) || decide (c = 10) || decide (c = 67) || decide (c = 68) || decide (c = 166)
theorem LQ_row : ∀ c, c < 338 → isRow c = true := by decide +kernel
theorem LQ_len : LQ0.length = 338 := by
  unfold LQ0
  rw [List.length_append, List.length_append, List.nil_append, mk11_len, mk12_len]; rfl
theorem LQ_e (tyc : Nat → ClassId) (ad : Nat → Nat) (c : Nat) (hc : c < 338) : ab_e tyc ad (cLs LQ0) c = ab_e tyc ad (aS xQ0) c := by
  have e1 : (cLs LQ0).2.1 c = SH c := LQ_sh c hc
  have e2 : (aS xQ0).2.1 c = SH c := rfl
  unfold ab_e
  rw [e1, e2]
  cases hs : SH c with
  | inl ci =>
    refine congrArg (fun z => Sum.inr (ci, z)) (List.map_congr_left fun k hk => ?_)
    have hk : k < ab_N ci := List.mem_range.mp hk
    have hf : nfc c = ab_N ci := by unfold nfc; rw [hs]
    have := LQ_rf c hc k (by rw [hf]; exact hk)
    unfold ab_f
    show (if ab_isr (ab_tf ci k) = true then va_rf (((LQ0.getD c cd0).2.2 k).map ad) else .int ((LQ0.getD c cd0).2.1 k)) = (if ab_isr (ab_tf ci k) = true then va_rf ((RF 1000000 299 1000004 c k).map ad) else .int ((LQ0.getD c cd0).2.1 k))
    rw [this]
  | inr q =>
    refine congrArg (fun z => Sum.inl (tyc q.1, q.2, z)) ?_
    have hr := LQ_row c hc
    unfold isRow at hr
    rw [hs] at hr
    unfold ab_a
    by_cases h1 : q.1 < 3
    · rw [if_pos h1, if_pos h1]; rfl
    rw [if_neg h1, if_neg h1]
    by_cases h2 : q.1 = 3
    · rw [if_pos h2, if_pos h2]; rfl
    rw [if_neg h2, if_neg h2]
    by_cases h3 : q.1 = 4
    · rw [if_pos h3, if_pos h3]; rfl
    rw [if_neg h3, if_neg h3]
    have h4 : c = 10 ∨ c = 67 ∨ c = 68 ∨ c = 166 := by
      simp only [Bool.or_eq_true, decide_eq_true_eq] at hr
      omega
    rcases h4 with rfl | rfl | rfl | rfl
    · rfl
    · refine congrArg (fun f => Sum.inr (Sum.inr (Sum.inr (Sum.inr f)))) (funext fun j => ?_)
      show Option.map ad (if j < 16 then some (82 + 1 * j) else none) = Option.map ad (if j < 16 then some (82 + j) else none)
      rw [Nat.one_mul]
    · refine congrArg (fun f => Sum.inr (Sum.inr (Sum.inr (Sum.inr f)))) (funext fun j => ?_)
      show Option.map ad (if j < 60 then some (98 + 1 * j) else none) = Option.map ad (if j < 60 then some (98 + j) else none)
      rw [Nat.one_mul]
    · rfl
theorem LQ_w (tyc : Nat → ClassId) (ad : Nat → Nat) : ab_w tyc ad (cLs LQ0) = ab_w tyc ad (aS xQ0) := by
  have e : (cLs LQ0).1 = 338 := LQ_len
  have e2 : (aS xQ0).1 = 338 := rfl
  unfold ab_w
  rw [e, e2]
  refine List.map_congr_left fun c hc => ?_
  rw [LQ_e tyc ad c (List.mem_range.mp hc)]
theorem EL_LQ {L : Nat} {xs : Nat → Int32} {pc bu : Nat} {lv : List (Nat × Value)} {st : List Value} (h : EL L xs pc lv st (aS xQ0) bu) : EL L xs pc lv st (cLs LQ0) bu := by
  intro p l e s m below meth c9 D tyc adK adV H locs cells slots ad d0 ls b hC hP hD hS hl hsa hX hbl hd0 h3 h4
  rw [LQ_w] at hP hD
  exact h p l e s m below meth c9 D tyc adK adV H locs cells slots ad d0 ls b hC hP hD hS hl hsa hX hbl hd0 h3 h4
