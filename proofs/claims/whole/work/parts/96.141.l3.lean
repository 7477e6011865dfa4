/-! DOUBLES: what two alike numbers have in common; no NaN comes of whole numbers. -/
def dD (a : UInt64) : FP.Core.Datum := FP.Core.decode FP.Core.b64 a.toNat
def dF (a : UInt32) : FP.Core.Datum := FP.Core.decode FP.Core.b32 a.toNat
def gD (f : FP.Core.Fmt) : FP.Core.Datum → Prop
  | .nan => False
  | .inf _ => True
  | .fin _ c q => c < 2 ^ f.p ∧ q ≤ f.qmax
theorem tlD : FP.Core.Fmt.tails FP.Core.b64 = 4503599627370496 := by decide
theorem exD : FP.Core.Fmt.exps FP.Core.b64 = 2048 := by decide
theorem ppD : 2 ^ FP.Core.Fmt.p FP.Core.b64 = 9007199254740992 := by decide
theorem qmD : FP.Core.Fmt.qmin FP.Core.b64 = -1074 := by decide
theorem qxD : FP.Core.Fmt.qmax FP.Core.b64 = 971 := by decide
theorem nanD {a : UInt64} (h : isNaN64 a = true) : dD a = .nan := by
  have h := isNaN64_iff.mp h
  rw [show (0x7fffffffffffffff : Nat) = 2 ^ 63 - 1 from rfl, Nat.and_two_pow_sub_one_eq_mod] at h
  unfold dD FP.Core.decode FP.Core.fieldE FP.Core.fieldT
  rw [tlD, exD]
  generalize a.toNat = n at h ⊢
  have h : 0x7ff0000000000000 < n % 9223372036854775808 := h
  rw [if_pos (by omega), if_neg (by omega)]
theorem asmD {s : Bool} {e t : Nat} (he : e < 2048) (ht : t < 4503599627370496) : FP.Core.assemble FP.Core.b64 s e t < 2 ^ 64 ∧ FP.Core.fieldE FP.Core.b64 (FP.Core.assemble FP.Core.b64 s e t) = e ∧ FP.Core.fieldT FP.Core.b64 (FP.Core.assemble FP.Core.b64 s e t) = t := by
  unfold FP.Core.assemble FP.Core.fieldE FP.Core.fieldT
  rw [tlD, exD]
  have hs : s.toNat ≤ 1 := by cases s <;> decide
  generalize s.toNat = u at hs ⊢
  refine ⟨by omega, by omega, by omega⟩
theorem asmD_n {s : Bool} {e t : Nat} (he : e < 2048) (ht : t < 4503599627370496) (h : e < 2048 - 1 ∨ t = 0) : dD (UInt64.ofNat (FP.Core.assemble FP.Core.b64 s e t)) ≠ .nan := by
  obtain ⟨a1, a2, a3⟩ := asmD (s := s) he ht
  unfold dD
  rw [UInt64.toNat_ofNat', Nat.mod_eq_of_lt a1]
  unfold FP.Core.decode
  rw [a2, a3, exD]
  rcases h with h | h
  · rw [if_neg (by omega)]
    split <;> (intro u; cases u)
  · split
    · first | (rw [if_pos h]; intro u; cases u) | (intro u; cases u)
    · split <;> (intro u; cases u)
theorem encD {d : FP.Core.Datum} (h : gD FP.Core.b64 d) : dD (UInt64.ofNat (FP.Core.encode FP.Core.b64 d)) ≠ .nan := by
  cases d with
  | nan => exact h.elim
  | inf s =>
    show dD (UInt64.ofNat (FP.Core.assemble FP.Core.b64 s (FP.Core.Fmt.exps FP.Core.b64 - 1) 0)) ≠ .nan
    rw [exD]
    exact asmD_n (by omega) (by omega) (Or.inr rfl)
  | fin s c q =>
    obtain ⟨h1, h2⟩ := h
    rw [ppD] at h1
    rw [qxD] at h2
    unfold FP.Core.encode
    rw [tlD, qmD]
    by_cases q1 : c < 4503599627370496
    · simp only [if_pos q1]
      exact asmD_n (by omega) q1 (Or.inl (by omega))
    · simp only [if_neg q1]
      exact asmD_n (by omega) (by omega) (Or.inl (by omega))
theorem alkD {a b : UInt64} (h : alike64 a b = true) : dD a = dD b := by
  unfold alike64 at h
  rcases Bool.or_eq_true _ _ ▸ h with h | h
  · rw [of_decide_eq_true h]
  · rw [Bool.and_eq_true] at h
    rw [nanD h.1, nanD h.2]
theorem tlF : FP.Core.Fmt.tails FP.Core.b32 = 8388608 := by decide
theorem exF : FP.Core.Fmt.exps FP.Core.b32 = 256 := by decide
theorem ppF : 2 ^ FP.Core.Fmt.p FP.Core.b32 = 16777216 := by decide
theorem qmF : FP.Core.Fmt.qmin FP.Core.b32 = -149 := by decide
theorem qxF : FP.Core.Fmt.qmax FP.Core.b32 = 104 := by decide
theorem nanF {a : UInt32} (h : isNaN32 a = true) : dF a = .nan := by
  have h := isNaN32_iff.mp h
  rw [show (0x7fffffff : Nat) = 2 ^ 31 - 1 from rfl, Nat.and_two_pow_sub_one_eq_mod] at h
  unfold dF FP.Core.decode FP.Core.fieldE FP.Core.fieldT
  rw [tlF, exF]
  generalize a.toNat = n at h ⊢
  have h : 0x7f800000 < n % 2147483648 := h
  rw [if_pos (by omega), if_neg (by omega)]
theorem asmF {s : Bool} {e t : Nat} (he : e < 256) (ht : t < 8388608) : FP.Core.assemble FP.Core.b32 s e t < 2 ^ 32 ∧ FP.Core.fieldE FP.Core.b32 (FP.Core.assemble FP.Core.b32 s e t) = e ∧ FP.Core.fieldT FP.Core.b32 (FP.Core.assemble FP.Core.b32 s e t) = t := by
  unfold FP.Core.assemble FP.Core.fieldE FP.Core.fieldT
  rw [tlF, exF]
  have hs : s.toNat ≤ 1 := by cases s <;> decide
  generalize s.toNat = u at hs ⊢
  refine ⟨by omega, by omega, by omega⟩
theorem asmF_n {s : Bool} {e t : Nat} (he : e < 256) (ht : t < 8388608) (h : e < 256 - 1 ∨ t = 0) : dF (UInt32.ofNat (FP.Core.assemble FP.Core.b32 s e t)) ≠ .nan := by
  obtain ⟨a1, a2, a3⟩ := asmF (s := s) he ht
  unfold dF
  rw [UInt32.toNat_ofNat', Nat.mod_eq_of_lt a1]
  unfold FP.Core.decode
  rw [a2, a3, exF]
  rcases h with h | h
  · rw [if_neg (by omega)]
    split <;> (intro u; cases u)
  · split
    · first | (rw [if_pos h]; intro u; cases u) | (intro u; cases u)
    · split <;> (intro u; cases u)
theorem encF {d : FP.Core.Datum} (h : gD FP.Core.b32 d) : dF (UInt32.ofNat (FP.Core.encode FP.Core.b32 d)) ≠ .nan := by
  cases d with
  | nan => exact h.elim
  | inf s =>
    show dF (UInt32.ofNat (FP.Core.assemble FP.Core.b32 s (FP.Core.Fmt.exps FP.Core.b32 - 1) 0)) ≠ .nan
    rw [exF]
    exact asmF_n (by omega) (by omega) (Or.inr rfl)
  | fin s c q =>
    obtain ⟨h1, h2⟩ := h
    rw [ppF] at h1
    rw [qxF] at h2
    unfold FP.Core.encode
    rw [tlF, qmF]
    by_cases q1 : c < 8388608
    · simp only [if_pos q1]
      exact asmF_n (by omega) q1 (Or.inl (by omega))
    · simp only [if_neg q1]
      exact asmF_n (by omega) (by omega) (Or.inl (by omega))
theorem alkF {a b : UInt32} (h : alike32 a b = true) : dF a = dF b := by
  unfold alike32 at h
  rcases Bool.or_eq_true _ _ ▸ h with h | h
  · rw [of_decide_eq_true h]
  · rw [Bool.and_eq_true] at h
    rw [nanF h.1, nanF h.2]
theorem g_bound {f : FP.Core.Fmt} {s : Bool} {c : Nat} {q : Int} (h : c < 2 ^ f.p) : gD f (FP.Core.bound f s c q) := by
  unfold FP.Core.bound
  split
  · exact ⟨h, by assumption⟩
  · trivial
theorem g_ratio {f : FP.Core.Fmt} {s : Bool} {n d : Nat} {e : Int} (hf : f.qmin ≤ f.qmax) (hp : f.tails < 2 ^ f.p) : gD f (FP.Core.roundRatio f s n d e) := by
  unfold FP.Core.roundRatio
  split
  · exact ⟨Nat.two_pow_pos _, hf⟩
  · unfold FP.Core.roundAt FP.Core.settle
    split
    · exact g_bound (by assumption)
    · exact g_bound hp
theorem g_round {f : FP.Core.Fmt} {d : FP.Core.Datum} (hf : f.qmin ≤ f.qmax) (hp : f.tails < 2 ^ f.p) (h : d ≠ .nan) : gD f (FP.Core.round f d) := by
  cases d with
  | nan => exact absurd rfl h
  | inf s => trivial
  | fin s c q => exact g_ratio hf hp
theorem i2d_n (v : Int32) : dD (FP.i2d v) ≠ .nan := encD (g_round (by decide) (by decide) (fun u => by cases u))
theorem i2f_n (v : Int32) : dF (FP.i2f v) ≠ .nan := encF (g_round (by decide) (by decide) (fun u => by cases u))
theorem d8 : dF 1090519040 = .fin false 8388608 (-20) := by decide
theorem div8_n (v : Int32) : dF (FP.fdiv (FP.i2f v) 1090519040) ≠ .nan := by
  have h := i2f_n v
  show dF (UInt32.ofNat (FP.Core.encode FP.Core.b32 (FP.Core.quotient FP.Core.b32 (dF (FP.i2f v)) (dF 1090519040)))) ≠ .nan
  rw [d8]
  generalize dF (FP.i2f v) = d at h ⊢
  refine encF ?_
  cases d with
  | nan => exact absurd rfl h
  | inf s => trivial
  | fin s c q =>
    unfold FP.Core.quotient
    simp only [show ¬ (8388608 : Nat) = 0 by decide, if_false]
    exact g_ratio (by decide) (by decide)
theorem f2d_n {a : UInt32} (h : dF a ≠ .nan) : FP.f2d a = UInt64.ofNat (FP.Core.encode FP.Core.b64 (FP.Core.round FP.Core.b64 (dF a))) ∧ dD (FP.f2d a) ≠ .nan := by
  have e : FP.Core.fIsNaN a = false := decide_eq_false h
  have e2 : FP.f2d a = FP.Core.f2d a := by unfold FP.f2d; rw [e]; rfl
  rw [e2]
  exact ⟨rfl, encD (g_round (by decide) (by decide) h)⟩
theorem dadd_c {a b a' b' : UInt64} (h : dD a = dD a') (h2 : dD b = dD b') : FP.dadd a b = FP.dadd a' b' := by
  show UInt64.ofNat (FP.Core.encode FP.Core.b64 (FP.Core.round FP.Core.b64 (FP.Core.exactSum (dD a) (dD b)))) = UInt64.ofNat (FP.Core.encode FP.Core.b64 (FP.Core.round FP.Core.b64 (FP.Core.exactSum (dD a') (dD b'))))
  rw [h, h2]
theorem dmul_c {a b a' b' : UInt64} (h : dD a = dD a') (h2 : dD b = dD b') : FP.dmul a b = FP.dmul a' b' := by
  show UInt64.ofNat (FP.Core.encode FP.Core.b64 (FP.Core.round FP.Core.b64 (FP.Core.exactProduct (dD a) (dD b)))) = UInt64.ofNat (FP.Core.encode FP.Core.b64 (FP.Core.round FP.Core.b64 (FP.Core.exactProduct (dD a') (dD b'))))
  rw [h, h2]
theorem dsub_c {a b a' b' : UInt64} (h : dD a = dD a') (h2 : dD b = dD b') : FP.dsub a b = FP.dsub a' b' := by
  show UInt64.ofNat (FP.Core.encode FP.Core.b64 (FP.Core.round FP.Core.b64 (FP.Core.exactSum (dD a) (FP.Core.negate (dD b))))) = UInt64.ofNat (FP.Core.encode FP.Core.b64 (FP.Core.round FP.Core.b64 (FP.Core.exactSum (dD a') (FP.Core.negate (dD b')))))
  rw [h, h2]
theorem ord_self {d : FP.Core.Datum} (h : d ≠ .nan) : FP.Core.order d d = some .eq := by
  cases d with
  | nan => exact absurd rfl h
  | inf s => cases s <;> decide
  | fin s c q => unfold FP.Core.order; simp
theorem cmp_self {a b : UInt64} (e : dD a = dD b) (h : dD a ≠ .nan) : Op.cmpValue (FP.dcmp a b) .l = 0 := by
  have : FP.dcmp a b = some .eq := by
    show FP.Core.order (dD a) (dD b) = _
    rw [← e]; exact ord_self h
  rw [this]; rfl
theorem cmp_nan {a b : UInt64} (h : dD a = .nan) : ¬ Op.cmpValue (FP.dcmp a b) .l = 0 := by
  have : FP.dcmp a b = none := by
    show FP.Core.order (dD a) (dD b) = _
    rw [h]; rfl
  rw [this]; decide
/-- the law's own test of two doubles -/
theorem dbl_law {p q : UInt64} (e : dD p = dD q) {A : Prop} (h : A) : (((Op.cmpValue (FP.dcmp p q) .l) = 0 → A) ∧ (¬ (Op.cmpValue (FP.dcmp p q) .l) = 0 → (((Op.cmpValue (FP.dcmp p p) .l) = 0 → False) ∧ (¬ (Op.cmpValue (FP.dcmp p p) .l) = 0 → ((¬ (Op.cmpValue (FP.dcmp q q) .l) = 0 → A) ∧ ((Op.cmpValue (FP.dcmp q q) .l) = 0 → False)))))) := by
  by_cases n : dD p = .nan
  · have n' : dD q = .nan := e ▸ n
    exact ⟨fun _ => h, fun _ => ⟨fun u => cmp_nan n u, fun _ => ⟨fun _ => h, fun u => cmp_nan n' u⟩⟩⟩
  · exact ⟨fun _ => h, fun u => absurd (cmp_self e n) u⟩
theorem is_nan {a : UInt64} {x : ab_X} {K : Int32 → Prop} (h : if dD a = .nan then K (nI 1) else K (nI 0)) : wJxe99ae_isNaN_b9ae7 a x K := by
  unfold wJxe99ae_isNaN_b9ae7
  by_cases n : dD a = .nan
  · rw [if_pos n] at h
    exact ⟨fun u => absurd u (cmp_nan n), fun _ => h⟩
  · rw [if_neg n] at h
    exact ⟨fun _ => h, fun u => absurd (cmp_self rfl n) u⟩
