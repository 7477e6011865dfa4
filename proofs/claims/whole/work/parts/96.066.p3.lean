/-! CALLS: the lowest of some bits. -/
def n74 (v0 v1 : Int32) : Int32 := v1 + (iushr v0 1)
def n62 (v0 v1 : Int32) : Int32 := if v0 ≤ 4 then n74 v0 v1 else n74 (iushr v0 2) (v1 + 2)
def n49 (v0 v1 : Int32) : Int32 := if v0 ≤ 16 then n62 v0 v1 else n62 (iushr v0 4) (v1 + 4)
def n34 (v0 v1 : Int32) : Int32 := if v0 ≤ 256 then n49 v0 v1 else n49 (iushr v0 8) (v1 + 8)
def ntI (i : Int32) : Int32 := if 0 < i then (if i ≤ 65536 then n34 i 1 else n34 (iushr i 16) (1 + 16)) else i &&& 32
theorem ite_K {p : Prop} [Decidable p] {a b : Int32} {K : Int32 → Prop} {A B : Prop} (ha : K a → A) (hb : K b → B) (k : K (if p then a else b)) : ((p → A) ∧ (¬ p → B)) := ⟨fun q => ha (by rw [if_pos q] at k; exact k), fun q => hb (by rw [if_neg q] at k; exact k)⟩
theorem nt_K {v : Int32} {x : ab_X} {K : Int32 → Prop} (k : K (ntI ((v ^^^ (-1)) &&& (v - 1)))) : wJ6_numberOfTrailingZeros_0f7a4 v x K := by
  have h62 : ∀ v0 v1, K (n62 v0 v1) → wJ6_numberOfTrailingZeros_0f7a4_62 v0 v1 x K := fun v0 v1 k => ite_K (fun k => k) (fun k => k) k
  have h49 : ∀ v0 v1, K (n49 v0 v1) → wJ6_numberOfTrailingZeros_0f7a4_49 v0 v1 x K := fun v0 v1 k => ite_K (h62 _ _) (h62 _ _) k
  have h34 : ∀ v0 v1, K (n34 v0 v1) → wJ6_numberOfTrailingZeros_0f7a4_34 v0 v1 x K := fun v0 v1 k => ite_K (h49 _ _) (h49 _ _) k
  unfold wJ6_numberOfTrailingZeros_0f7a4
  refine ite_K (fun k => ?_) (fun k => k) k
  exact ite_K (h34 _ _) (h34 _ _) k
theorem ntI_m : ∀ m, m < 20 → ntI (nI (2 ^ m - 1)) = nI m := by decide +kernel
theorem bt_nI {M j : Nat} (hj : j < 32) : bt (nI M) j = M.testBit j := by
  show (BitVec.ofNat 32 M).getLsbD j = _
  rw [BitVec.getLsbD_ofNat, decide_eq_true hj, Bool.true_and]
theorem low_bit {w : Int32} {m : Nat} (h : ∀ i, 20 ≤ i → i < 32 → bt w i = false) (hm : m < 20) (h1 : bt w m = true) (h0 : ∀ j, j < m → bt w j = false) {x : ab_X} {K : Int32 → Prop} (k : K (nI m)) : wJ6_numberOfTrailingZeros_0f7a4 w x K := by
  refine nt_K ?_
  obtain ⟨N, hN, e, tb⟩ : ∃ N, N < 1048576 ∧ w = nI N ∧ ∀ i, bt w i = N.testBit i := by
    refine ⟨w.toBitVec.toNat, ?_, ?_, fun i => rfl⟩
    · refine Nat.lt_pow_two_of_testBit (n := 20) _ (fun j hj => ?_)
      by_cases q : j < 32
      · exact h j hj q
      · exact b_big (x := w) (by omega)
    · apply Int32.toBitVec_inj.mp
      apply BitVec.eq_of_toNat_eq
      rw [pk_tn w.toBitVec.isLt]
  have z : N % 2 ^ m = 0 := by
    refine Nat.eq_of_testBit_eq (fun j => ?_)
    rw [Nat.testBit_mod_two_pow, Nat.zero_testBit]
    by_cases q : j < m
    · rw [← tb, h0 j q, Bool.and_false]
    · rw [decide_eq_false q, Bool.false_and]
  have ea : N = 2 ^ m * (N / 2 ^ m) + 0 := by
    have := Nat.div_add_mod N (2 ^ m)
    omega
  have odd : (N / 2 ^ m).testBit 0 = true := by
    rw [Nat.testBit_div_two_pow, ← tb, Nat.zero_add]; exact h1
  generalize hA : N / 2 ^ m = A at ea odd
  have odd2 : A % 2 = 1 := by
    rw [Nat.testBit_zero] at odd
    exact of_decide_eq_true odd
  have p2 : 0 < 2 ^ m := Nat.two_pow_pos m
  have N1 : 1 ≤ N := by
    rw [ea]
    have : 1 * 1 ≤ 2 ^ m * A := Nat.mul_le_mul p2 (by omega)
    omega
  have eb : N - 1 = 2 ^ m * (A - 1) + (2 ^ m - 1) := by
    rw [ea]
    obtain ⟨B, rfl⟩ : ∃ B, A = B + 1 := ⟨A - 1, by omega⟩
    rw [Nat.mul_add, Nat.add_sub_cancel]
    omega
  have key : (w ^^^ (-1)) &&& (w - 1) = nI (2 ^ m - 1) := by
    apply b_ext
    intro j hj
    have ew : w - 1 = nI (N - 1) := by rw [e]; exact pk_sub N1
    rw [ew, b_and, b_xor, b_m1 j hj, tb, bt_nI hj, bt_nI hj, Nat.testBit_two_pow_sub_one, eb, Nat.testBit_two_pow_mul_add _ (by omega), Nat.testBit_two_pow_sub_one]
    by_cases q : j < m
    · have := h0 j q
      rw [tb] at this
      rw [this, if_pos q, decide_eq_true q]; rfl
    · rw [if_neg q, decide_eq_false q, ea, Nat.testBit_two_pow_mul_add _ (by omega), if_neg q]
      cases hi : j - m with
      | zero => rw [odd]; rfl
      | succ i =>
        rw [Nat.testBit_succ, Nat.testBit_succ, show (A - 1) / 2 = A / 2 by omega]
        cases (A / 2).testBit i <;> rfl
  rw [key, ntI_m m hm]
  exact k
