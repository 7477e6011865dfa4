/-! NUMBERS: literals, tests and branches in normal form. -/
theorem nI_lit (n : Nat) : (OfNat.ofNat n : Int32) = nI (OfNat.ofNat n) := rfl
theorem vpi {n N : Nat} (h : n < N) (hN : N < 2147483648) : vp_in (nI n) N ↔ True := ⟨fun _ => trivial, fun _ => vp_in_nI h hN⟩
theorem cl_nI {n : Nat} (h : n < 2147483648) : Int32.toNatClampNeg (nI n) = n := nI_clamp h
theorem q_eq {a b : Nat} (ha : a < 2147483648) (hb : b < 2147483648) : nI a = nI b ↔ a = b := nI_eq ha hb
theorem q_le {a b : Nat} (ha : a < 2147483648) (hb : b < 2147483648) : nI a ≤ nI b ↔ a ≤ b := nI_leI ha hb
theorem q_lt {a b : Nat} (ha : a < 2147483648) (hb : b < 2147483648) : nI a < nI b ↔ a < b := nI_ltI ha hb
theorem q_div {a d : Nat} (ha : a < 2147483648) (h0 : 0 < d) (hd : d < 2147483648) : nI a / nI d = nI (a / d) := pk_div ha h0 hd
theorem n1_toInt : (-nI 1).toInt = -1 := by decide
theorem n1_eq {k : Nat} (h : k < 2147483648) : (-nI 1 = nI k) ↔ False := ⟨fun e => by have := congrArg Int32.toInt e; rw [n1_toInt, nI_toInt h] at this; omega, False.elim⟩
theorem n1_eq' {k : Nat} (h : k < 2147483648) : (nI k = -nI 1) ↔ False := ⟨fun e => (n1_eq h).mp e.symm, False.elim⟩
theorem n1_le {k : Nat} (h : k < 2147483648) : (-nI 1 ≤ nI k) ↔ True := ⟨fun _ => trivial, fun _ => by rw [Int32.le_iff_toInt_le, n1_toInt, nI_toInt h]; omega⟩
theorem n1_lt {k : Nat} (h : k < 2147483648) : (-nI 1 < nI k) ↔ True := ⟨fun _ => trivial, fun _ => by rw [Int32.lt_iff_toInt_lt, n1_toInt, nI_toInt h]; omega⟩
theorem n1_ge {k : Nat} (h : k < 2147483648) : (nI k ≤ -nI 1) ↔ False := ⟨fun e => by rw [Int32.le_iff_toInt_le, n1_toInt, nI_toInt h] at e; omega, False.elim⟩
theorem n1_gt {k : Nat} (h : k < 2147483648) : (nI k < -nI 1) ↔ False := ⟨fun e => by rw [Int32.lt_iff_toInt_lt, n1_toInt, nI_toInt h] at e; omega, False.elim⟩
theorem br_pos {c A B : Prop} (h : c) : ((c → A) ∧ (¬ c → B)) ↔ A := ⟨fun q => q.1 h, fun a => ⟨fun _ => a, fun n => absurd h n⟩⟩
theorem br_neg {c A B : Prop} (h : ¬ c) : ((c → A) ∧ (¬ c → B)) ↔ B := ⟨fun q => q.2 h, fun a => ⟨fun n => absurd n h, fun _ => a⟩⟩
theorem br_pos' {c A B : Prop} (h : c) : ((¬ c → A) ∧ (c → B)) ↔ B := ⟨fun q => q.2 h, fun a => ⟨fun n => absurd h n, fun _ => a⟩⟩
theorem br_neg' {c A B : Prop} (h : ¬ c) : ((¬ c → A) ∧ (c → B)) ↔ A := ⟨fun q => q.1 h, fun a => ⟨fun _ => a, fun n => absurd n h⟩⟩
theorem i_m1 (n : Nat) (h : 0 < n) : nI n - nI 1 = nI (n - 1) := pk_sub h
theorem i_pm1 (n : Nat) (h : 0 < n) : nI n + -nI 1 = nI (n - 1) := by
  obtain ⟨m, rfl⟩ : ∃ m, n = m + 1 := ⟨n - 1, by omega⟩
  exact pk_m1 m
theorem i_0m1 : nI 0 - nI 1 = -nI 1 := by decide
/-- the answers of the tests of an index and of a range -/
def jx (a n : Int32) : Int32 := if a < 0 then 0 else if n ≤ a then 0 else 1
def jr (a lo hi : Int32) : Int32 := if a < lo then 0 else if hi < a then 0 else 1
theorem jx_B {a n : Int32} : isB (jx a n) := by unfold jx isB; split <;> (try split) <;> simp
theorem jr_B {a n m : Int32} : isB (jr a n m) := by unfold jr isB; split <;> (try split) <;> simp
theorem two_v {a b : Prop} [Decidable a] [Decidable b] {K : Int32 → Prop} : ((a → K 0) ∧ (¬ a → ((b → K 0) ∧ (¬ b → K 1)))) ↔ K (if a then 0 else if b then 0 else 1) := by
  by_cases ha : a
  · simp [ha]
  · by_cases hb : b <;> simp [ha, hb]
theorem f_below {a n : Int32} {x : ab_X} {K : Int32 → Prop} : wX11_below a n x K ↔ K (jx a n) := by unfold wX11_below; exact two_v
theorem f_within {a lo hi : Int32} {x : ab_X} {K : Int32 → Prop} : wX11_within a lo hi x K ↔ K (jr a lo hi) := by unfold wX11_within; exact two_v
theorem f_isCorner {a : Int32} {x : ab_X} {K : Int32 → Prop} : wX11_isCorner a x K ↔ K (jx a 20) := by unfold wX11_isCorner; exact two_v
theorem f_isIn {a lo hi : Int32} {x : ab_X} {K : Int32 → Prop} : wX12_isIn a lo hi x K ↔ K (jr a lo hi) := by unfold wX12_isIn; exact two_v
theorem f_isCornerM {a : Int32} {x : ab_X} {K : Int32 → Prop} : wX12_isCorner a x K ↔ K (jx a 20) := by unfold wX12_isCorner; exact two_v
theorem f_isStreet {a : Int32} {x : ab_X} {K : Int32 → Prop} : wX12_isStreet a x K ↔ K (jx a (x.1 246 9)) := by unfold wX12_isStreet; exact two_v
theorem f_isHouse {a : Int32} {x : ab_X} {K : Int32 → Prop} : wX12_isHouse a x K ↔ K (jx a (x.1 246 31)) := by unfold wX12_isHouse; exact two_v
theorem f_isCrew {a : Int32} {x : ab_X} {K : Int32 → Prop} : wX12_isCrew a x K ↔ K (jx a (x.1 246 58)) := by unfold wX12_isCrew; exact two_v
theorem f_isRow {a : Int32} {x : ab_X} {K : Int32 → Prop} : wX12_isRow a x K ↔ K (jx a (x.1 246 116)) := by unfold wX12_isRow; exact two_v
theorem f_has10 {a : Int32} {x : ab_X} {K : Int32 → Prop} : wX10_has a x K ↔ K (jx a (x.1 9 2)) := by unfold wX10_has; rw [f_below]; exact ⟨fun h => h.2, fun h => ⟨jx_B, h⟩⟩
theorem f_has0 {a : Int32} {x : ab_X} {K : Int32 → Prop} : wX0_has a x K ↔ K (jx a (x.1 66 3)) := by unfold wX0_has; rw [f_below]; exact ⟨fun h => h.2, fun h => ⟨jx_B, h⟩⟩
theorem jx_I {j n : Nat} (h : j < n) (hn : n < 2147483648) : jx (nI j) (nI n) = nI 1 := by
  unfold jx
  rw [if_neg (nI_pos (by omega)), if_neg (nI_ge h hn)]; rfl
theorem jx_N {j n : Nat} (h : n ≤ j) (hj : j < 2147483648) : jx (nI j) (nI n) = nI 0 := by
  unfold jx
  rw [if_neg (nI_pos hj), if_pos (nI_le h hj)]; rfl
theorem jx_m1 {n : Int32} : jx (-nI 1) n = nI 0 := by
  unfold jx
  rw [if_pos (by decide)]; rfl
theorem jx_d (a : Int32) {n : Nat} (hn : n < 2147483648) : jx a (nI n) = nI 0 ∨ ∃ j, j < n ∧ a = nI j := by
  rcases pk_ix a hn with h | h | h
  · left; unfold jx; rw [if_pos h]; rfl
  · left; unfold jx; rw [if_pos h]; split <;> rfl
  · exact Or.inr h
theorem jr_I {j lo hi : Nat} (h : lo ≤ j) (h2 : j ≤ hi) (hn : hi < 2147483648) : jr (nI j) (nI lo) (nI hi) = nI 1 := by
  unfold jr
  rw [if_neg (nI_nlt h (by omega)), if_neg (nI_nlt h2 (by omega))]; rfl
theorem jr_N1 {j lo : Nat} {hi : Int32} (h : j < lo) (hn : lo < 2147483648) : jr (nI j) (nI lo) hi = nI 0 := by
  unfold jr
  rw [if_pos (nI_lt h hn)]; rfl
theorem jr_N2 {j hi : Nat} {lo : Int32} (h : hi < j) (hn : j < 2147483648) : jr (nI j) lo (nI hi) = nI 0 := by
  unfold jr
  rw [if_pos (nI_lt h hn)]; split <;> rfl
theorem jr_d (a : Int32) {lo hi : Nat} (hl : lo ≤ hi + 1) (hh : hi < 2147483647) : jr a (nI lo) (nI hi) = nI 0 ∨ ∃ j, lo ≤ j ∧ j ≤ hi ∧ a = nI j := by
  by_cases h1 : a < nI lo
  · left; unfold jr; rw [if_pos h1]; rfl
  · by_cases h2 : nI hi < a
    · left; unfold jr; rw [if_pos h2]; split <;> rfl
    · right
      have h0 : ¬ a < 0 := by
        intro q
        apply h1
        rw [Int32.lt_iff_toInt_lt] at q ⊢
        rw [nI_toInt (by omega)]
        have : (0 : Int32).toInt = 0 := rfl
        omega
      obtain ⟨j, hj, rfl⟩ := nI_of h0
      rw [q_lt hj (by omega)] at h1
      rw [q_lt (by omega) hj] at h2
      exact ⟨j, by omega, by omega, rfl⟩
theorem jr_jx (a : Int32) {n : Nat} (hn : n < 2147483647) (h0 : 0 < n) : jr a (nI 0) (nI (n - 1)) = jx a (nI n) := by
  rcases jx_d a (n := n) (by omega) with h | ⟨j, hj, rfl⟩
  · rw [h]
    rcases jr_d a (lo := 0) (hi := n - 1) (by omega) (by omega) with h' | ⟨j, h1, h2, rfl⟩
    · exact h'
    · rw [jx_I (by omega) (by omega)] at h
      exact absurd h (by decide)
  · rw [jx_I hj (by omega), jr_I (by omega) (by omega) (by omega)]
theorem jr_jx0 (a : Int32) : jr a (nI 0) (-nI 1) = jx a (nI 0) := by
  unfold jr jx
  by_cases h : a < nI 0
  · have h' : a < 0 := h
    rw [if_pos h, if_pos h']
  · have h' : ¬ a < 0 := h
    obtain ⟨j, hj, rfl⟩ := nI_of h'
    rw [if_neg h, if_neg h', if_pos ((n1_lt hj).mpr trivial), if_pos (nI_le (Nat.zero_le j) hj)]
/-- the whole number of a cell -/
def nv (Y : Nat → Nat → Int32) (c k : Nat) : Nat := (Y c k).toNatClampNeg
def nbd (Y : Nat → Nat → Int32) (c k b : Nat) : Prop := Y c k = nI (nv Y c k) ∧ nv Y c k ≤ b
theorem nv_of {Y : Nat → Nat → Int32} {c k n : Nat} (h : Y c k = nI n) (hn : n < 2147483648) : nv Y c k = n := by unfold nv; rw [h]; exact nI_clamp hn
theorem nb_of {Y : Nat → Nat → Int32} {c k n b : Nat} (h : Y c k = nI n) (hb : n ≤ b) (hn : b < 2147483648) : nbd Y c k b := ⟨by rw [nv_of h (by omega)]; exact h, by rw [nv_of h (by omega)]; exact hb⟩
theorem nv_cl (Y : Nat → Nat → Int32) (c k : Nat) : (Y c k).toNatClampNeg = nv Y c k := rfl
theorem isB_0 : isB (nI 0) := Or.inl rfl
theorem isB_1 : isB (nI 1) := Or.inr rfl
theorem wr_n {x : ab_X} {c k c' : Nat} {v : Int32} (h : c' ≠ c) : (wr x c k v).1 c' = x.1 c' := wr_c h
theorem wr_k {x : ab_X} {c k k' : Nat} {v : Int32} (h : k' ≠ k) : (wr x c k v).1 c k' = x.1 c k' := wr_ck h
theorem wr_e {x : ab_X} {c k : Nat} {v : Int32} : (wr x c k v).1 c k = v := wr_s
