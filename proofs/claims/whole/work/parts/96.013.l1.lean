/-! HOW MANY BITS a word of twenty has. -/
theorem and256 {x y m n : Nat} (hx : x < 256) (hm : m < 256) : (x + 256 * y) &&& (m + 256 * n) = (x &&& m) + 256 * (y &&& n) := by
  apply Nat.eq_of_testBit_eq
  intro i
  have e1 : ∀ u v, u < 256 → (u + 256 * v).testBit i = if i < 8 then u.testBit i else v.testBit (i - 8) := by
    intro u v hu
    have := Nat.testBit_two_pow_mul_add v (i := 8) (b := u) hu i
    rw [← this, Nat.add_comm]
  have hxm : x &&& m < 256 := Nat.lt_of_le_of_lt Nat.and_le_left hx
  rw [Nat.testBit_and, e1 x y hx, e1 m n hm, e1 _ _ hxm]
  split
  · rw [Nat.testBit_and]
  · rw [Nat.testBit_and]
def bq1 (a : Nat) : Nat := a - (a / 2 &&& 85)
def bq2 (a : Nat) : Nat := (a &&& 51) + (a / 4 &&& 51)
def bq3 (a : Nat) : Nat := (a + a / 16) &&& 15
theorem bf1 : ∀ u, u < 128 → (u + 128) &&& 85 = u &&& 85 := by decide +kernel
theorem bf2 : ∀ u, u < 64 → (u + 64) &&& 51 = u &&& 51 ∧ (u + 128) &&& 51 = u &&& 51 ∧ (u + 192) &&& 51 = u &&& 51 := by decide +kernel
theorem bg1 : ∀ a, a < 256 → (a / 2 &&& 85) ≤ a ∧ bq1 a < 256 := by decide +kernel
theorem bg2 : ∀ a, a < 256 → bq2 (bq1 a) < 256 ∧ bq2 (bq1 a) % 16 ≤ 4 ∧ bq2 (bq1 a) / 16 ≤ 4 := by decide +kernel
theorem bg3 : ∀ a, a < 256 → bq3 (bq2 (bq1 a)) = cn (fun i => a.testBit i) 8 := by decide +kernel
theorem bst1 {a R M : Nat} (ha : a < 256) : ((a + 256 * R) / 2) &&& (85 + 256 * M) = (a / 2 &&& 85) + 256 * (R / 2 &&& M) := by
  have e : (a + 256 * R) / 2 = (a / 2 + 128 * (R % 2)) + 256 * (R / 2) := by omega
  rw [e, and256 (by omega) (by decide)]
  congr 1
  rcases Nat.mod_two_eq_zero_or_one R with h | h
  · rw [h]; rfl
  · rw [h]; exact bf1 _ (by omega)
theorem bst2 {a R M : Nat} (ha : a < 256) : ((a + 256 * R) / 4) &&& (51 + 256 * M) = (a / 4 &&& 51) + 256 * (R / 4 &&& M) := by
  have e : (a + 256 * R) / 4 = (a / 4 + 64 * (R % 4)) + 256 * (R / 4) := by omega
  rw [e, and256 (by omega) (by decide)]
  congr 1
  have := bf2 (a / 4) (by omega)
  obtain h | h | h | h : R % 4 = 0 ∨ R % 4 = 1 ∨ R % 4 = 2 ∨ R % 4 = 3 := by omega
  · rw [h]; rfl
  · rw [h]; exact this.1
  · rw [h]; exact this.2.1
  · rw [h]; exact this.2.2
theorem bf3 : ∀ w, w < 256 → w % 16 ≤ 4 → w / 16 ≤ 4 → ∀ e, e < 5 → (w + w / 16 + 16 * e) &&& 15 = bq3 w := by decide +kernel
theorem bst3 {w R M : Nat} (hw : w < 256) (h1 : w % 16 ≤ 4) (h2 : w / 16 ≤ 4) (hR : R % 16 ≤ 4) : ((w + 256 * R) + (w + 256 * R) / 16) &&& (15 + 256 * M) = bq3 w + 256 * ((R + R / 16) &&& M) := by
  have e : (w + 256 * R) + (w + 256 * R) / 16 = (w + w / 16 + 16 * (R % 16)) + 256 * (R + R / 16) := by omega
  rw [e, and256 (by omega) (by decide), bf3 w hw h1 h2 _ (by omega)]
def BF1 (N : Nat) : Nat := N - (N / 2 &&& 1431655765)
def BF2 (N : Nat) : Nat := (N &&& 858993459) + (N / 4 &&& 858993459)
def BF3 (N : Nat) : Nat := (N + N / 16) &&& 252645135
theorem BF1_e {a b c : Nat} (ha : a < 256) (hb : b < 256) (hc : c < 256) : BF1 (a + 256 * (b + 256 * c)) = bq1 a + 256 * (bq1 b + 256 * bq1 c) := by
  unfold BF1
  rw [show (1431655765 : Nat) = 85 + 256 * (85 + 256 * (85 + 256 * 85)) from rfl, bst1 ha, bst1 hb]
  have e : c / 2 &&& (85 + 256 * 85) = c / 2 &&& 85 := by
    have := and256 (x := c / 2) (y := 0) (m := 85) (n := 85) (by omega) (by decide)
    rw [Nat.mul_zero, Nat.add_zero, Nat.zero_and, Nat.mul_zero, Nat.add_zero] at this
    exact this
  rw [e]
  have a1 := (bg1 a ha).1
  have b1 := (bg1 b hb).1
  have c1 := (bg1 c hc).1
  unfold bq1
  omega
theorem BF2_e {a b c : Nat} (ha : a < 256) (hb : b < 256) (hc : c < 256) : BF2 (a + 256 * (b + 256 * c)) = bq2 a + 256 * (bq2 b + 256 * bq2 c) := by
  unfold BF2
  rw [show (858993459 : Nat) = 51 + 256 * (51 + 256 * (51 + 256 * 51)) from rfl, bst2 ha, bst2 hb, and256 ha (by decide), and256 hb (by decide)]
  have e : ∀ d, d < 256 → d &&& (51 + 256 * 51) = d &&& 51 := by
    intro d hd
    have := and256 (x := d) (y := 0) (m := 51) (n := 51) hd (by decide)
    rw [Nat.mul_zero, Nat.add_zero, Nat.zero_and, Nat.mul_zero, Nat.add_zero] at this
    exact this
  rw [e c hc, e (c / 4) (by omega)]
  unfold bq2
  omega
theorem BF3_e {a b c : Nat} (ha : a < 256) (hb : b < 256) (hc : c < 256) (a1 : a % 16 ≤ 4) (a2 : a / 16 ≤ 4) (b1 : b % 16 ≤ 4) (b2 : b / 16 ≤ 4) (c1 : c % 16 ≤ 4) (c2 : c / 16 ≤ 4) : BF3 (a + 256 * (b + 256 * c)) = bq3 a + 256 * (bq3 b + 256 * bq3 c) := by
  unfold BF3
  rw [show (252645135 : Nat) = 15 + 256 * (15 + 256 * (15 + 256 * 15)) from rfl, bst3 ha a1 a2 (by omega), bst3 hb b1 b2 (by omega)]
  have e : (c + c / 16) &&& (15 + 256 * 15) = (c + c / 16) &&& 15 := by
    have := and256 (x := c + c / 16) (y := 0) (m := 15) (n := 15) (by omega) (by decide)
    rw [Nat.mul_zero, Nat.add_zero, Nat.zero_and, Nat.mul_zero, Nat.add_zero] at this
    exact this
  rw [e]
  rfl
theorem cn_add (p : Nat → Bool) (m : Nat) : ∀ n, cn p (m + n) = cn p m + cn (fun i => p (m + i)) n
  | 0 => rfl
  | n + 1 => by
    show cn p (m + n) + (if p (m + n) then 1 else 0) = cn p m + (cn (fun i => p (m + i)) n + (if p (m + n) then 1 else 0))
    rw [cn_add p m n]; omega
/-- the number that the machine's bitCount answers -/
theorem pop20 {N : Nat} (h : N < 1048576) : (let i := BF3 (BF2 (BF1 N)); let j := i + i / 256; (j + j / 65536) % 64) = cn (fun i => N.testBit i) 20 := by
  obtain ⟨a, b, c, ha, hb, hc, e⟩ : ∃ a b c, a < 256 ∧ b < 256 ∧ c < 16 ∧ N = a + 256 * (b + 256 * c) := ⟨N % 256, N / 256 % 256, N / 65536, by omega, by omega, by omega, by omega⟩
  have c256 : c < 256 := by omega
  obtain ⟨x1, x2⟩ := bg1 a ha
  obtain ⟨y1, y2⟩ := bg1 b hb
  obtain ⟨z1, z2⟩ := bg1 c c256
  obtain ⟨a3, a4, a5⟩ := bg2 a ha
  obtain ⟨b3, b4, b5⟩ := bg2 b hb
  obtain ⟨c3, c4, c5⟩ := bg2 c c256
  have r : BF3 (BF2 (BF1 N)) = cn (fun i => a.testBit i) 8 + 256 * (cn (fun i => b.testBit i) 8 + 256 * cn (fun i => c.testBit i) 8) := by
    rw [e, BF1_e ha hb c256, BF2_e x2 y2 z2, BF3_e a3 b3 c3 a4 a5 b4 b5 c4 c5, bg3 a ha, bg3 b hb, bg3 c c256]
  have l1 := cn_le (fun i => a.testBit i) 8
  have l2 := cn_le (fun i => b.testBit i) 8
  have l3 := cn_le (fun i => c.testBit i) 8
  have t1 : ∀ u v i, u < 256 → (u + 256 * v).testBit i = if i < 8 then u.testBit i else v.testBit (i - 8) := by
    intro u v i hu
    have := Nat.testBit_two_pow_mul_add v (i := 8) (b := u) hu i
    rw [← this, Nat.add_comm]
  have s1 : cn (fun i => N.testBit i) 20 = cn (fun i => a.testBit i) 8 + (cn (fun i => b.testBit i) 8 + cn (fun i => c.testBit i) 4) := by
    rw [show (20 : Nat) = 8 + (8 + 4) from rfl, cn_add, cn_add]
    congr 1
    · exact cn_congr (fun i hi => by rw [e, t1 _ _ _ ha, if_pos hi])
    · congr 1
      · exact cn_congr (fun i hi => by show N.testBit (8 + i) = _; rw [e, t1 _ _ _ ha, if_neg (by omega), show 8 + i - 8 = i by omega, t1 _ _ _ hb, if_pos hi])
      · exact cn_congr (fun i hi => by show N.testBit (8 + (8 + i)) = _; rw [e, t1 _ _ _ ha, if_neg (by omega), show 8 + (8 + i) - 8 = 8 + i by omega, t1 _ _ _ hb, if_neg (by omega), show 8 + i - 8 = i by omega])
  have s2 : cn (fun i => c.testBit i) 8 = cn (fun i => c.testBit i) 4 := by
    have : ∀ c, c < 16 → cn (fun i => c.testBit i) 8 = cn (fun i => c.testBit i) 4 := by decide +kernel
    exact this c hc
  rw [s1, ← s2]
  show (BF3 (BF2 (BF1 N)) + BF3 (BF2 (BF1 N)) / 256 + (BF3 (BF2 (BF1 N)) + BF3 (BF2 (BF1 N)) / 256) / 65536) % 64 = _
  rw [r]
  revert l1 l2 l3
  generalize cn (fun i => a.testBit i) 8 = A
  generalize cn (fun i => b.testBit i) 8 = B
  generalize cn (fun i => c.testBit i) 8 = C
  intro l1 l2 l3
  have d1 : (A + 256 * (B + 256 * C)) / 256 = B + 256 * C := by omega
  rw [d1]
  have d2 : (A + 256 * (B + 256 * C) + (B + 256 * C)) / 65536 = C := by omega
  rw [d2]
  omega
