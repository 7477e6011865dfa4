/-! BITS (the family bt began as the text of the laws); one bit of a word. -/
def bt (x : Int32) (i : Nat) : Bool := x.toBitVec.getLsbD i
theorem b_ext {x y : Int32} (h : ∀ i, i < 32 → bt x i = bt y i) : x = y := Int32.toBitVec_inj.mp (BitVec.eq_of_getLsbD_eq (fun i hi => h i hi))
theorem b_or (x y : Int32) (i : Nat) : bt (x ||| y) i = (bt x i || bt y i) := by unfold bt; rw [Int32.toBitVec_or, BitVec.getLsbD_or]
theorem b_and (x y : Int32) (i : Nat) : bt (x &&& y) i = (bt x i && bt y i) := by unfold bt; rw [Int32.toBitVec_and, BitVec.getLsbD_and]
theorem b_xor (x y : Int32) (i : Nat) : bt (x ^^^ y) i = (bt x i ^^ bt y i) := by unfold bt; rw [Int32.toBitVec_xor, BitVec.getLsbD_xor]
theorem b_big {x : Int32} {i : Nat} (h : 32 ≤ i) : bt x i = false := BitVec.getLsbD_of_ge _ _ h
theorem b_m1 : ∀ i, i < 32 → bt (-1) i = true := by decide +kernel
theorem b_0 (i : Nat) : bt 0 i = false := BitVec.getLsbD_zero
theorem s_l : ∀ n, n < 32 → ((nI n &&& 31).toBitVec.smod 32).toNat = n := by decide +kernel
theorem s_u : ∀ n, n < 32 → (((nI n).toUInt32 &&& Int32.toUInt32 31).toBitVec % 32).toNat = n := by decide +kernel
theorem b_shl (n : Nat) (hn : n < 32) (x : Int32) {i : Nat} (hi : i < 32) : bt (x <<< (nI n &&& 31)) i = (decide (n ≤ i) && bt x (i - n)) := by
  unfold bt
  rw [Int32.toBitVec_shiftLeft]
  show (x.toBitVec <<< ((nI n &&& 31).toBitVec.smod 32).toNat).getLsbD i = _
  rw [s_l n hn, BitVec.getLsbD_shiftLeft]
  rcases Nat.lt_or_ge i n with h | h
  · simp [h, Nat.not_le.mpr h]
  · simp [hi, h, Nat.not_lt.mpr h]
theorem b_sshr (n : Nat) (hn : n < 32) (x : Int32) {i : Nat} (hi : i < 32) : bt (x >>> (nI n &&& 31)) i = if n + i < 32 then bt x (n + i) else bt x 31 := by
  unfold bt
  rw [Int32.toBitVec_shiftRight]
  show (x.toBitVec.sshiftRight ((nI n &&& 31).toBitVec.smod 32).toNat).getLsbD i = _
  rw [s_l n hn, BitVec.getLsbD_sshiftRight, BitVec.msb_eq_getLsbD_last]
  simp [hi]
theorem bt_one {c i : Nat} (hc : c < 32) (hi : i < 32) : bt (nI 1 <<< (nI c &&& nI 31)) i = decide (i = c) := by
  have e : (nI 1 <<< (nI c &&& nI 31)) = ((1 : Int32) <<< (nI c &&& 31)) := rfl
  rw [e, b_shl c hc _ hi]
  have f : ∀ j, j < 32 → bt 1 j = decide (j = 0) := by decide +kernel
  by_cases h : c ≤ i
  · rw [f (i - c) (by omega), decide_eq_true h, Bool.true_and]
    by_cases q : i = c
    · rw [decide_eq_true (by omega), decide_eq_true q]
    · rw [decide_eq_false (by omega), decide_eq_false q]
  · rw [decide_eq_false h, decide_eq_false (by omega), Bool.false_and]
theorem bt_1 {j : Nat} (hj : j < 32) : bt (nI 1) j = decide (j = 0) := (by decide +kernel : ∀ j, j < 32 → bt (nI 1) j = decide (j = 0)) j hj
theorem bit_e {x : Int32} {c : Nat} (hc : c < 32) : ((x >>> (nI c &&& nI 31)) &&& nI 1) = bb (bt x c) := by
  apply b_ext
  intro i hi
  have e : (x >>> (nI c &&& nI 31)) = x >>> (nI c &&& 31) := rfl
  rw [b_and, bt_1 hi, e, b_sshr c hc _ hi]
  by_cases h : i = 0
  · subst h
    rw [if_pos (by omega), Nat.add_zero, decide_eq_true rfl, Bool.and_true]
    cases q : bt x c
    · exact (b_0 0).symm
    · rw [bb_t, bt_1 (by decide)]; rfl
  · rw [decide_eq_false h, Bool.and_false]
    cases q : bt x c
    · exact (b_0 i).symm
    · rw [bb_t, bt_1 hi, decide_eq_false h]
theorem bb_0 {b : Bool} : bb b = nI 0 ↔ b = false := by cases b <;> simp [bb] <;> decide
theorem bb_1 {b : Bool} : bb b = nI 1 ↔ b = true := by cases b <;> simp [bb] <;> decide
theorem bt_z (i : Nat) : bt (nI 0) i = false := b_0 i
theorem bt_ext0 {x : Int32} : x = nI 0 ↔ ∀ i, i < 32 → bt x i = false := ⟨fun h i _ => by rw [h]; exact b_0 i, fun h => b_ext (fun i hi => by rw [h i hi]; exact (b_0 i).symm)⟩
