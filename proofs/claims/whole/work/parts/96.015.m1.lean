/-! TEXTS, 1: strings, words. -/
def kxI (s b : Nat) : Int32 := fstB (fun k => decide (sbyte (2000000 + s) k = nI b)) 0 (slen (2000000 + s))
def sbN (s i : Nat) : Nat := (sbyte (2000000 + s) i).toNatClampNeg
theorem t8_lo : ∀ b, b < 128 → (nI b).toInt8.toInt32 = nI b := by decide +kernel
theorem t8_hi : ∀ b, b < 128 → (nI (b + 128)).toInt8.toInt32 < 0 := by decide +kernel
theorem sby : ∀ s, s < 4 → ∀ k, k < slen (2000000 + s) → sbyte (2000000 + s) k = nI (sbN s k) ∧ sbN s k < 128 ∧ 97 ≤ sbN s k := by decide +kernel
theorem sln : ∀ s, s < 4 → slen (2000000 + s) ≤ 11 ∧ 5 ≤ slen (2000000 + s) := by decide +kernel
theorem sby_e {s k b : Nat} (hs : s < 4) (hk : k < slen (2000000 + s)) (hb : b < 256) : (sbyte (2000000 + s) k = (nI b).toInt8.toInt32) ↔ sbyte (2000000 + s) k = nI b := by
  obtain ⟨e, l, -⟩ := sby s hs k hk
  rw [e]
  by_cases q : b < 128
  · rw [t8_lo b q]
  · obtain ⟨c, rfl⟩ : ∃ c, b = c + 128 := ⟨b - 128, by omega⟩
    have h := t8_hi c (by omega)
    constructor
    · intro u
      rw [← u] at h
      exact absurd h (nI_pos (by omega))
    · intro u
      rw [q_eq (by omega) (by omega)] at u
      omega
theorem fstB_g {p : Nat → Bool} {c m : Nat} (hc : c < m) : fstB p c (m - c) = if p c then nI c else fstB p (c + 1) (m - (c + 1)) := by
  obtain ⟨k, hk⟩ : ∃ k, m - c = k + 1 := ⟨m - c - 1, by omega⟩
  rw [hk, show m - (c + 1) = k by omega]; rfl
theorem index_of {s b : Nat} (hs : s < 4) (hb : b < 256) {x : ab_X} {K : Int32 → Prop} (k : K (kxI s b)) : wJ0_indexOf_0f7a4 (1000000 + s) (nI b) x K := by
  obtain ⟨l1, l2⟩ := sln s hs
  have e2 : 1000000 + s + 1000000 = 2000000 + s := by omega
  unfold wJ0_indexOf_0f7a4 wJ0_indexOf_7cf53 wJ0_isLatin1_aae02 wJ0_length_8abf5 wJ0_coder_7d493 wJ1_indexOf_4cfef wJ1_canEncode_9a6ad
  rw [e2]
  have sh : ∀ n, n ≤ 11 → (Int32.ofNat n >>> ((0 : Int32) &&& 31)) = nI n := by decide +kernel
  have m1 : imax (0 : Int32) 0 = nI 0 := by decide
  have m2 : ∀ n, n ≤ 11 → imin (nI n) (Int32.ofNat n) = nI n := by decide +kernel
  have c1 : ¬ ((1 : Int32) = 0) := by decide
  have c2 : ¬ (nI b < 0) := nI_pos (by omega)
  have c3 : ¬ (255 < nI b) := by simp only [nI_lit]; rw [q_lt (by omega) (by omega)]; omega
  refine ⟨fun u => absurd u c1, fun _ => ⟨fun u => absurd rfl u, fun _ => ⟨fun u => absurd u c1, fun _ => ⟨fun u => absurd u c1, fun _ => ⟨fun u => absurd u c2, fun _ => ⟨fun u => absurd u c3, fun _ => ?_⟩⟩⟩⟩⟩⟩
  rw [sh _ l1, m1, m2 _ l1]
  have c4 : nI 0 < nI (slen (2000000 + s)) := by rw [q_lt (by omega) (by omega)]; omega
  refine ⟨fun _ => ⟨fun _ => ?_, fun u => absurd c4 u⟩, fun u => absurd u c1⟩
  unfold wJ1_indexOfChar_4cfef
  refine Lp1.ind (fun ii (a : Int32) => ∃ j, j ≤ slen (2000000 + s) ∧ ii = slen (2000000 + s) - j ∧ a = nI j ∧ fstB (fun k => decide (sbyte (2000000 + s) k = nI b)) j (slen (2000000 + s) - j) = kxI s b) (slen (2000000 + s)) ⟨0, by omega, by rw [Nat.sub_zero], rfl, by rw [Nat.sub_zero]; rfl⟩ ?_
  rintro ii a ⟨j, hj, hii, rfl, hf⟩ L hL
  unfold lJ1_indexOfChar_4cfef_7
  by_cases e : j = slen (2000000 + s)
  · rw [← e, Nat.sub_self] at hf
    have hf : -nI 1 = kxI s b := hf
    rw [← hf] at k
    rw [q_le (by omega) (by omega)]
    exact ⟨fun _ => k, fun u => absurd (by omega) u⟩
  · have hj2 : j < slen (2000000 + s) := by omega
    rw [fstB_g hj2] at hf
    rw [q_le (by omega) (by omega), cl_nI (by omega), sby_e hs hj2 hb]
    refine ⟨fun u => absurd u (by omega), fun _ => ⟨(vpi hj2 (by omega)).mpr trivial, fun q => ?_, fun q => ?_⟩⟩
    · rw [if_neg (by rw [decide_eq_false q]; decide)] at hf
      exact hL _ _ (by omega) ⟨j + 1, by omega, Eq.refl _, nI_add j 1, hf⟩
    · rw [if_pos (decide_eq_true q)] at hf
      rw [← hf] at k
      exact k
theorem kx_d : ∀ s, s < 4 → ∀ b, b < 256 → kxI s b = -nI 1 ∨ (∃ i, i < 11 ∧ kxI s b = nI i ∧ i < slen (2000000 + s) ∧ sbN s i = b ∧ 97 ≤ b ∧ b < 128) := by decide +kernel
/-- one word of a program: kind and value -/
def wd (k v : Nat) : Nat := k * 65536 + v
theorem wd_e {k v : Nat} (hk : k < 20) (hv : v < 65536) : (nI k <<< (nI 16 &&& nI 31)) ||| nI v = nI (wd k v) := by
  have e : nI k <<< (nI 16 &&& nI 31) = nI (k * 2 ^ 16) := pk_shlN _ 16 (by decide) (by omega)
  rw [e]
  apply Int32.toBitVec_inj.mp
  apply BitVec.eq_of_toNat_eq
  rw [Int32.toBitVec_or, BitVec.toNat_or, pk_tn (by omega), pk_tn (by omega), pk_tn (by unfold wd; omega)]
  have := Nat.two_pow_add_eq_or_of_lt (i := 16) hv k
  unfold wd
  rw [show k * 2 ^ 16 = 2 ^ 16 * k by omega, ← this]
theorem wd_k {k v : Nat} (hk : k < 20) (hv : v < 65536) : nI (wd k v) >>> (nI 16 &&& nI 31) = nI k := by
  rw [pk_shrN (by unfold wd; omega) _ 16 (by decide)]
  congr 1
  unfold wd; omega
theorem wd_v {k v : Nat} (hk : k < 20) (hv : v < 65536) : nI (wd k v) &&& nI 65535 = nI v := by
  rw [nx_and]
  have : ∀ n, n &&& 65535 = n % 65536 := fun n => Nat.and_two_pow_sub_one_eq_mod n 16
  rw [this]
  congr 1
  unfold wd; omega
theorem wd_dk {k v : Nat} (hv : v < 65536) : wd k v / 65536 = k := by unfold wd; omega
theorem wd_dv {k v : Nat} (hv : v < 65536) : wd k v % 65536 = v := by unfold wd; omega
/-- two values joined -/
def bdI (v : Int64) : Int32 := Int64.toInt32 (lmax (-1000000) (lmin 1000000 v))
def jl (k : Nat) (a b : Int32) : Int64 := if k = 2 then Int32.toInt64 a + Int32.toInt64 b else if k = 3 then Int32.toInt64 a - Int32.toInt64 b else if k = 4 then Int32.toInt64 a * Int32.toInt64 b else if k = 5 then (if a = b then 1 else 0) else if k = 6 then (if b ≤ a then 0 else 1) else if k = 7 then (if a ≤ b then 0 else 1) else if k = 9 then Int32.toInt64 (a &&& b) else Int32.toInt64 (a ||| b)
def jn (k : Nat) (a b : Int32) : Int32 := bdI (jl k a b)
theorem bdI_0 : bdI 0 = nI 0 := by decide
theorem bdI_1 : bdI 1 = nI 1 := by decide
theorem jn_B {k : Nat} {a b : Int32} (hk : k = 5 ∨ k = 6 ∨ k = 7) : isB (jn k a b) := by
  unfold jn jl
  rcases hk with rfl | rfl | rfl
  · simp only [Nat.reduceEqDiff, if_false, if_true]; split
    · rw [bdI_1]; exact isB_1
    · rw [bdI_0]; exact isB_0
  · simp only [Nat.reduceEqDiff, if_false, if_true]; split
    · rw [bdI_0]; exact isB_0
    · rw [bdI_1]; exact isB_1
  · simp only [Nat.reduceEqDiff, if_false, if_true]; split
    · rw [bdI_0]; exact isB_0
    · rw [bdI_1]; exact isB_1
theorem jn_9 {a b : Int32} (ha : isB a) (hb : isB b) : jn 9 a b = if a = nI 0 then nI 0 else if b = nI 0 then nI 0 else nI 1 := by
  rcases ha with rfl | rfl <;> rcases hb with rfl | rfl <;> decide
theorem jn_10 {a b : Int32} (ha : isB a) (hb : isB b) : jn 10 a b = if a = nI 0 then (if b = nI 0 then nI 0 else nI 1) else nI 1 := by
  rcases ha with rfl | rfl <;> rcases hb with rfl | rfl <;> decide
theorem jn_B9 {k : Nat} {a b : Int32} (hk : k = 9 ∨ k = 10) (ha : isB a) (hb : isB b) : isB (jn k a b) := by
  rcases hk with rfl | rfl
  · rw [jn_9 ha hb]; split
    · exact isB_0
    · split
      · exact isB_0
      · exact isB_1
  · rw [jn_10 ha hb]; split
    · split
      · exact isB_0
      · exact isB_1
    · exact isB_1
