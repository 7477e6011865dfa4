theorem sw_in {v : Int32} (lo n : Nat) (hl : lo + n < 2 ^ 31) (h : ¬ (v.toInt < (lo : Int) ∨ ((lo + n : Nat) : Int) < v.toInt)) : ∃ k : Nat, k ≤ n ∧ v = Int32.ofNat (lo + k) := by
  have h1 : (lo : Int) ≤ v.toInt := by omega
  have h2 : v.toInt ≤ ((lo + n : Nat) : Int) := by omega
  refine ⟨v.toInt.toNat - lo, by omega, ?_⟩
  have hk : lo + (v.toInt.toNat - lo) = v.toInt.toNat := by omega
  rw [hk]
  refine Int32.toInt_inj.mp ?_
  have h3 : v.toInt.toNat < 2 ^ 31 := by omega
  rw [show Int32.ofNat v.toInt.toNat = nI v.toInt.toNat from rfl, nI_toInt h3]
  omega
def iushr (x y : Int32) : Int32 := (x.toUInt32 >>> (y.toUInt32 &&& Int32.toUInt32 31)).toInt32
