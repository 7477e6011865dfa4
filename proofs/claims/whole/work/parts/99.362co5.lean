def eqL : List UInt8 → List UInt8 → Bool
  | [], [] => true
  | a :: as, b :: bs => (a == b) && eqL as bs
  | _, _ => false
theorem eqL_s : ∀ a b : List UInt8, eqL a b = true → a = b
  | [], [], _ => rfl
  | [], _ :: _, h => by cases h
  | _ :: _, [], h => by cases h
  | a :: as, b :: bs, h => by
    have h : ((a == b) && eqL as bs) = true := h
    rw [Bool.and_eq_true] at h
    rw [eq_of_beq h.1, eqL_s as bs h.2]
def ckC (w : Option Cond) (x : MethodName) (c : ByteArray) (n : Nat) : Bool := match w with
  | some (.code y b k none) => decide (y = x) && decide (k = n) && eqL b.data.toList c.data.toList
  | _ => false
theorem ckC_s {w : Option Cond} {x : MethodName} {c : ByteArray} {n : Nat} (h : ckC w x c n = true) : w = some (.code x c n none) := by
  unfold ckC at h
  split at h
  · next y b k =>
    simp only [Bool.and_eq_true, decide_eq_true_eq] at h
    obtain ⟨⟨h1, h2⟩, h3⟩ := h
    have e : b = c := ByteArray.ext (Array.toList_inj.mp (eqL_s _ _ h3))
    rw [h1, h2, e]
  · cases h
abbrev MX12_init : ab_M := (yX12_init, cX12_init, 3, none)
theorem okX12_init : ab_okM MX12_init 0 := ⟨by decide, ⟨by decide, by decide⟩, ab_in 1845 (ckC_s (by decide +kernel)) (by decide +kernel), ab_in 99 (by decide +kernel) (by decide +kernel), by decide +kernel, by decide⟩
