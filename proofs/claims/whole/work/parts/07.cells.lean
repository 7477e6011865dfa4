/-! THE CELLS as the constructors make them, and states over them: whole numbers, doubles, longs, and the three references that change. -/
def SH_0 : List ab_S := [.inl 11, .inl 6, .inr (0, 40), .inr (0, 40), .inr (0, 40), .inr (1, 40), .inr (0, 160), .inr (0, 400), .inr (0, 601), .inl 10, .inr (5, 12), .inl 3, .inr (0, 288), .inr (0, 288), .inr (0, 288), .inr (0, 72), .inr (1, 72), .inr (1, 288), .inr (0, 72), .inl 3, .inr (0, 288), .inr (0, 288), .inr (0, 288), .inr (0, 72), .inr (1, 72), .inr (1, 288), .inr (0, 72), .inr (0, 6), .inr (0, 20), .inr (0, 20), .inl 4, .inr (0, 6), .inr (0, 6), .inl 4, .inr (0, 6), .inr (0, 6), .inl 4, .inr (0, 6), .inr (0, 6), .inl 4, .inr (0, 6), .inr (0, 6), .inl 4, .inr (0, 6), .inr (0, 6), .inl 4, .inr (0, 6), .inr (0, 6), .inl 4, .inr (0, 6), .inr (0, 6), .inl 4, .inr (0, 6), .inr (0, 6), .inl 4, .inr (0, 6), .inr (0, 6), .inl 4, .inr (0, 6), .inr (0, 6)]
def SH_1 : List ab_S := [.inl 4, .inr (0, 6), .inr (0, 6), .inl 4, .inr (0, 6), .inr (0, 6), .inl 0, .inr (6, 16), .inr (7, 60), .inl 9, .inr (0, 200), .inr (0, 40), .inr (0, 5), .inr (0, 40), .inl 9, .inr (0, 200), .inr (0, 40), .inr (0, 5), .inr (0, 40), .inr (0, 11), .inr (0, 16), .inr (0, 6), .inl 2, .inl 2, .inl 2, .inl 2, .inl 2, .inl 2, .inl 2, .inl 2, .inl 2, .inl 2, .inl 2, .inl 2, .inl 2, .inl 2, .inl 2, .inl 2, .inl 1, .inl 1, .inl 1, .inl 1, .inl 1, .inl 1, .inl 1, .inl 1, .inl 1, .inl 1, .inl 1, .inl 1, .inl 1, .inl 1, .inl 1, .inl 1, .inl 1, .inl 1, .inl 1, .inl 1, .inl 1, .inl 1]
def SH_2 : List ab_S := [.inl 1, .inl 1, .inl 1, .inl 1, .inl 1, .inl 1, .inl 1, .inl 1, .inl 1, .inl 1, .inl 1, .inl 1, .inl 1, .inl 1, .inl 1, .inl 1, .inl 1, .inl 1, .inl 1, .inl 1, .inl 1, .inl 1, .inl 1, .inl 1, .inl 1, .inl 1, .inl 1, .inl 1, .inl 1, .inl 1, .inl 1, .inl 1, .inl 1, .inl 1, .inl 1, .inl 1, .inl 1, .inl 1, .inl 8, .inr (0, 200), .inl 9, .inr (0, 200), .inr (0, 40), .inr (0, 5), .inr (0, 40), .inl 5, .inr (8, 12), .inr (0, 12), .inr (0, 12), .inr (0, 100), .inr (0, 100), .inr (0, 100), .inr (0, 100), .inr (0, 11), .inl 9, .inr (0, 200), .inr (0, 40), .inr (0, 5), .inr (0, 40), .inl 9]
def SH_3 : List ab_S := [.inr (0, 200), .inr (0, 40), .inr (0, 5), .inr (0, 40), .inl 9, .inr (0, 200), .inr (0, 40), .inr (0, 5), .inr (0, 40), .inl 9, .inr (0, 200), .inr (0, 40), .inr (0, 5), .inr (0, 40), .inl 9, .inr (0, 200), .inr (0, 40), .inr (0, 5), .inr (0, 40), .inl 9, .inr (0, 200), .inr (0, 40), .inr (0, 5), .inr (0, 40), .inl 9, .inr (0, 200), .inr (0, 40), .inr (0, 5), .inr (0, 40), .inl 9, .inr (0, 200), .inr (0, 40), .inr (0, 5), .inr (0, 40), .inl 9, .inr (0, 200), .inr (0, 40), .inr (0, 5), .inr (0, 40), .inl 9, .inr (0, 200), .inr (0, 40), .inr (0, 5), .inr (0, 40), .inl 9, .inr (0, 200), .inr (0, 40), .inr (0, 5), .inr (0, 40), .inl 9, .inr (0, 200), .inr (0, 40), .inr (0, 5), .inr (0, 40), .inl 7, .inr (0, 8), .inr (0, 8), .inr (0, 256), .inr (0, 2048), .inr (0, 72)]
def SH_4 : List ab_S := [.inr (0, 8), .inr (0, 20), .inr (0, 20), .inr (0, 6), .inr (1, 6), .inr (0, 120), .inl 12, .inr (0, 40), .inr (0, 40), .inr (0, 40), .inr (0, 160), .inr (0, 400), .inr (1, 40), .inr (1, 12020), .inr (0, 12), .inr (0, 12), .inr (0, 12), .inr (0, 12), .inr (0, 12), .inr (0, 12), .inr (0, 12), .inr (0, 12), .inr (0, 12), .inr (0, 12), .inr (0, 12), .inr (1, 12), .inr (0, 288), .inr (0, 288), .inr (0, 288), .inr (0, 288), .inr (0, 288), .inr (0, 72), .inr (0, 72), .inr (0, 72), .inr (1, 72), .inr (0, 6), .inr (0, 20), .inr (0, 20), .inr (0, 6), .inr (0, 16), .inr (0, 16), .inr (0, 16), .inr (0, 16), .inr (0, 16), .inr (0, 16), .inr (0, 16), .inr (0, 16), .inr (0, 16), .inr (0, 16), .inr (0, 16), .inr (0, 16), .inr (0, 16), .inr (0, 16), .inr (0, 16), .inr (0, 16), .inr (0, 16), .inr (0, 16), .inr (0, 16), .inr (1, 16), .inr (2, 200)]
def SH_5 : List ab_S := [.inr (2, 4000), .inr (2, 2400), .inr (2, 200), .inr (0, 20), .inr (0, 12), .inr (0, 12), .inr (0, 12), .inr (0, 128), .inr (0, 5), .inr (0, 200), .inr (0, 60), .inr (0, 60), .inr (0, 60), .inr (0, 60), .inr (0, 60), .inr (0, 60), .inr (0, 60), .inr (0, 60), .inr (1, 60), .inr (0, 5), .inr (0, 100), .inr (0, 100), .inr (0, 100), .inr (0, 100), .inr (0, 12), .inr (0, 12), .inr (0, 12), .inr (1, 12), .inr (0, 20), .inr (4, 120), .inr (4, 20), .inr (0, 6), .inr (1, 6), .inr (0, 288), .inr (0, 288), .inr (0, 72), .inr (1, 72), .inr (3, 1)]
def SHT : List ab_S := SH_0 ++ (SH_1 ++ (SH_2 ++ (SH_3 ++ (SH_4 ++ (SH_5)))))
def SH (c : Nat) : ab_S := SHT.getD c (.inl 0)
def RF_0 : List (List (Option Nat)) := [[some 1, some 9, some 66, some 158, some 165, some 234, some 243, some 244, some 245], [some 2, some 3, some 4, some 5, some 6, some 7, some 8], [], [], [], [], [], [], [], [some 1, some 10, none, some 11, some 19, some 27, none, some 28, some 29], [], [some 12, some 13, some 14, some 15, some 16, some 17, some 18], [], [], [], [], [], [], [], [some 20, some 21, some 22, some 23, some 24, some 25, some 26], [], [], [], [], [], [], [], [], [], [], [none, none, none, none, none, none, none, none, none, none, none, none, some 31, some 32], [], [], [none, none, none, none, none, none, none, none, none, none, none, none, some 34, some 35], [], [], [none, none, none, none, none, none, none, none, none, none, none, none, some 37, some 38], [], [], [none, none, none, none, none, none, none, none, none, none, none, none, some 40, some 41], [], [], [none, none, none, none, none, none, none, none, none, none, none, none, some 43, some 44], [], [], [none, none, none, none, none, none, none, none, none, none, none, none, some 46, some 47], [], [], [none, none, none, none, none, none, none, none, none, none, none, none, some 49, some 50], [], [], [none, none, none, none, none, none, none, none, none, none, none, none, some 52, some 53], [], [], [none, none, none, none, none, none, none, none, none, none, none, none, some 55, some 56], [], [], [none, none, none, none, none, none, none, none, none, none, none, none, some 58, some 59], [], []]
def RF_1 : List (List (Option Nat)) := [[none, none, none, none, none, none, none, none, none, none, none, none, some 61, some 62], [], [], [none, none, none, none, none, none, none, none, none, none, none, none, some 64, some 65], [], [], [some 1, some 9, some 67, none, some 68, none, some 69, none, some 74, some 79, some 80, some 81], [], [], [some 70, none, some 71, none, none, none, none, some 72, some 73], [], [], [], [], [some 75, none, some 76, none, none, none, none, some 77, some 78], [], [], [], [], [], [], [], [], [], [], [], [], [], [], [], [], [], [], [], [], [], [], [], [], [], [], [], [], [], [], [], [], [], [], [], [], [], [], [], [], [], [], [], [], []]
def RF_2 : List (List (Option Nat)) := [[], [], [], [], [], [], [], [], [], [], [], [], [], [], [], [], [], [], [], [], [], [], [], [], [], [], [], [], [], [], [], [], [], [], [], [], [], [], [some 159, none, none, none, some 160], [], [some 161, none, some 162, none, none, none, none, some 163, some 164], [], [], [], [], [some 9, some 166, some 167, some 168, none, some 169, some 170, some 171, some 172, none, some 173], [], [], [], [], [], [], [], [], [some 175, none, some 176, none, none, none, none, some 177, some 178], [], [], [], [], [some 180, none, some 181, none, none, none, none, some 182, some 183]]
def RF_3 : List (List (Option Nat)) := [[], [], [], [], [some 185, none, some 186, none, none, none, none, some 187, some 188], [], [], [], [], [some 190, none, some 191, none, none, none, none, some 192, some 193], [], [], [], [], [some 195, none, some 196, none, none, none, none, some 197, some 198], [], [], [], [], [some 200, none, some 201, none, none, none, none, some 202, some 203], [], [], [], [], [some 205, none, some 206, none, none, none, none, some 207, some 208], [], [], [], [], [some 210, none, some 211, none, none, none, none, some 212, some 213], [], [], [], [], [some 215, none, some 216, none, none, none, none, some 217, some 218], [], [], [], [], [some 220, none, some 221, none, none, none, none, some 222, some 223], [], [], [], [], [some 225, none, some 226, none, none, none, none, some 227, some 228], [], [], [], [], [some 230, none, some 231, none, none, none, none, some 232, some 233], [], [], [], [], [some 1, some 9, some 165, some 235, some 236, none, some 237, some 238, none, some 239, none, none, none, some 240, some 241, some 242], [], [], [], [], []]
def RF_4 : List (List (Option Nat)) := [[], [], [], [], [], [], [none, none, some 247, some 248, some 249, some 250, some 251, some 252, some 253, none, some 254, some 255, some 256, some 257, some 258, some 259, some 260, some 261, some 262, some 263, some 264, some 265, some 266, some 267, some 268, some 269, some 270, some 271, some 272, some 273, some 274, none, some 275, some 276, some 277, some 278, some 279, some 280, some 281, some 282, some 283, some 284, some 285, some 286, some 287, some 288, some 289, some 290, some 291, some 292, some 293, some 294, some 295, some 296, some 297, some 298, none, none, none, some 299, some 300, some 301, some 302, some 303, some 304, some 305, some 306, some 307, some 308, some 309, none, none, none, none, none, none, some 299, none, none, none, none, none, none, some 310, some 311, some 312, some 313, some 314, some 315, some 316, some 317, some 318, none, none, some 319, some 320, some 321, some 322, some 323, none, some 324, some 325, some 326, some 327, none, none, none, none, none, none, none, some 328, some 329, some 330, some 331, some 332, none, some 333, some 334, some 335, some 336], [], [], [], [], [], [], [], [], [], [], [], [], [], [], [], [], [], [], [], [], [], [], [], [], [], [], [], [], [], [], [], [], [], [], [], [], [], [], [], [], [], [], [], [], [], [], [], [], [], [], [], [], []]
def RF_5 : List (List (Option Nat)) := [[], [], [], [], [], [], [], [], [], [], [], [], [], [], [], [], [], [], [], [], [], [], [], [], [], [], [], [], [], [], [], [], [], [], [], [], [], []]
def RFT : List (List (Option Nat)) := RF_0 ++ (RF_1 ++ (RF_2 ++ (RF_3 ++ (RF_4 ++ (RF_5)))))
def RF (lt mt mk : Nat) (c k : Nat) : Option Nat := if c = 10 then (if k < 12 then some (30 + 3 * k) else none) else if c = 67 then (if k < 16 then some (82 + k) else none) else if c = 68 then (if k < 60 then some (98 + k) else none) else if c = 166 then (if k < 12 then some (174 + 5 * k) else none) else if c = 158 ∧ k = 3 then some lt else if c = 246 ∧ k = 76 then some mt else if c = 246 ∧ k = 77 then some mk else (RFT.getD c []).getD k none
abbrev ab_X : Type := (Nat → Nat → Int32) × (Nat → Nat → UInt64) × (Nat → Nat → Int64) × Nat × Nat × Nat
def aS (x : ab_X) : ab_St := (338, SH, x.1, x.2.1, x.2.2.1, RF x.2.2.2.1 x.2.2.2.2.1 x.2.2.2.2.2)
def wr (x : ab_X) (c k : Nat) (v : Int32) : ab_X := ((fun j => if j = c then upd (x.1 c) k v else x.1 j), x.2)
def wrd (x : ab_X) (c k : Nat) (v : UInt64) : ab_X := (x.1, (fun j => if j = c then vf_upd (x.2.1 c) k v else x.2.1 j), x.2.2)
def wrl (x : ab_X) (c k : Nat) (v : Int64) : ab_X := (x.1, x.2.1, (fun j => if j = c then vp_updL (x.2.2.1 c) k v else x.2.2.1 j), x.2.2.2)
/-- what a method's end says: whole number and state; whole number, the state as it was; state alone; a reference .. -/
def liI (K : Int32 → ab_X → Prop) : Option Value → ab_St → Prop := fun r σ => ∃ (v : Int32) (y : ab_X), r = some (.int v) ∧ σ = aS y ∧ K v y
def liP (x : ab_X) (k : Int32 → Prop) : Option Value → ab_St → Prop := fun r σ => ∃ v : Int32, r = some (.int v) ∧ σ = aS x ∧ k v
def liV (K : ab_X → Prop) : Option Value → ab_St → Prop := fun r σ => ∃ y : ab_X, r = none ∧ σ = aS y ∧ K y
def liR (K : Nat → ab_X → Prop) : Option Value → ab_St → Prop := fun r σ => ∃ (v : Nat) (y : ab_X), r = some (.ref v) ∧ σ = aS y ∧ K v y
def liL (x : ab_X) (k : Int64 → Prop) : Option Value → ab_St → Prop := fun r σ => ∃ v : Int64, r = some (.long v) ∧ σ = aS x ∧ k v
def liD (x : ab_X) (k : UInt64 → Prop) : Option Value → ab_St → Prop := fun r σ => ∃ v : UInt64, r = some (.double v) ∧ σ = aS x ∧ k v
def liDI (K : UInt64 → ab_X → Prop) : Option Value → ab_St → Prop := fun r σ => ∃ (v : UInt64) (y : ab_X), r = some (.double v) ∧ σ = aS y ∧ K v y
def isB (v : Int32) : Prop := v = 0 ∨ v = 1
theorem isB0 : isB 0 := Or.inl rfl
theorem isB1 : isB 1 := Or.inr rfl
theorem isB.n {v : Int32} (h : isB v) : narrow .boolean (.int v) = .int v := by rcases h with rfl | rfl <;> rfl
theorem isB.f {v : Int32} (h : isB v) : fits .boolean (.int v) = true := by rcases h with rfl | rfl <;> rfl
theorem isB.v {v : Int32} (h : isB v) : vp_nar .boolean v = v := by rcases h with rfl | rfl <;> rfl
def imin (x y : Int32) : Int32 := if y < x then y else x
def imax (x y : Int32) : Int32 := if x < y then y else x
/-- a loop over 1 changing things: an invariant, and a number that falls -/
def Lp1 {A0 : Type} (F : (A0 → Prop) → A0 → Prop) (a0 : A0) : Prop := ∃ (I : A0 → Prop) (μ : A0 → Nat), I a0 ∧ ∀ (b0 : A0), I b0 → F (fun a0 => I a0 ∧ μ a0 < μ b0) b0
theorem Lp1.use {A0 : Type} {F : (A0 → Prop) → A0 → Prop} {P : A0 → Prop} (hs : ∀ (L : A0 → Prop) (b0 : A0), (∀ (a0 : A0), L a0 → P a0) → F L b0 → P b0) (a0 : A0) (h : Lp1 F a0) : P a0 := by
  obtain ⟨I, μ, h0, h1⟩ := h
  have key : ∀ (n : Nat) (b0 : A0), μ b0 < n → I b0 → P b0 := by
    intro n
    induction n with
    | zero => intro b0 hn; omega
    | succ n ih => intro b0 hn hi; exact hs _ b0 (fun a0 ha => ih a0 (by omega) ha.1) (h1 b0 hi)
  exact key (μ a0 + 1) a0 (Nat.lt_succ_self _) h0
/-- a loop over 2 changing things: an invariant, and a number that falls -/
def Lp2 {A0 A1 : Type} (F : (A0 → A1 → Prop) → A0 → A1 → Prop) (a0 : A0) (a1 : A1) : Prop := ∃ (I : A0 → A1 → Prop) (μ : A0 → A1 → Nat), I a0 a1 ∧ ∀ (b0 : A0) (b1 : A1), I b0 b1 → F (fun a0 a1 => I a0 a1 ∧ μ a0 a1 < μ b0 b1) b0 b1
theorem Lp2.use {A0 A1 : Type} {F : (A0 → A1 → Prop) → A0 → A1 → Prop} {P : A0 → A1 → Prop} (hs : ∀ (L : A0 → A1 → Prop) (b0 : A0) (b1 : A1), (∀ (a0 : A0) (a1 : A1), L a0 a1 → P a0 a1) → F L b0 b1 → P b0 b1) (a0 : A0) (a1 : A1) (h : Lp2 F a0 a1) : P a0 a1 := by
  obtain ⟨I, μ, h0, h1⟩ := h
  have key : ∀ (n : Nat) (b0 : A0) (b1 : A1), μ b0 b1 < n → I b0 b1 → P b0 b1 := by
    intro n
    induction n with
    | zero => intro b0 b1 hn; omega
    | succ n ih => intro b0 b1 hn hi; exact hs _ b0 b1 (fun a0 a1 ha => ih a0 a1 (by omega) ha.1) (h1 b0 b1 hi)
  exact key (μ a0 a1 + 1) a0 a1 (Nat.lt_succ_self _) h0
/-- a loop over 3 changing things: an invariant, and a number that falls -/
def Lp3 {A0 A1 A2 : Type} (F : (A0 → A1 → A2 → Prop) → A0 → A1 → A2 → Prop) (a0 : A0) (a1 : A1) (a2 : A2) : Prop := ∃ (I : A0 → A1 → A2 → Prop) (μ : A0 → A1 → A2 → Nat), I a0 a1 a2 ∧ ∀ (b0 : A0) (b1 : A1) (b2 : A2), I b0 b1 b2 → F (fun a0 a1 a2 => I a0 a1 a2 ∧ μ a0 a1 a2 < μ b0 b1 b2) b0 b1 b2
theorem Lp3.use {A0 A1 A2 : Type} {F : (A0 → A1 → A2 → Prop) → A0 → A1 → A2 → Prop} {P : A0 → A1 → A2 → Prop} (hs : ∀ (L : A0 → A1 → A2 → Prop) (b0 : A0) (b1 : A1) (b2 : A2), (∀ (a0 : A0) (a1 : A1) (a2 : A2), L a0 a1 a2 → P a0 a1 a2) → F L b0 b1 b2 → P b0 b1 b2) (a0 : A0) (a1 : A1) (a2 : A2) (h : Lp3 F a0 a1 a2) : P a0 a1 a2 := by
  obtain ⟨I, μ, h0, h1⟩ := h
  have key : ∀ (n : Nat) (b0 : A0) (b1 : A1) (b2 : A2), μ b0 b1 b2 < n → I b0 b1 b2 → P b0 b1 b2 := by
    intro n
    induction n with
    | zero => intro b0 b1 b2 hn; omega
    | succ n ih => intro b0 b1 b2 hn hi; exact hs _ b0 b1 b2 (fun a0 a1 a2 ha => ih a0 a1 a2 (by omega) ha.1) (h1 b0 b1 b2 hi)
  exact key (μ a0 a1 a2 + 1) a0 a1 a2 (Nat.lt_succ_self _) h0
/-- a loop over 4 changing things: an invariant, and a number that falls -/
def Lp4 {A0 A1 A2 A3 : Type} (F : (A0 → A1 → A2 → A3 → Prop) → A0 → A1 → A2 → A3 → Prop) (a0 : A0) (a1 : A1) (a2 : A2) (a3 : A3) : Prop := ∃ (I : A0 → A1 → A2 → A3 → Prop) (μ : A0 → A1 → A2 → A3 → Nat), I a0 a1 a2 a3 ∧ ∀ (b0 : A0) (b1 : A1) (b2 : A2) (b3 : A3), I b0 b1 b2 b3 → F (fun a0 a1 a2 a3 => I a0 a1 a2 a3 ∧ μ a0 a1 a2 a3 < μ b0 b1 b2 b3) b0 b1 b2 b3
theorem Lp4.use {A0 A1 A2 A3 : Type} {F : (A0 → A1 → A2 → A3 → Prop) → A0 → A1 → A2 → A3 → Prop} {P : A0 → A1 → A2 → A3 → Prop} (hs : ∀ (L : A0 → A1 → A2 → A3 → Prop) (b0 : A0) (b1 : A1) (b2 : A2) (b3 : A3), (∀ (a0 : A0) (a1 : A1) (a2 : A2) (a3 : A3), L a0 a1 a2 a3 → P a0 a1 a2 a3) → F L b0 b1 b2 b3 → P b0 b1 b2 b3) (a0 : A0) (a1 : A1) (a2 : A2) (a3 : A3) (h : Lp4 F a0 a1 a2 a3) : P a0 a1 a2 a3 := by
  obtain ⟨I, μ, h0, h1⟩ := h
  have key : ∀ (n : Nat) (b0 : A0) (b1 : A1) (b2 : A2) (b3 : A3), μ b0 b1 b2 b3 < n → I b0 b1 b2 b3 → P b0 b1 b2 b3 := by
    intro n
    induction n with
    | zero => intro b0 b1 b2 b3 hn; omega
    | succ n ih => intro b0 b1 b2 b3 hn hi; exact hs _ b0 b1 b2 b3 (fun a0 a1 a2 a3 ha => ih a0 a1 a2 a3 (by omega) ha.1) (h1 b0 b1 b2 b3 hi)
  exact key (μ a0 a1 a2 a3 + 1) a0 a1 a2 a3 (Nat.lt_succ_self _) h0
/-- a loop over 5 changing things: an invariant, and a number that falls -/
def Lp5 {A0 A1 A2 A3 A4 : Type} (F : (A0 → A1 → A2 → A3 → A4 → Prop) → A0 → A1 → A2 → A3 → A4 → Prop) (a0 : A0) (a1 : A1) (a2 : A2) (a3 : A3) (a4 : A4) : Prop := ∃ (I : A0 → A1 → A2 → A3 → A4 → Prop) (μ : A0 → A1 → A2 → A3 → A4 → Nat), I a0 a1 a2 a3 a4 ∧ ∀ (b0 : A0) (b1 : A1) (b2 : A2) (b3 : A3) (b4 : A4), I b0 b1 b2 b3 b4 → F (fun a0 a1 a2 a3 a4 => I a0 a1 a2 a3 a4 ∧ μ a0 a1 a2 a3 a4 < μ b0 b1 b2 b3 b4) b0 b1 b2 b3 b4
theorem Lp5.use {A0 A1 A2 A3 A4 : Type} {F : (A0 → A1 → A2 → A3 → A4 → Prop) → A0 → A1 → A2 → A3 → A4 → Prop} {P : A0 → A1 → A2 → A3 → A4 → Prop} (hs : ∀ (L : A0 → A1 → A2 → A3 → A4 → Prop) (b0 : A0) (b1 : A1) (b2 : A2) (b3 : A3) (b4 : A4), (∀ (a0 : A0) (a1 : A1) (a2 : A2) (a3 : A3) (a4 : A4), L a0 a1 a2 a3 a4 → P a0 a1 a2 a3 a4) → F L b0 b1 b2 b3 b4 → P b0 b1 b2 b3 b4) (a0 : A0) (a1 : A1) (a2 : A2) (a3 : A3) (a4 : A4) (h : Lp5 F a0 a1 a2 a3 a4) : P a0 a1 a2 a3 a4 := by
  obtain ⟨I, μ, h0, h1⟩ := h
  have key : ∀ (n : Nat) (b0 : A0) (b1 : A1) (b2 : A2) (b3 : A3) (b4 : A4), μ b0 b1 b2 b3 b4 < n → I b0 b1 b2 b3 b4 → P b0 b1 b2 b3 b4 := by
    intro n
    induction n with
    | zero => intro b0 b1 b2 b3 b4 hn; omega
    | succ n ih => intro b0 b1 b2 b3 b4 hn hi; exact hs _ b0 b1 b2 b3 b4 (fun a0 a1 a2 a3 a4 ha => ih a0 a1 a2 a3 a4 (by omega) ha.1) (h1 b0 b1 b2 b3 b4 hi)
  exact key (μ a0 a1 a2 a3 a4 + 1) a0 a1 a2 a3 a4 (Nat.lt_succ_self _) h0
/-- a loop over 6 changing things: an invariant, and a number that falls -/
def Lp6 {A0 A1 A2 A3 A4 A5 : Type} (F : (A0 → A1 → A2 → A3 → A4 → A5 → Prop) → A0 → A1 → A2 → A3 → A4 → A5 → Prop) (a0 : A0) (a1 : A1) (a2 : A2) (a3 : A3) (a4 : A4) (a5 : A5) : Prop := ∃ (I : A0 → A1 → A2 → A3 → A4 → A5 → Prop) (μ : A0 → A1 → A2 → A3 → A4 → A5 → Nat), I a0 a1 a2 a3 a4 a5 ∧ ∀ (b0 : A0) (b1 : A1) (b2 : A2) (b3 : A3) (b4 : A4) (b5 : A5), I b0 b1 b2 b3 b4 b5 → F (fun a0 a1 a2 a3 a4 a5 => I a0 a1 a2 a3 a4 a5 ∧ μ a0 a1 a2 a3 a4 a5 < μ b0 b1 b2 b3 b4 b5) b0 b1 b2 b3 b4 b5
theorem Lp6.use {A0 A1 A2 A3 A4 A5 : Type} {F : (A0 → A1 → A2 → A3 → A4 → A5 → Prop) → A0 → A1 → A2 → A3 → A4 → A5 → Prop} {P : A0 → A1 → A2 → A3 → A4 → A5 → Prop} (hs : ∀ (L : A0 → A1 → A2 → A3 → A4 → A5 → Prop) (b0 : A0) (b1 : A1) (b2 : A2) (b3 : A3) (b4 : A4) (b5 : A5), (∀ (a0 : A0) (a1 : A1) (a2 : A2) (a3 : A3) (a4 : A4) (a5 : A5), L a0 a1 a2 a3 a4 a5 → P a0 a1 a2 a3 a4 a5) → F L b0 b1 b2 b3 b4 b5 → P b0 b1 b2 b3 b4 b5) (a0 : A0) (a1 : A1) (a2 : A2) (a3 : A3) (a4 : A4) (a5 : A5) (h : Lp6 F a0 a1 a2 a3 a4 a5) : P a0 a1 a2 a3 a4 a5 := by
  obtain ⟨I, μ, h0, h1⟩ := h
  have key : ∀ (n : Nat) (b0 : A0) (b1 : A1) (b2 : A2) (b3 : A3) (b4 : A4) (b5 : A5), μ b0 b1 b2 b3 b4 b5 < n → I b0 b1 b2 b3 b4 b5 → P b0 b1 b2 b3 b4 b5 := by
    intro n
    induction n with
    | zero => intro b0 b1 b2 b3 b4 b5 hn; omega
    | succ n ih => intro b0 b1 b2 b3 b4 b5 hn hi; exact hs _ b0 b1 b2 b3 b4 b5 (fun a0 a1 a2 a3 a4 a5 ha => ih a0 a1 a2 a3 a4 a5 (by omega) ha.1) (h1 b0 b1 b2 b3 b4 b5 hi)
  exact key (μ a0 a1 a2 a3 a4 a5 + 1) a0 a1 a2 a3 a4 a5 (Nat.lt_succ_self _) h0
/-- a loop over 7 changing things: an invariant, and a number that falls -/
def Lp7 {A0 A1 A2 A3 A4 A5 A6 : Type} (F : (A0 → A1 → A2 → A3 → A4 → A5 → A6 → Prop) → A0 → A1 → A2 → A3 → A4 → A5 → A6 → Prop) (a0 : A0) (a1 : A1) (a2 : A2) (a3 : A3) (a4 : A4) (a5 : A5) (a6 : A6) : Prop := ∃ (I : A0 → A1 → A2 → A3 → A4 → A5 → A6 → Prop) (μ : A0 → A1 → A2 → A3 → A4 → A5 → A6 → Nat), I a0 a1 a2 a3 a4 a5 a6 ∧ ∀ (b0 : A0) (b1 : A1) (b2 : A2) (b3 : A3) (b4 : A4) (b5 : A5) (b6 : A6), I b0 b1 b2 b3 b4 b5 b6 → F (fun a0 a1 a2 a3 a4 a5 a6 => I a0 a1 a2 a3 a4 a5 a6 ∧ μ a0 a1 a2 a3 a4 a5 a6 < μ b0 b1 b2 b3 b4 b5 b6) b0 b1 b2 b3 b4 b5 b6
theorem Lp7.use {A0 A1 A2 A3 A4 A5 A6 : Type} {F : (A0 → A1 → A2 → A3 → A4 → A5 → A6 → Prop) → A0 → A1 → A2 → A3 → A4 → A5 → A6 → Prop} {P : A0 → A1 → A2 → A3 → A4 → A5 → A6 → Prop} (hs : ∀ (L : A0 → A1 → A2 → A3 → A4 → A5 → A6 → Prop) (b0 : A0) (b1 : A1) (b2 : A2) (b3 : A3) (b4 : A4) (b5 : A5) (b6 : A6), (∀ (a0 : A0) (a1 : A1) (a2 : A2) (a3 : A3) (a4 : A4) (a5 : A5) (a6 : A6), L a0 a1 a2 a3 a4 a5 a6 → P a0 a1 a2 a3 a4 a5 a6) → F L b0 b1 b2 b3 b4 b5 b6 → P b0 b1 b2 b3 b4 b5 b6) (a0 : A0) (a1 : A1) (a2 : A2) (a3 : A3) (a4 : A4) (a5 : A5) (a6 : A6) (h : Lp7 F a0 a1 a2 a3 a4 a5 a6) : P a0 a1 a2 a3 a4 a5 a6 := by
  obtain ⟨I, μ, h0, h1⟩ := h
  have key : ∀ (n : Nat) (b0 : A0) (b1 : A1) (b2 : A2) (b3 : A3) (b4 : A4) (b5 : A5) (b6 : A6), μ b0 b1 b2 b3 b4 b5 b6 < n → I b0 b1 b2 b3 b4 b5 b6 → P b0 b1 b2 b3 b4 b5 b6 := by
    intro n
    induction n with
    | zero => intro b0 b1 b2 b3 b4 b5 b6 hn; omega
    | succ n ih => intro b0 b1 b2 b3 b4 b5 b6 hn hi; exact hs _ b0 b1 b2 b3 b4 b5 b6 (fun a0 a1 a2 a3 a4 a5 a6 ha => ih a0 a1 a2 a3 a4 a5 a6 (by omega) ha.1) (h1 b0 b1 b2 b3 b4 b5 b6 hi)
  exact key (μ a0 a1 a2 a3 a4 a5 a6 + 1) a0 a1 a2 a3 a4 a5 a6 (Nat.lt_succ_self _) h0
/-- a loop over 8 changing things: an invariant, and a number that falls -/
def Lp8 {A0 A1 A2 A3 A4 A5 A6 A7 : Type} (F : (A0 → A1 → A2 → A3 → A4 → A5 → A6 → A7 → Prop) → A0 → A1 → A2 → A3 → A4 → A5 → A6 → A7 → Prop) (a0 : A0) (a1 : A1) (a2 : A2) (a3 : A3) (a4 : A4) (a5 : A5) (a6 : A6) (a7 : A7) : Prop := ∃ (I : A0 → A1 → A2 → A3 → A4 → A5 → A6 → A7 → Prop) (μ : A0 → A1 → A2 → A3 → A4 → A5 → A6 → A7 → Nat), I a0 a1 a2 a3 a4 a5 a6 a7 ∧ ∀ (b0 : A0) (b1 : A1) (b2 : A2) (b3 : A3) (b4 : A4) (b5 : A5) (b6 : A6) (b7 : A7), I b0 b1 b2 b3 b4 b5 b6 b7 → F (fun a0 a1 a2 a3 a4 a5 a6 a7 => I a0 a1 a2 a3 a4 a5 a6 a7 ∧ μ a0 a1 a2 a3 a4 a5 a6 a7 < μ b0 b1 b2 b3 b4 b5 b6 b7) b0 b1 b2 b3 b4 b5 b6 b7
theorem Lp8.use {A0 A1 A2 A3 A4 A5 A6 A7 : Type} {F : (A0 → A1 → A2 → A3 → A4 → A5 → A6 → A7 → Prop) → A0 → A1 → A2 → A3 → A4 → A5 → A6 → A7 → Prop} {P : A0 → A1 → A2 → A3 → A4 → A5 → A6 → A7 → Prop} (hs : ∀ (L : A0 → A1 → A2 → A3 → A4 → A5 → A6 → A7 → Prop) (b0 : A0) (b1 : A1) (b2 : A2) (b3 : A3) (b4 : A4) (b5 : A5) (b6 : A6) (b7 : A7), (∀ (a0 : A0) (a1 : A1) (a2 : A2) (a3 : A3) (a4 : A4) (a5 : A5) (a6 : A6) (a7 : A7), L a0 a1 a2 a3 a4 a5 a6 a7 → P a0 a1 a2 a3 a4 a5 a6 a7) → F L b0 b1 b2 b3 b4 b5 b6 b7 → P b0 b1 b2 b3 b4 b5 b6 b7) (a0 : A0) (a1 : A1) (a2 : A2) (a3 : A3) (a4 : A4) (a5 : A5) (a6 : A6) (a7 : A7) (h : Lp8 F a0 a1 a2 a3 a4 a5 a6 a7) : P a0 a1 a2 a3 a4 a5 a6 a7 := by
  obtain ⟨I, μ, h0, h1⟩ := h
  have key : ∀ (n : Nat) (b0 : A0) (b1 : A1) (b2 : A2) (b3 : A3) (b4 : A4) (b5 : A5) (b6 : A6) (b7 : A7), μ b0 b1 b2 b3 b4 b5 b6 b7 < n → I b0 b1 b2 b3 b4 b5 b6 b7 → P b0 b1 b2 b3 b4 b5 b6 b7 := by
    intro n
    induction n with
    | zero => intro b0 b1 b2 b3 b4 b5 b6 b7 hn; omega
    | succ n ih => intro b0 b1 b2 b3 b4 b5 b6 b7 hn hi; exact hs _ b0 b1 b2 b3 b4 b5 b6 b7 (fun a0 a1 a2 a3 a4 a5 a6 a7 ha => ih a0 a1 a2 a3 a4 a5 a6 a7 (by omega) ha.1) (h1 b0 b1 b2 b3 b4 b5 b6 b7 hi)
  exact key (μ a0 a1 a2 a3 a4 a5 a6 a7 + 1) a0 a1 a2 a3 a4 a5 a6 a7 (Nat.lt_succ_self _) h0
/-- a loop over 9 changing things: an invariant, and a number that falls -/
def Lp9 {A0 A1 A2 A3 A4 A5 A6 A7 A8 : Type} (F : (A0 → A1 → A2 → A3 → A4 → A5 → A6 → A7 → A8 → Prop) → A0 → A1 → A2 → A3 → A4 → A5 → A6 → A7 → A8 → Prop) (a0 : A0) (a1 : A1) (a2 : A2) (a3 : A3) (a4 : A4) (a5 : A5) (a6 : A6) (a7 : A7) (a8 : A8) : Prop := ∃ (I : A0 → A1 → A2 → A3 → A4 → A5 → A6 → A7 → A8 → Prop) (μ : A0 → A1 → A2 → A3 → A4 → A5 → A6 → A7 → A8 → Nat), I a0 a1 a2 a3 a4 a5 a6 a7 a8 ∧ ∀ (b0 : A0) (b1 : A1) (b2 : A2) (b3 : A3) (b4 : A4) (b5 : A5) (b6 : A6) (b7 : A7) (b8 : A8), I b0 b1 b2 b3 b4 b5 b6 b7 b8 → F (fun a0 a1 a2 a3 a4 a5 a6 a7 a8 => I a0 a1 a2 a3 a4 a5 a6 a7 a8 ∧ μ a0 a1 a2 a3 a4 a5 a6 a7 a8 < μ b0 b1 b2 b3 b4 b5 b6 b7 b8) b0 b1 b2 b3 b4 b5 b6 b7 b8
theorem Lp9.use {A0 A1 A2 A3 A4 A5 A6 A7 A8 : Type} {F : (A0 → A1 → A2 → A3 → A4 → A5 → A6 → A7 → A8 → Prop) → A0 → A1 → A2 → A3 → A4 → A5 → A6 → A7 → A8 → Prop} {P : A0 → A1 → A2 → A3 → A4 → A5 → A6 → A7 → A8 → Prop} (hs : ∀ (L : A0 → A1 → A2 → A3 → A4 → A5 → A6 → A7 → A8 → Prop) (b0 : A0) (b1 : A1) (b2 : A2) (b3 : A3) (b4 : A4) (b5 : A5) (b6 : A6) (b7 : A7) (b8 : A8), (∀ (a0 : A0) (a1 : A1) (a2 : A2) (a3 : A3) (a4 : A4) (a5 : A5) (a6 : A6) (a7 : A7) (a8 : A8), L a0 a1 a2 a3 a4 a5 a6 a7 a8 → P a0 a1 a2 a3 a4 a5 a6 a7 a8) → F L b0 b1 b2 b3 b4 b5 b6 b7 b8 → P b0 b1 b2 b3 b4 b5 b6 b7 b8) (a0 : A0) (a1 : A1) (a2 : A2) (a3 : A3) (a4 : A4) (a5 : A5) (a6 : A6) (a7 : A7) (a8 : A8) (h : Lp9 F a0 a1 a2 a3 a4 a5 a6 a7 a8) : P a0 a1 a2 a3 a4 a5 a6 a7 a8 := by
  obtain ⟨I, μ, h0, h1⟩ := h
  have key : ∀ (n : Nat) (b0 : A0) (b1 : A1) (b2 : A2) (b3 : A3) (b4 : A4) (b5 : A5) (b6 : A6) (b7 : A7) (b8 : A8), μ b0 b1 b2 b3 b4 b5 b6 b7 b8 < n → I b0 b1 b2 b3 b4 b5 b6 b7 b8 → P b0 b1 b2 b3 b4 b5 b6 b7 b8 := by
    intro n
    induction n with
    | zero => intro b0 b1 b2 b3 b4 b5 b6 b7 b8 hn; omega
    | succ n ih => intro b0 b1 b2 b3 b4 b5 b6 b7 b8 hn hi; exact hs _ b0 b1 b2 b3 b4 b5 b6 b7 b8 (fun a0 a1 a2 a3 a4 a5 a6 a7 a8 ha => ih a0 a1 a2 a3 a4 a5 a6 a7 a8 (by omega) ha.1) (h1 b0 b1 b2 b3 b4 b5 b6 b7 b8 hi)
  exact key (μ a0 a1 a2 a3 a4 a5 a6 a7 a8 + 1) a0 a1 a2 a3 a4 a5 a6 a7 a8 (Nat.lt_succ_self _) h0
/-- a loop over 10 changing things: an invariant, and a number that falls -/
def Lp10 {A0 A1 A2 A3 A4 A5 A6 A7 A8 A9 : Type} (F : (A0 → A1 → A2 → A3 → A4 → A5 → A6 → A7 → A8 → A9 → Prop) → A0 → A1 → A2 → A3 → A4 → A5 → A6 → A7 → A8 → A9 → Prop) (a0 : A0) (a1 : A1) (a2 : A2) (a3 : A3) (a4 : A4) (a5 : A5) (a6 : A6) (a7 : A7) (a8 : A8) (a9 : A9) : Prop := ∃ (I : A0 → A1 → A2 → A3 → A4 → A5 → A6 → A7 → A8 → A9 → Prop) (μ : A0 → A1 → A2 → A3 → A4 → A5 → A6 → A7 → A8 → A9 → Nat), I a0 a1 a2 a3 a4 a5 a6 a7 a8 a9 ∧ ∀ (b0 : A0) (b1 : A1) (b2 : A2) (b3 : A3) (b4 : A4) (b5 : A5) (b6 : A6) (b7 : A7) (b8 : A8) (b9 : A9), I b0 b1 b2 b3 b4 b5 b6 b7 b8 b9 → F (fun a0 a1 a2 a3 a4 a5 a6 a7 a8 a9 => I a0 a1 a2 a3 a4 a5 a6 a7 a8 a9 ∧ μ a0 a1 a2 a3 a4 a5 a6 a7 a8 a9 < μ b0 b1 b2 b3 b4 b5 b6 b7 b8 b9) b0 b1 b2 b3 b4 b5 b6 b7 b8 b9
theorem Lp10.use {A0 A1 A2 A3 A4 A5 A6 A7 A8 A9 : Type} {F : (A0 → A1 → A2 → A3 → A4 → A5 → A6 → A7 → A8 → A9 → Prop) → A0 → A1 → A2 → A3 → A4 → A5 → A6 → A7 → A8 → A9 → Prop} {P : A0 → A1 → A2 → A3 → A4 → A5 → A6 → A7 → A8 → A9 → Prop} (hs : ∀ (L : A0 → A1 → A2 → A3 → A4 → A5 → A6 → A7 → A8 → A9 → Prop) (b0 : A0) (b1 : A1) (b2 : A2) (b3 : A3) (b4 : A4) (b5 : A5) (b6 : A6) (b7 : A7) (b8 : A8) (b9 : A9), (∀ (a0 : A0) (a1 : A1) (a2 : A2) (a3 : A3) (a4 : A4) (a5 : A5) (a6 : A6) (a7 : A7) (a8 : A8) (a9 : A9), L a0 a1 a2 a3 a4 a5 a6 a7 a8 a9 → P a0 a1 a2 a3 a4 a5 a6 a7 a8 a9) → F L b0 b1 b2 b3 b4 b5 b6 b7 b8 b9 → P b0 b1 b2 b3 b4 b5 b6 b7 b8 b9) (a0 : A0) (a1 : A1) (a2 : A2) (a3 : A3) (a4 : A4) (a5 : A5) (a6 : A6) (a7 : A7) (a8 : A8) (a9 : A9) (h : Lp10 F a0 a1 a2 a3 a4 a5 a6 a7 a8 a9) : P a0 a1 a2 a3 a4 a5 a6 a7 a8 a9 := by
  obtain ⟨I, μ, h0, h1⟩ := h
  have key : ∀ (n : Nat) (b0 : A0) (b1 : A1) (b2 : A2) (b3 : A3) (b4 : A4) (b5 : A5) (b6 : A6) (b7 : A7) (b8 : A8) (b9 : A9), μ b0 b1 b2 b3 b4 b5 b6 b7 b8 b9 < n → I b0 b1 b2 b3 b4 b5 b6 b7 b8 b9 → P b0 b1 b2 b3 b4 b5 b6 b7 b8 b9 := by
    intro n
    induction n with
    | zero => intro b0 b1 b2 b3 b4 b5 b6 b7 b8 b9 hn; omega
    | succ n ih => intro b0 b1 b2 b3 b4 b5 b6 b7 b8 b9 hn hi; exact hs _ b0 b1 b2 b3 b4 b5 b6 b7 b8 b9 (fun a0 a1 a2 a3 a4 a5 a6 a7 a8 a9 ha => ih a0 a1 a2 a3 a4 a5 a6 a7 a8 a9 (by omega) ha.1) (h1 b0 b1 b2 b3 b4 b5 b6 b7 b8 b9 hi)
  exact key (μ a0 a1 a2 a3 a4 a5 a6 a7 a8 a9 + 1) a0 a1 a2 a3 a4 a5 a6 a7 a8 a9 (Nat.lt_succ_self _) h0
def isH (t : Nat) : Prop := ∃ i, i < 12 ∧ t = 30 + 3 * i
def isW (t : Nat) : Prop := ∃ i, i < 16 ∧ t = 82 + i
def isK (t : Nat) : Prop := ∃ i, i < 60 ∧ t = 98 + i
def isF (t : Nat) : Prop := t = 11 ∨ t = 19
def isT (t : Nat) : Prop := t = 69 ∨ t = 74 ∨ t = 160 ∨ ∃ i, i < 12 ∧ t = 174 + 5 * i
def isLA (t : Nat) : Prop := t = 79 ∨ t = 173
def isA (t n : Nat) : Prop := t < 338 ∧ SH t = .inr (0, n)
def isS (t : Nat) : Prop := ∃ i, i < 5 ∧ t = 1000000 + i
def isBA (t n : Nat) : Prop := t < 338 ∧ SH t = .inr (2, n)
theorem isH.o {t : Nat} (h : isH t) : t < 338 ∧ SH t = .inl 4 := by
  obtain ⟨i, h, rfl⟩ := h
  match i, h with
  | 0, _ => exact ⟨by decide, rfl⟩
  | 1, _ => exact ⟨by decide, rfl⟩
  | 2, _ => exact ⟨by decide, rfl⟩
  | 3, _ => exact ⟨by decide, rfl⟩
  | 4, _ => exact ⟨by decide, rfl⟩
  | 5, _ => exact ⟨by decide, rfl⟩
  | 6, _ => exact ⟨by decide, rfl⟩
  | 7, _ => exact ⟨by decide, rfl⟩
  | 8, _ => exact ⟨by decide, rfl⟩
  | 9, _ => exact ⟨by decide, rfl⟩
  | 10, _ => exact ⟨by decide, rfl⟩
  | 11, _ => exact ⟨by decide, rfl⟩
  | n + 12, h => omega
theorem isH.a1 {t : Nat} (h : isH t) : t + 1 < 338 ∧ SH (t + 1) = .inr (0, 6) := by
  obtain ⟨i, h, rfl⟩ := h
  match i, h with
  | 0, _ => exact ⟨by decide, rfl⟩
  | 1, _ => exact ⟨by decide, rfl⟩
  | 2, _ => exact ⟨by decide, rfl⟩
  | 3, _ => exact ⟨by decide, rfl⟩
  | 4, _ => exact ⟨by decide, rfl⟩
  | 5, _ => exact ⟨by decide, rfl⟩
  | 6, _ => exact ⟨by decide, rfl⟩
  | 7, _ => exact ⟨by decide, rfl⟩
  | 8, _ => exact ⟨by decide, rfl⟩
  | 9, _ => exact ⟨by decide, rfl⟩
  | 10, _ => exact ⟨by decide, rfl⟩
  | 11, _ => exact ⟨by decide, rfl⟩
  | n + 12, h => omega
theorem isH.a2 {t : Nat} (h : isH t) : t + 2 < 338 ∧ SH (t + 2) = .inr (0, 6) := by
  obtain ⟨i, h, rfl⟩ := h
  match i, h with
  | 0, _ => exact ⟨by decide, rfl⟩
  | 1, _ => exact ⟨by decide, rfl⟩
  | 2, _ => exact ⟨by decide, rfl⟩
  | 3, _ => exact ⟨by decide, rfl⟩
  | 4, _ => exact ⟨by decide, rfl⟩
  | 5, _ => exact ⟨by decide, rfl⟩
  | 6, _ => exact ⟨by decide, rfl⟩
  | 7, _ => exact ⟨by decide, rfl⟩
  | 8, _ => exact ⟨by decide, rfl⟩
  | 9, _ => exact ⟨by decide, rfl⟩
  | 10, _ => exact ⟨by decide, rfl⟩
  | 11, _ => exact ⟨by decide, rfl⟩
  | n + 12, h => omega
theorem isW.o {t : Nat} (h : isW t) : t < 338 ∧ SH t = .inl 2 := by
  obtain ⟨i, h, rfl⟩ := h
  match i, h with
  | 0, _ => exact ⟨by decide, rfl⟩
  | 1, _ => exact ⟨by decide, rfl⟩
  | 2, _ => exact ⟨by decide, rfl⟩
  | 3, _ => exact ⟨by decide, rfl⟩
  | 4, _ => exact ⟨by decide, rfl⟩
  | 5, _ => exact ⟨by decide, rfl⟩
  | 6, _ => exact ⟨by decide, rfl⟩
  | 7, _ => exact ⟨by decide, rfl⟩
  | 8, _ => exact ⟨by decide, rfl⟩
  | 9, _ => exact ⟨by decide, rfl⟩
  | 10, _ => exact ⟨by decide, rfl⟩
  | 11, _ => exact ⟨by decide, rfl⟩
  | 12, _ => exact ⟨by decide, rfl⟩
  | 13, _ => exact ⟨by decide, rfl⟩
  | 14, _ => exact ⟨by decide, rfl⟩
  | 15, _ => exact ⟨by decide, rfl⟩
  | n + 16, h => omega
theorem isK.o {t : Nat} (h : isK t) : t < 338 ∧ SH t = .inl 1 := by
  obtain ⟨i, h, rfl⟩ := h
  match i, h with
  | 0, _ => exact ⟨by decide, rfl⟩
  | 1, _ => exact ⟨by decide, rfl⟩
  | 2, _ => exact ⟨by decide, rfl⟩
  | 3, _ => exact ⟨by decide, rfl⟩
  | 4, _ => exact ⟨by decide, rfl⟩
  | 5, _ => exact ⟨by decide, rfl⟩
  | 6, _ => exact ⟨by decide, rfl⟩
  | 7, _ => exact ⟨by decide, rfl⟩
  | 8, _ => exact ⟨by decide, rfl⟩
  | 9, _ => exact ⟨by decide, rfl⟩
  | 10, _ => exact ⟨by decide, rfl⟩
  | 11, _ => exact ⟨by decide, rfl⟩
  | 12, _ => exact ⟨by decide, rfl⟩
  | 13, _ => exact ⟨by decide, rfl⟩
  | 14, _ => exact ⟨by decide, rfl⟩
  | 15, _ => exact ⟨by decide, rfl⟩
  | 16, _ => exact ⟨by decide, rfl⟩
  | 17, _ => exact ⟨by decide, rfl⟩
  | 18, _ => exact ⟨by decide, rfl⟩
  | 19, _ => exact ⟨by decide, rfl⟩
  | 20, _ => exact ⟨by decide, rfl⟩
  | 21, _ => exact ⟨by decide, rfl⟩
  | 22, _ => exact ⟨by decide, rfl⟩
  | 23, _ => exact ⟨by decide, rfl⟩
  | 24, _ => exact ⟨by decide, rfl⟩
  | 25, _ => exact ⟨by decide, rfl⟩
  | 26, _ => exact ⟨by decide, rfl⟩
  | 27, _ => exact ⟨by decide, rfl⟩
  | 28, _ => exact ⟨by decide, rfl⟩
  | 29, _ => exact ⟨by decide, rfl⟩
  | 30, _ => exact ⟨by decide, rfl⟩
  | 31, _ => exact ⟨by decide, rfl⟩
  | 32, _ => exact ⟨by decide, rfl⟩
  | 33, _ => exact ⟨by decide, rfl⟩
  | 34, _ => exact ⟨by decide, rfl⟩
  | 35, _ => exact ⟨by decide, rfl⟩
  | 36, _ => exact ⟨by decide, rfl⟩
  | 37, _ => exact ⟨by decide, rfl⟩
  | 38, _ => exact ⟨by decide, rfl⟩
  | 39, _ => exact ⟨by decide, rfl⟩
  | 40, _ => exact ⟨by decide, rfl⟩
  | 41, _ => exact ⟨by decide, rfl⟩
  | 42, _ => exact ⟨by decide, rfl⟩
  | 43, _ => exact ⟨by decide, rfl⟩
  | 44, _ => exact ⟨by decide, rfl⟩
  | 45, _ => exact ⟨by decide, rfl⟩
  | 46, _ => exact ⟨by decide, rfl⟩
  | 47, _ => exact ⟨by decide, rfl⟩
  | 48, _ => exact ⟨by decide, rfl⟩
  | 49, _ => exact ⟨by decide, rfl⟩
  | 50, _ => exact ⟨by decide, rfl⟩
  | 51, _ => exact ⟨by decide, rfl⟩
  | 52, _ => exact ⟨by decide, rfl⟩
  | 53, _ => exact ⟨by decide, rfl⟩
  | 54, _ => exact ⟨by decide, rfl⟩
  | 55, _ => exact ⟨by decide, rfl⟩
  | 56, _ => exact ⟨by decide, rfl⟩
  | 57, _ => exact ⟨by decide, rfl⟩
  | 58, _ => exact ⟨by decide, rfl⟩
  | 59, _ => exact ⟨by decide, rfl⟩
  | n + 60, h => omega
theorem isH.r1 {t lt mt mk : Nat} (h : isH t) : RF lt mt mk t 12 = some (t + 1) := by
  obtain ⟨i, h, rfl⟩ := h
  match i, h with
  | 0, _ => rfl
  | 1, _ => rfl
  | 2, _ => rfl
  | 3, _ => rfl
  | 4, _ => rfl
  | 5, _ => rfl
  | 6, _ => rfl
  | 7, _ => rfl
  | 8, _ => rfl
  | 9, _ => rfl
  | 10, _ => rfl
  | 11, _ => rfl
  | n + 12, h => omega
theorem isH.r2 {t lt mt mk : Nat} (h : isH t) : RF lt mt mk t 13 = some (t + 2) := by
  obtain ⟨i, h, rfl⟩ := h
  match i, h with
  | 0, _ => rfl
  | 1, _ => rfl
  | 2, _ => rfl
  | 3, _ => rfl
  | 4, _ => rfl
  | 5, _ => rfl
  | 6, _ => rfl
  | 7, _ => rfl
  | 8, _ => rfl
  | 9, _ => rfl
  | 10, _ => rfl
  | 11, _ => rfl
  | n + 12, h => omega
theorem isF.a0 {t : Nat} (h : isF t) : t + 1 < 338 ∧ SH (t + 1) = .inr (0, 288) := by rcases h with rfl | rfl <;> exact ⟨by decide, rfl⟩
theorem isF.r0 {t lt mt mk : Nat} (h : isF t) : RF lt mt mk t 0 = some (t + 1) := by rcases h with rfl | rfl <;> rfl
theorem isF.a1 {t : Nat} (h : isF t) : t + 2 < 338 ∧ SH (t + 2) = .inr (0, 288) := by rcases h with rfl | rfl <;> exact ⟨by decide, rfl⟩
theorem isF.r1 {t lt mt mk : Nat} (h : isF t) : RF lt mt mk t 1 = some (t + 2) := by rcases h with rfl | rfl <;> rfl
theorem isF.a2 {t : Nat} (h : isF t) : t + 3 < 338 ∧ SH (t + 3) = .inr (0, 288) := by rcases h with rfl | rfl <;> exact ⟨by decide, rfl⟩
theorem isF.r2 {t lt mt mk : Nat} (h : isF t) : RF lt mt mk t 2 = some (t + 3) := by rcases h with rfl | rfl <;> rfl
theorem isF.a3 {t : Nat} (h : isF t) : t + 4 < 338 ∧ SH (t + 4) = .inr (0, 72) := by rcases h with rfl | rfl <;> exact ⟨by decide, rfl⟩
theorem isF.r3 {t lt mt mk : Nat} (h : isF t) : RF lt mt mk t 3 = some (t + 4) := by rcases h with rfl | rfl <;> rfl
theorem isF.a4 {t : Nat} (h : isF t) : t + 5 < 338 ∧ SH (t + 5) = .inr (1, 72) := by rcases h with rfl | rfl <;> exact ⟨by decide, rfl⟩
theorem isF.r4 {t lt mt mk : Nat} (h : isF t) : RF lt mt mk t 4 = some (t + 5) := by rcases h with rfl | rfl <;> rfl
theorem isF.a5 {t : Nat} (h : isF t) : t + 6 < 338 ∧ SH (t + 6) = .inr (1, 288) := by rcases h with rfl | rfl <;> exact ⟨by decide, rfl⟩
theorem isF.r5 {t lt mt mk : Nat} (h : isF t) : RF lt mt mk t 5 = some (t + 6) := by rcases h with rfl | rfl <;> rfl
theorem isF.a6 {t : Nat} (h : isF t) : t + 7 < 338 ∧ SH (t + 7) = .inr (0, 72) := by rcases h with rfl | rfl <;> exact ⟨by decide, rfl⟩
theorem isF.r6 {t lt mt mk : Nat} (h : isF t) : RF lt mt mk t 6 = some (t + 7) := by rcases h with rfl | rfl <;> rfl
theorem isF.o {t : Nat} (h : isF t) : t < 338 ∧ SH t = .inl 3 := by rcases h with rfl | rfl <;> exact ⟨by decide, rfl⟩
theorem isT.o {t : Nat} (h : isT t) : t < 338 ∧ SH t = .inl 9 := by
  rcases h with rfl | rfl | rfl | ⟨i, h, rfl⟩
  · exact ⟨by decide, rfl⟩
  · exact ⟨by decide, rfl⟩
  · exact ⟨by decide, rfl⟩
  · match i, h with
    | 0, _ => exact ⟨by decide, rfl⟩
    | 1, _ => exact ⟨by decide, rfl⟩
    | 2, _ => exact ⟨by decide, rfl⟩
    | 3, _ => exact ⟨by decide, rfl⟩
    | 4, _ => exact ⟨by decide, rfl⟩
    | 5, _ => exact ⟨by decide, rfl⟩
    | 6, _ => exact ⟨by decide, rfl⟩
    | 7, _ => exact ⟨by decide, rfl⟩
    | 8, _ => exact ⟨by decide, rfl⟩
    | 9, _ => exact ⟨by decide, rfl⟩
    | 10, _ => exact ⟨by decide, rfl⟩
    | 11, _ => exact ⟨by decide, rfl⟩
    | n + 12, h => omega
theorem isT.a0 {t : Nat} (h : isT t) : t + 1 < 338 ∧ SH (t + 1) = .inr (0, 200) := by
  rcases h with rfl | rfl | rfl | ⟨i, h, rfl⟩
  · exact ⟨by decide, rfl⟩
  · exact ⟨by decide, rfl⟩
  · exact ⟨by decide, rfl⟩
  · match i, h with
    | 0, _ => exact ⟨by decide, rfl⟩
    | 1, _ => exact ⟨by decide, rfl⟩
    | 2, _ => exact ⟨by decide, rfl⟩
    | 3, _ => exact ⟨by decide, rfl⟩
    | 4, _ => exact ⟨by decide, rfl⟩
    | 5, _ => exact ⟨by decide, rfl⟩
    | 6, _ => exact ⟨by decide, rfl⟩
    | 7, _ => exact ⟨by decide, rfl⟩
    | 8, _ => exact ⟨by decide, rfl⟩
    | 9, _ => exact ⟨by decide, rfl⟩
    | 10, _ => exact ⟨by decide, rfl⟩
    | 11, _ => exact ⟨by decide, rfl⟩
    | n + 12, h => omega
theorem isT.r0 {t lt mt mk : Nat} (h : isT t) : RF lt mt mk t 0 = some (t + 1) := by
  rcases h with rfl | rfl | rfl | ⟨i, h, rfl⟩
  · exact rfl
  · exact rfl
  · exact rfl
  · match i, h with
    | 0, _ => exact rfl
    | 1, _ => exact rfl
    | 2, _ => exact rfl
    | 3, _ => exact rfl
    | 4, _ => exact rfl
    | 5, _ => exact rfl
    | 6, _ => exact rfl
    | 7, _ => exact rfl
    | 8, _ => exact rfl
    | 9, _ => exact rfl
    | 10, _ => exact rfl
    | 11, _ => exact rfl
    | n + 12, h => omega
theorem isT.a2 {t : Nat} (h : isT t) : t + 2 < 338 ∧ SH (t + 2) = .inr (0, 40) := by
  rcases h with rfl | rfl | rfl | ⟨i, h, rfl⟩
  · exact ⟨by decide, rfl⟩
  · exact ⟨by decide, rfl⟩
  · exact ⟨by decide, rfl⟩
  · match i, h with
    | 0, _ => exact ⟨by decide, rfl⟩
    | 1, _ => exact ⟨by decide, rfl⟩
    | 2, _ => exact ⟨by decide, rfl⟩
    | 3, _ => exact ⟨by decide, rfl⟩
    | 4, _ => exact ⟨by decide, rfl⟩
    | 5, _ => exact ⟨by decide, rfl⟩
    | 6, _ => exact ⟨by decide, rfl⟩
    | 7, _ => exact ⟨by decide, rfl⟩
    | 8, _ => exact ⟨by decide, rfl⟩
    | 9, _ => exact ⟨by decide, rfl⟩
    | 10, _ => exact ⟨by decide, rfl⟩
    | 11, _ => exact ⟨by decide, rfl⟩
    | n + 12, h => omega
theorem isT.r2 {t lt mt mk : Nat} (h : isT t) : RF lt mt mk t 2 = some (t + 2) := by
  rcases h with rfl | rfl | rfl | ⟨i, h, rfl⟩
  · exact rfl
  · exact rfl
  · exact rfl
  · match i, h with
    | 0, _ => exact rfl
    | 1, _ => exact rfl
    | 2, _ => exact rfl
    | 3, _ => exact rfl
    | 4, _ => exact rfl
    | 5, _ => exact rfl
    | 6, _ => exact rfl
    | 7, _ => exact rfl
    | 8, _ => exact rfl
    | 9, _ => exact rfl
    | 10, _ => exact rfl
    | 11, _ => exact rfl
    | n + 12, h => omega
theorem isT.a7 {t : Nat} (h : isT t) : t + 3 < 338 ∧ SH (t + 3) = .inr (0, 5) := by
  rcases h with rfl | rfl | rfl | ⟨i, h, rfl⟩
  · exact ⟨by decide, rfl⟩
  · exact ⟨by decide, rfl⟩
  · exact ⟨by decide, rfl⟩
  · match i, h with
    | 0, _ => exact ⟨by decide, rfl⟩
    | 1, _ => exact ⟨by decide, rfl⟩
    | 2, _ => exact ⟨by decide, rfl⟩
    | 3, _ => exact ⟨by decide, rfl⟩
    | 4, _ => exact ⟨by decide, rfl⟩
    | 5, _ => exact ⟨by decide, rfl⟩
    | 6, _ => exact ⟨by decide, rfl⟩
    | 7, _ => exact ⟨by decide, rfl⟩
    | 8, _ => exact ⟨by decide, rfl⟩
    | 9, _ => exact ⟨by decide, rfl⟩
    | 10, _ => exact ⟨by decide, rfl⟩
    | 11, _ => exact ⟨by decide, rfl⟩
    | n + 12, h => omega
theorem isT.r7 {t lt mt mk : Nat} (h : isT t) : RF lt mt mk t 7 = some (t + 3) := by
  rcases h with rfl | rfl | rfl | ⟨i, h, rfl⟩
  · exact rfl
  · exact rfl
  · exact rfl
  · match i, h with
    | 0, _ => exact rfl
    | 1, _ => exact rfl
    | 2, _ => exact rfl
    | 3, _ => exact rfl
    | 4, _ => exact rfl
    | 5, _ => exact rfl
    | 6, _ => exact rfl
    | 7, _ => exact rfl
    | 8, _ => exact rfl
    | 9, _ => exact rfl
    | 10, _ => exact rfl
    | 11, _ => exact rfl
    | n + 12, h => omega
theorem isT.a8 {t : Nat} (h : isT t) : t + 4 < 338 ∧ SH (t + 4) = .inr (0, 40) := by
  rcases h with rfl | rfl | rfl | ⟨i, h, rfl⟩
  · exact ⟨by decide, rfl⟩
  · exact ⟨by decide, rfl⟩
  · exact ⟨by decide, rfl⟩
  · match i, h with
    | 0, _ => exact ⟨by decide, rfl⟩
    | 1, _ => exact ⟨by decide, rfl⟩
    | 2, _ => exact ⟨by decide, rfl⟩
    | 3, _ => exact ⟨by decide, rfl⟩
    | 4, _ => exact ⟨by decide, rfl⟩
    | 5, _ => exact ⟨by decide, rfl⟩
    | 6, _ => exact ⟨by decide, rfl⟩
    | 7, _ => exact ⟨by decide, rfl⟩
    | 8, _ => exact ⟨by decide, rfl⟩
    | 9, _ => exact ⟨by decide, rfl⟩
    | 10, _ => exact ⟨by decide, rfl⟩
    | 11, _ => exact ⟨by decide, rfl⟩
    | n + 12, h => omega
theorem isT.r8 {t lt mt mk : Nat} (h : isT t) : RF lt mt mk t 8 = some (t + 4) := by
  rcases h with rfl | rfl | rfl | ⟨i, h, rfl⟩
  · exact rfl
  · exact rfl
  · exact rfl
  · match i, h with
    | 0, _ => exact rfl
    | 1, _ => exact rfl
    | 2, _ => exact rfl
    | 3, _ => exact rfl
    | 4, _ => exact rfl
    | 5, _ => exact rfl
    | 6, _ => exact rfl
    | 7, _ => exact rfl
    | 8, _ => exact rfl
    | 9, _ => exact rfl
    | 10, _ => exact rfl
    | 11, _ => exact rfl
    | n + 12, h => omega
theorem isLA.a {t : Nat} (h : isLA t) : t < 338 ∧ SH t = .inr (0, 11) := by rcases h with rfl | rfl <;> exact ⟨by decide, rfl⟩
theorem cl_lt {i : Int32} {n : Nat} (h : vp_in i n) : i.toNatClampNeg < n := Nat.not_le.mp fun q => h (Or.inr q)
theorem isH_of {i : Int32} (h : vp_in i 12) : isH (30 + 3 * i.toNatClampNeg) := ⟨_, cl_lt h, rfl⟩
theorem isW_of {i : Int32} (h : vp_in i 16) : isW (82 + i.toNatClampNeg) := ⟨_, cl_lt h, rfl⟩
theorem isK_of {i : Int32} (h : vp_in i 60) : isK (98 + i.toNatClampNeg) := ⟨_, cl_lt h, rfl⟩
theorem isT_of {i : Int32} (h : vp_in i 12) : isT (174 + 5 * i.toNatClampNeg) := Or.inr (Or.inr (Or.inr ⟨_, cl_lt h, rfl⟩))
theorem q0 : 0 < 338 ∧ SH 0 = .inl 11 := ⟨by decide, rfl⟩
theorem q1 : 1 < 338 ∧ SH 1 = .inl 6 := ⟨by decide, rfl⟩
theorem q2 : 2 < 338 ∧ SH 2 = .inr (0, 40) := ⟨by decide, rfl⟩
theorem q3 : 3 < 338 ∧ SH 3 = .inr (0, 40) := ⟨by decide, rfl⟩
theorem q4 : 4 < 338 ∧ SH 4 = .inr (0, 40) := ⟨by decide, rfl⟩
theorem q5 : 5 < 338 ∧ SH 5 = .inr (1, 40) := ⟨by decide, rfl⟩
theorem q6 : 6 < 338 ∧ SH 6 = .inr (0, 160) := ⟨by decide, rfl⟩
theorem q7 : 7 < 338 ∧ SH 7 = .inr (0, 400) := ⟨by decide, rfl⟩
theorem q8 : 8 < 338 ∧ SH 8 = .inr (0, 601) := ⟨by decide, rfl⟩
theorem q9 : 9 < 338 ∧ SH 9 = .inl 10 := ⟨by decide, rfl⟩
theorem q10 : 10 < 338 ∧ SH 10 = .inr (5, 12) := ⟨by decide, rfl⟩
theorem q11 : 11 < 338 ∧ SH 11 = .inl 3 := ⟨by decide, rfl⟩
theorem q12 : 12 < 338 ∧ SH 12 = .inr (0, 288) := ⟨by decide, rfl⟩
theorem q13 : 13 < 338 ∧ SH 13 = .inr (0, 288) := ⟨by decide, rfl⟩
theorem q14 : 14 < 338 ∧ SH 14 = .inr (0, 288) := ⟨by decide, rfl⟩
theorem q15 : 15 < 338 ∧ SH 15 = .inr (0, 72) := ⟨by decide, rfl⟩
theorem q16 : 16 < 338 ∧ SH 16 = .inr (1, 72) := ⟨by decide, rfl⟩
theorem q17 : 17 < 338 ∧ SH 17 = .inr (1, 288) := ⟨by decide, rfl⟩
theorem q18 : 18 < 338 ∧ SH 18 = .inr (0, 72) := ⟨by decide, rfl⟩
theorem q19 : 19 < 338 ∧ SH 19 = .inl 3 := ⟨by decide, rfl⟩
theorem q20 : 20 < 338 ∧ SH 20 = .inr (0, 288) := ⟨by decide, rfl⟩
theorem q21 : 21 < 338 ∧ SH 21 = .inr (0, 288) := ⟨by decide, rfl⟩
theorem q22 : 22 < 338 ∧ SH 22 = .inr (0, 288) := ⟨by decide, rfl⟩
theorem q23 : 23 < 338 ∧ SH 23 = .inr (0, 72) := ⟨by decide, rfl⟩
theorem q24 : 24 < 338 ∧ SH 24 = .inr (1, 72) := ⟨by decide, rfl⟩
theorem q25 : 25 < 338 ∧ SH 25 = .inr (1, 288) := ⟨by decide, rfl⟩
theorem q26 : 26 < 338 ∧ SH 26 = .inr (0, 72) := ⟨by decide, rfl⟩
theorem q27 : 27 < 338 ∧ SH 27 = .inr (0, 6) := ⟨by decide, rfl⟩
theorem q28 : 28 < 338 ∧ SH 28 = .inr (0, 20) := ⟨by decide, rfl⟩
theorem q29 : 29 < 338 ∧ SH 29 = .inr (0, 20) := ⟨by decide, rfl⟩
theorem q30 : 30 < 338 ∧ SH 30 = .inl 4 := ⟨by decide, rfl⟩
theorem q31 : 31 < 338 ∧ SH 31 = .inr (0, 6) := ⟨by decide, rfl⟩
theorem q32 : 32 < 338 ∧ SH 32 = .inr (0, 6) := ⟨by decide, rfl⟩
theorem q33 : 33 < 338 ∧ SH 33 = .inl 4 := ⟨by decide, rfl⟩
theorem q34 : 34 < 338 ∧ SH 34 = .inr (0, 6) := ⟨by decide, rfl⟩
theorem q35 : 35 < 338 ∧ SH 35 = .inr (0, 6) := ⟨by decide, rfl⟩
theorem q36 : 36 < 338 ∧ SH 36 = .inl 4 := ⟨by decide, rfl⟩
theorem q37 : 37 < 338 ∧ SH 37 = .inr (0, 6) := ⟨by decide, rfl⟩
theorem q38 : 38 < 338 ∧ SH 38 = .inr (0, 6) := ⟨by decide, rfl⟩
theorem q39 : 39 < 338 ∧ SH 39 = .inl 4 := ⟨by decide, rfl⟩
theorem q40 : 40 < 338 ∧ SH 40 = .inr (0, 6) := ⟨by decide, rfl⟩
theorem q41 : 41 < 338 ∧ SH 41 = .inr (0, 6) := ⟨by decide, rfl⟩
theorem q42 : 42 < 338 ∧ SH 42 = .inl 4 := ⟨by decide, rfl⟩
theorem q43 : 43 < 338 ∧ SH 43 = .inr (0, 6) := ⟨by decide, rfl⟩
theorem q44 : 44 < 338 ∧ SH 44 = .inr (0, 6) := ⟨by decide, rfl⟩
theorem q45 : 45 < 338 ∧ SH 45 = .inl 4 := ⟨by decide, rfl⟩
theorem q46 : 46 < 338 ∧ SH 46 = .inr (0, 6) := ⟨by decide, rfl⟩
theorem q47 : 47 < 338 ∧ SH 47 = .inr (0, 6) := ⟨by decide, rfl⟩
theorem q48 : 48 < 338 ∧ SH 48 = .inl 4 := ⟨by decide, rfl⟩
theorem q49 : 49 < 338 ∧ SH 49 = .inr (0, 6) := ⟨by decide, rfl⟩
theorem q50 : 50 < 338 ∧ SH 50 = .inr (0, 6) := ⟨by decide, rfl⟩
theorem q51 : 51 < 338 ∧ SH 51 = .inl 4 := ⟨by decide, rfl⟩
theorem q52 : 52 < 338 ∧ SH 52 = .inr (0, 6) := ⟨by decide, rfl⟩
theorem q53 : 53 < 338 ∧ SH 53 = .inr (0, 6) := ⟨by decide, rfl⟩
theorem q54 : 54 < 338 ∧ SH 54 = .inl 4 := ⟨by decide, rfl⟩
theorem q55 : 55 < 338 ∧ SH 55 = .inr (0, 6) := ⟨by decide, rfl⟩
theorem q56 : 56 < 338 ∧ SH 56 = .inr (0, 6) := ⟨by decide, rfl⟩
theorem q57 : 57 < 338 ∧ SH 57 = .inl 4 := ⟨by decide, rfl⟩
theorem q58 : 58 < 338 ∧ SH 58 = .inr (0, 6) := ⟨by decide, rfl⟩
theorem q59 : 59 < 338 ∧ SH 59 = .inr (0, 6) := ⟨by decide, rfl⟩
theorem q60 : 60 < 338 ∧ SH 60 = .inl 4 := ⟨by decide, rfl⟩
theorem q61 : 61 < 338 ∧ SH 61 = .inr (0, 6) := ⟨by decide, rfl⟩
theorem q62 : 62 < 338 ∧ SH 62 = .inr (0, 6) := ⟨by decide, rfl⟩
theorem q63 : 63 < 338 ∧ SH 63 = .inl 4 := ⟨by decide, rfl⟩
theorem q64 : 64 < 338 ∧ SH 64 = .inr (0, 6) := ⟨by decide, rfl⟩
theorem q65 : 65 < 338 ∧ SH 65 = .inr (0, 6) := ⟨by decide, rfl⟩
theorem q66 : 66 < 338 ∧ SH 66 = .inl 0 := ⟨by decide, rfl⟩
theorem q67 : 67 < 338 ∧ SH 67 = .inr (6, 16) := ⟨by decide, rfl⟩
theorem q68 : 68 < 338 ∧ SH 68 = .inr (7, 60) := ⟨by decide, rfl⟩
theorem q69 : 69 < 338 ∧ SH 69 = .inl 9 := ⟨by decide, rfl⟩
theorem q70 : 70 < 338 ∧ SH 70 = .inr (0, 200) := ⟨by decide, rfl⟩
theorem q71 : 71 < 338 ∧ SH 71 = .inr (0, 40) := ⟨by decide, rfl⟩
theorem q72 : 72 < 338 ∧ SH 72 = .inr (0, 5) := ⟨by decide, rfl⟩
theorem q73 : 73 < 338 ∧ SH 73 = .inr (0, 40) := ⟨by decide, rfl⟩
theorem q74 : 74 < 338 ∧ SH 74 = .inl 9 := ⟨by decide, rfl⟩
theorem q75 : 75 < 338 ∧ SH 75 = .inr (0, 200) := ⟨by decide, rfl⟩
theorem q76 : 76 < 338 ∧ SH 76 = .inr (0, 40) := ⟨by decide, rfl⟩
theorem q77 : 77 < 338 ∧ SH 77 = .inr (0, 5) := ⟨by decide, rfl⟩
theorem q78 : 78 < 338 ∧ SH 78 = .inr (0, 40) := ⟨by decide, rfl⟩
theorem q79 : 79 < 338 ∧ SH 79 = .inr (0, 11) := ⟨by decide, rfl⟩
theorem q80 : 80 < 338 ∧ SH 80 = .inr (0, 16) := ⟨by decide, rfl⟩
theorem q81 : 81 < 338 ∧ SH 81 = .inr (0, 6) := ⟨by decide, rfl⟩
theorem q82 : 82 < 338 ∧ SH 82 = .inl 2 := ⟨by decide, rfl⟩
theorem q83 : 83 < 338 ∧ SH 83 = .inl 2 := ⟨by decide, rfl⟩
theorem q84 : 84 < 338 ∧ SH 84 = .inl 2 := ⟨by decide, rfl⟩
theorem q85 : 85 < 338 ∧ SH 85 = .inl 2 := ⟨by decide, rfl⟩
theorem q86 : 86 < 338 ∧ SH 86 = .inl 2 := ⟨by decide, rfl⟩
theorem q87 : 87 < 338 ∧ SH 87 = .inl 2 := ⟨by decide, rfl⟩
theorem q88 : 88 < 338 ∧ SH 88 = .inl 2 := ⟨by decide, rfl⟩
theorem q89 : 89 < 338 ∧ SH 89 = .inl 2 := ⟨by decide, rfl⟩
theorem q90 : 90 < 338 ∧ SH 90 = .inl 2 := ⟨by decide, rfl⟩
theorem q91 : 91 < 338 ∧ SH 91 = .inl 2 := ⟨by decide, rfl⟩
theorem q92 : 92 < 338 ∧ SH 92 = .inl 2 := ⟨by decide, rfl⟩
theorem q93 : 93 < 338 ∧ SH 93 = .inl 2 := ⟨by decide, rfl⟩
theorem q94 : 94 < 338 ∧ SH 94 = .inl 2 := ⟨by decide, rfl⟩
theorem q95 : 95 < 338 ∧ SH 95 = .inl 2 := ⟨by decide, rfl⟩
theorem q96 : 96 < 338 ∧ SH 96 = .inl 2 := ⟨by decide, rfl⟩
theorem q97 : 97 < 338 ∧ SH 97 = .inl 2 := ⟨by decide, rfl⟩
theorem q98 : 98 < 338 ∧ SH 98 = .inl 1 := ⟨by decide, rfl⟩
theorem q99 : 99 < 338 ∧ SH 99 = .inl 1 := ⟨by decide, rfl⟩
theorem q100 : 100 < 338 ∧ SH 100 = .inl 1 := ⟨by decide, rfl⟩
theorem q101 : 101 < 338 ∧ SH 101 = .inl 1 := ⟨by decide, rfl⟩
theorem q102 : 102 < 338 ∧ SH 102 = .inl 1 := ⟨by decide, rfl⟩
theorem q103 : 103 < 338 ∧ SH 103 = .inl 1 := ⟨by decide, rfl⟩
theorem q104 : 104 < 338 ∧ SH 104 = .inl 1 := ⟨by decide, rfl⟩
theorem q105 : 105 < 338 ∧ SH 105 = .inl 1 := ⟨by decide, rfl⟩
theorem q106 : 106 < 338 ∧ SH 106 = .inl 1 := ⟨by decide, rfl⟩
theorem q107 : 107 < 338 ∧ SH 107 = .inl 1 := ⟨by decide, rfl⟩
theorem q108 : 108 < 338 ∧ SH 108 = .inl 1 := ⟨by decide, rfl⟩
theorem q109 : 109 < 338 ∧ SH 109 = .inl 1 := ⟨by decide, rfl⟩
theorem q110 : 110 < 338 ∧ SH 110 = .inl 1 := ⟨by decide, rfl⟩
theorem q111 : 111 < 338 ∧ SH 111 = .inl 1 := ⟨by decide, rfl⟩
theorem q112 : 112 < 338 ∧ SH 112 = .inl 1 := ⟨by decide, rfl⟩
theorem q113 : 113 < 338 ∧ SH 113 = .inl 1 := ⟨by decide, rfl⟩
theorem q114 : 114 < 338 ∧ SH 114 = .inl 1 := ⟨by decide, rfl⟩
theorem q115 : 115 < 338 ∧ SH 115 = .inl 1 := ⟨by decide, rfl⟩
theorem q116 : 116 < 338 ∧ SH 116 = .inl 1 := ⟨by decide, rfl⟩
theorem q117 : 117 < 338 ∧ SH 117 = .inl 1 := ⟨by decide, rfl⟩
theorem q118 : 118 < 338 ∧ SH 118 = .inl 1 := ⟨by decide, rfl⟩
theorem q119 : 119 < 338 ∧ SH 119 = .inl 1 := ⟨by decide, rfl⟩
theorem q120 : 120 < 338 ∧ SH 120 = .inl 1 := ⟨by decide, rfl⟩
theorem q121 : 121 < 338 ∧ SH 121 = .inl 1 := ⟨by decide, rfl⟩
theorem q122 : 122 < 338 ∧ SH 122 = .inl 1 := ⟨by decide, rfl⟩
theorem q123 : 123 < 338 ∧ SH 123 = .inl 1 := ⟨by decide, rfl⟩
theorem q124 : 124 < 338 ∧ SH 124 = .inl 1 := ⟨by decide, rfl⟩
theorem q125 : 125 < 338 ∧ SH 125 = .inl 1 := ⟨by decide, rfl⟩
theorem q126 : 126 < 338 ∧ SH 126 = .inl 1 := ⟨by decide, rfl⟩
theorem q127 : 127 < 338 ∧ SH 127 = .inl 1 := ⟨by decide, rfl⟩
theorem q128 : 128 < 338 ∧ SH 128 = .inl 1 := ⟨by decide, rfl⟩
theorem q129 : 129 < 338 ∧ SH 129 = .inl 1 := ⟨by decide, rfl⟩
theorem q130 : 130 < 338 ∧ SH 130 = .inl 1 := ⟨by decide, rfl⟩
theorem q131 : 131 < 338 ∧ SH 131 = .inl 1 := ⟨by decide, rfl⟩
theorem q132 : 132 < 338 ∧ SH 132 = .inl 1 := ⟨by decide, rfl⟩
theorem q133 : 133 < 338 ∧ SH 133 = .inl 1 := ⟨by decide, rfl⟩
theorem q134 : 134 < 338 ∧ SH 134 = .inl 1 := ⟨by decide, rfl⟩
theorem q135 : 135 < 338 ∧ SH 135 = .inl 1 := ⟨by decide, rfl⟩
theorem q136 : 136 < 338 ∧ SH 136 = .inl 1 := ⟨by decide, rfl⟩
theorem q137 : 137 < 338 ∧ SH 137 = .inl 1 := ⟨by decide, rfl⟩
theorem q138 : 138 < 338 ∧ SH 138 = .inl 1 := ⟨by decide, rfl⟩
theorem q139 : 139 < 338 ∧ SH 139 = .inl 1 := ⟨by decide, rfl⟩
theorem q140 : 140 < 338 ∧ SH 140 = .inl 1 := ⟨by decide, rfl⟩
theorem q141 : 141 < 338 ∧ SH 141 = .inl 1 := ⟨by decide, rfl⟩
theorem q142 : 142 < 338 ∧ SH 142 = .inl 1 := ⟨by decide, rfl⟩
theorem q143 : 143 < 338 ∧ SH 143 = .inl 1 := ⟨by decide, rfl⟩
theorem q144 : 144 < 338 ∧ SH 144 = .inl 1 := ⟨by decide, rfl⟩
theorem q145 : 145 < 338 ∧ SH 145 = .inl 1 := ⟨by decide, rfl⟩
theorem q146 : 146 < 338 ∧ SH 146 = .inl 1 := ⟨by decide, rfl⟩
theorem q147 : 147 < 338 ∧ SH 147 = .inl 1 := ⟨by decide, rfl⟩
theorem q148 : 148 < 338 ∧ SH 148 = .inl 1 := ⟨by decide, rfl⟩
theorem q149 : 149 < 338 ∧ SH 149 = .inl 1 := ⟨by decide, rfl⟩
theorem q150 : 150 < 338 ∧ SH 150 = .inl 1 := ⟨by decide, rfl⟩
theorem q151 : 151 < 338 ∧ SH 151 = .inl 1 := ⟨by decide, rfl⟩
theorem q152 : 152 < 338 ∧ SH 152 = .inl 1 := ⟨by decide, rfl⟩
theorem q153 : 153 < 338 ∧ SH 153 = .inl 1 := ⟨by decide, rfl⟩
theorem q154 : 154 < 338 ∧ SH 154 = .inl 1 := ⟨by decide, rfl⟩
theorem q155 : 155 < 338 ∧ SH 155 = .inl 1 := ⟨by decide, rfl⟩
theorem q156 : 156 < 338 ∧ SH 156 = .inl 1 := ⟨by decide, rfl⟩
theorem q157 : 157 < 338 ∧ SH 157 = .inl 1 := ⟨by decide, rfl⟩
theorem q158 : 158 < 338 ∧ SH 158 = .inl 8 := ⟨by decide, rfl⟩
theorem q159 : 159 < 338 ∧ SH 159 = .inr (0, 200) := ⟨by decide, rfl⟩
theorem q160 : 160 < 338 ∧ SH 160 = .inl 9 := ⟨by decide, rfl⟩
theorem q161 : 161 < 338 ∧ SH 161 = .inr (0, 200) := ⟨by decide, rfl⟩
theorem q162 : 162 < 338 ∧ SH 162 = .inr (0, 40) := ⟨by decide, rfl⟩
theorem q163 : 163 < 338 ∧ SH 163 = .inr (0, 5) := ⟨by decide, rfl⟩
theorem q164 : 164 < 338 ∧ SH 164 = .inr (0, 40) := ⟨by decide, rfl⟩
theorem q165 : 165 < 338 ∧ SH 165 = .inl 5 := ⟨by decide, rfl⟩
theorem q166 : 166 < 338 ∧ SH 166 = .inr (8, 12) := ⟨by decide, rfl⟩
theorem q167 : 167 < 338 ∧ SH 167 = .inr (0, 12) := ⟨by decide, rfl⟩
theorem q168 : 168 < 338 ∧ SH 168 = .inr (0, 12) := ⟨by decide, rfl⟩
theorem q169 : 169 < 338 ∧ SH 169 = .inr (0, 100) := ⟨by decide, rfl⟩
theorem q170 : 170 < 338 ∧ SH 170 = .inr (0, 100) := ⟨by decide, rfl⟩
theorem q171 : 171 < 338 ∧ SH 171 = .inr (0, 100) := ⟨by decide, rfl⟩
theorem q172 : 172 < 338 ∧ SH 172 = .inr (0, 100) := ⟨by decide, rfl⟩
theorem q173 : 173 < 338 ∧ SH 173 = .inr (0, 11) := ⟨by decide, rfl⟩
theorem q174 : 174 < 338 ∧ SH 174 = .inl 9 := ⟨by decide, rfl⟩
theorem q175 : 175 < 338 ∧ SH 175 = .inr (0, 200) := ⟨by decide, rfl⟩
theorem q176 : 176 < 338 ∧ SH 176 = .inr (0, 40) := ⟨by decide, rfl⟩
theorem q177 : 177 < 338 ∧ SH 177 = .inr (0, 5) := ⟨by decide, rfl⟩
theorem q178 : 178 < 338 ∧ SH 178 = .inr (0, 40) := ⟨by decide, rfl⟩
theorem q179 : 179 < 338 ∧ SH 179 = .inl 9 := ⟨by decide, rfl⟩
theorem q180 : 180 < 338 ∧ SH 180 = .inr (0, 200) := ⟨by decide, rfl⟩
theorem q181 : 181 < 338 ∧ SH 181 = .inr (0, 40) := ⟨by decide, rfl⟩
theorem q182 : 182 < 338 ∧ SH 182 = .inr (0, 5) := ⟨by decide, rfl⟩
theorem q183 : 183 < 338 ∧ SH 183 = .inr (0, 40) := ⟨by decide, rfl⟩
theorem q184 : 184 < 338 ∧ SH 184 = .inl 9 := ⟨by decide, rfl⟩
theorem q185 : 185 < 338 ∧ SH 185 = .inr (0, 200) := ⟨by decide, rfl⟩
theorem q186 : 186 < 338 ∧ SH 186 = .inr (0, 40) := ⟨by decide, rfl⟩
theorem q187 : 187 < 338 ∧ SH 187 = .inr (0, 5) := ⟨by decide, rfl⟩
theorem q188 : 188 < 338 ∧ SH 188 = .inr (0, 40) := ⟨by decide, rfl⟩
theorem q189 : 189 < 338 ∧ SH 189 = .inl 9 := ⟨by decide, rfl⟩
theorem q190 : 190 < 338 ∧ SH 190 = .inr (0, 200) := ⟨by decide, rfl⟩
theorem q191 : 191 < 338 ∧ SH 191 = .inr (0, 40) := ⟨by decide, rfl⟩
theorem q192 : 192 < 338 ∧ SH 192 = .inr (0, 5) := ⟨by decide, rfl⟩
theorem q193 : 193 < 338 ∧ SH 193 = .inr (0, 40) := ⟨by decide, rfl⟩
theorem q194 : 194 < 338 ∧ SH 194 = .inl 9 := ⟨by decide, rfl⟩
theorem q195 : 195 < 338 ∧ SH 195 = .inr (0, 200) := ⟨by decide, rfl⟩
theorem q196 : 196 < 338 ∧ SH 196 = .inr (0, 40) := ⟨by decide, rfl⟩
theorem q197 : 197 < 338 ∧ SH 197 = .inr (0, 5) := ⟨by decide, rfl⟩
theorem q198 : 198 < 338 ∧ SH 198 = .inr (0, 40) := ⟨by decide, rfl⟩
theorem q199 : 199 < 338 ∧ SH 199 = .inl 9 := ⟨by decide, rfl⟩
theorem q200 : 200 < 338 ∧ SH 200 = .inr (0, 200) := ⟨by decide, rfl⟩
theorem q201 : 201 < 338 ∧ SH 201 = .inr (0, 40) := ⟨by decide, rfl⟩
theorem q202 : 202 < 338 ∧ SH 202 = .inr (0, 5) := ⟨by decide, rfl⟩
theorem q203 : 203 < 338 ∧ SH 203 = .inr (0, 40) := ⟨by decide, rfl⟩
theorem q204 : 204 < 338 ∧ SH 204 = .inl 9 := ⟨by decide, rfl⟩
theorem q205 : 205 < 338 ∧ SH 205 = .inr (0, 200) := ⟨by decide, rfl⟩
theorem q206 : 206 < 338 ∧ SH 206 = .inr (0, 40) := ⟨by decide, rfl⟩
theorem q207 : 207 < 338 ∧ SH 207 = .inr (0, 5) := ⟨by decide, rfl⟩
theorem q208 : 208 < 338 ∧ SH 208 = .inr (0, 40) := ⟨by decide, rfl⟩
theorem q209 : 209 < 338 ∧ SH 209 = .inl 9 := ⟨by decide, rfl⟩
theorem q210 : 210 < 338 ∧ SH 210 = .inr (0, 200) := ⟨by decide, rfl⟩
theorem q211 : 211 < 338 ∧ SH 211 = .inr (0, 40) := ⟨by decide, rfl⟩
theorem q212 : 212 < 338 ∧ SH 212 = .inr (0, 5) := ⟨by decide, rfl⟩
theorem q213 : 213 < 338 ∧ SH 213 = .inr (0, 40) := ⟨by decide, rfl⟩
theorem q214 : 214 < 338 ∧ SH 214 = .inl 9 := ⟨by decide, rfl⟩
theorem q215 : 215 < 338 ∧ SH 215 = .inr (0, 200) := ⟨by decide, rfl⟩
theorem q216 : 216 < 338 ∧ SH 216 = .inr (0, 40) := ⟨by decide, rfl⟩
theorem q217 : 217 < 338 ∧ SH 217 = .inr (0, 5) := ⟨by decide, rfl⟩
theorem q218 : 218 < 338 ∧ SH 218 = .inr (0, 40) := ⟨by decide, rfl⟩
theorem q219 : 219 < 338 ∧ SH 219 = .inl 9 := ⟨by decide, rfl⟩
theorem q220 : 220 < 338 ∧ SH 220 = .inr (0, 200) := ⟨by decide, rfl⟩
theorem q221 : 221 < 338 ∧ SH 221 = .inr (0, 40) := ⟨by decide, rfl⟩
theorem q222 : 222 < 338 ∧ SH 222 = .inr (0, 5) := ⟨by decide, rfl⟩
theorem q223 : 223 < 338 ∧ SH 223 = .inr (0, 40) := ⟨by decide, rfl⟩
theorem q224 : 224 < 338 ∧ SH 224 = .inl 9 := ⟨by decide, rfl⟩
theorem q225 : 225 < 338 ∧ SH 225 = .inr (0, 200) := ⟨by decide, rfl⟩
theorem q226 : 226 < 338 ∧ SH 226 = .inr (0, 40) := ⟨by decide, rfl⟩
theorem q227 : 227 < 338 ∧ SH 227 = .inr (0, 5) := ⟨by decide, rfl⟩
theorem q228 : 228 < 338 ∧ SH 228 = .inr (0, 40) := ⟨by decide, rfl⟩
theorem q229 : 229 < 338 ∧ SH 229 = .inl 9 := ⟨by decide, rfl⟩
theorem q230 : 230 < 338 ∧ SH 230 = .inr (0, 200) := ⟨by decide, rfl⟩
theorem q231 : 231 < 338 ∧ SH 231 = .inr (0, 40) := ⟨by decide, rfl⟩
theorem q232 : 232 < 338 ∧ SH 232 = .inr (0, 5) := ⟨by decide, rfl⟩
theorem q233 : 233 < 338 ∧ SH 233 = .inr (0, 40) := ⟨by decide, rfl⟩
theorem q234 : 234 < 338 ∧ SH 234 = .inl 7 := ⟨by decide, rfl⟩
theorem q235 : 235 < 338 ∧ SH 235 = .inr (0, 8) := ⟨by decide, rfl⟩
theorem q236 : 236 < 338 ∧ SH 236 = .inr (0, 8) := ⟨by decide, rfl⟩
theorem q237 : 237 < 338 ∧ SH 237 = .inr (0, 256) := ⟨by decide, rfl⟩
theorem q238 : 238 < 338 ∧ SH 238 = .inr (0, 2048) := ⟨by decide, rfl⟩
theorem q239 : 239 < 338 ∧ SH 239 = .inr (0, 72) := ⟨by decide, rfl⟩
theorem q240 : 240 < 338 ∧ SH 240 = .inr (0, 8) := ⟨by decide, rfl⟩
theorem q241 : 241 < 338 ∧ SH 241 = .inr (0, 20) := ⟨by decide, rfl⟩
theorem q242 : 242 < 338 ∧ SH 242 = .inr (0, 20) := ⟨by decide, rfl⟩
theorem q243 : 243 < 338 ∧ SH 243 = .inr (0, 6) := ⟨by decide, rfl⟩
theorem q244 : 244 < 338 ∧ SH 244 = .inr (1, 6) := ⟨by decide, rfl⟩
theorem q245 : 245 < 338 ∧ SH 245 = .inr (0, 120) := ⟨by decide, rfl⟩
theorem q246 : 246 < 338 ∧ SH 246 = .inl 12 := ⟨by decide, rfl⟩
theorem q247 : 247 < 338 ∧ SH 247 = .inr (0, 40) := ⟨by decide, rfl⟩
theorem q248 : 248 < 338 ∧ SH 248 = .inr (0, 40) := ⟨by decide, rfl⟩
theorem q249 : 249 < 338 ∧ SH 249 = .inr (0, 40) := ⟨by decide, rfl⟩
theorem q250 : 250 < 338 ∧ SH 250 = .inr (0, 160) := ⟨by decide, rfl⟩
theorem q251 : 251 < 338 ∧ SH 251 = .inr (0, 400) := ⟨by decide, rfl⟩
theorem q252 : 252 < 338 ∧ SH 252 = .inr (1, 40) := ⟨by decide, rfl⟩
theorem q253 : 253 < 338 ∧ SH 253 = .inr (1, 12020) := ⟨by decide, rfl⟩
theorem q254 : 254 < 338 ∧ SH 254 = .inr (0, 12) := ⟨by decide, rfl⟩
theorem q255 : 255 < 338 ∧ SH 255 = .inr (0, 12) := ⟨by decide, rfl⟩
theorem q256 : 256 < 338 ∧ SH 256 = .inr (0, 12) := ⟨by decide, rfl⟩
theorem q257 : 257 < 338 ∧ SH 257 = .inr (0, 12) := ⟨by decide, rfl⟩
theorem q258 : 258 < 338 ∧ SH 258 = .inr (0, 12) := ⟨by decide, rfl⟩
theorem q259 : 259 < 338 ∧ SH 259 = .inr (0, 12) := ⟨by decide, rfl⟩
theorem q260 : 260 < 338 ∧ SH 260 = .inr (0, 12) := ⟨by decide, rfl⟩
theorem q261 : 261 < 338 ∧ SH 261 = .inr (0, 12) := ⟨by decide, rfl⟩
theorem q262 : 262 < 338 ∧ SH 262 = .inr (0, 12) := ⟨by decide, rfl⟩
theorem q263 : 263 < 338 ∧ SH 263 = .inr (0, 12) := ⟨by decide, rfl⟩
theorem q264 : 264 < 338 ∧ SH 264 = .inr (0, 12) := ⟨by decide, rfl⟩
theorem q265 : 265 < 338 ∧ SH 265 = .inr (1, 12) := ⟨by decide, rfl⟩
theorem q266 : 266 < 338 ∧ SH 266 = .inr (0, 288) := ⟨by decide, rfl⟩
theorem q267 : 267 < 338 ∧ SH 267 = .inr (0, 288) := ⟨by decide, rfl⟩
theorem q268 : 268 < 338 ∧ SH 268 = .inr (0, 288) := ⟨by decide, rfl⟩
theorem q269 : 269 < 338 ∧ SH 269 = .inr (0, 288) := ⟨by decide, rfl⟩
theorem q270 : 270 < 338 ∧ SH 270 = .inr (0, 288) := ⟨by decide, rfl⟩
theorem q271 : 271 < 338 ∧ SH 271 = .inr (0, 72) := ⟨by decide, rfl⟩
theorem q272 : 272 < 338 ∧ SH 272 = .inr (0, 72) := ⟨by decide, rfl⟩
theorem q273 : 273 < 338 ∧ SH 273 = .inr (0, 72) := ⟨by decide, rfl⟩
theorem q274 : 274 < 338 ∧ SH 274 = .inr (1, 72) := ⟨by decide, rfl⟩
theorem q275 : 275 < 338 ∧ SH 275 = .inr (0, 6) := ⟨by decide, rfl⟩
theorem q276 : 276 < 338 ∧ SH 276 = .inr (0, 20) := ⟨by decide, rfl⟩
theorem q277 : 277 < 338 ∧ SH 277 = .inr (0, 20) := ⟨by decide, rfl⟩
theorem q278 : 278 < 338 ∧ SH 278 = .inr (0, 6) := ⟨by decide, rfl⟩
theorem q279 : 279 < 338 ∧ SH 279 = .inr (0, 16) := ⟨by decide, rfl⟩
theorem q280 : 280 < 338 ∧ SH 280 = .inr (0, 16) := ⟨by decide, rfl⟩
theorem q281 : 281 < 338 ∧ SH 281 = .inr (0, 16) := ⟨by decide, rfl⟩
theorem q282 : 282 < 338 ∧ SH 282 = .inr (0, 16) := ⟨by decide, rfl⟩
theorem q283 : 283 < 338 ∧ SH 283 = .inr (0, 16) := ⟨by decide, rfl⟩
theorem q284 : 284 < 338 ∧ SH 284 = .inr (0, 16) := ⟨by decide, rfl⟩
theorem q285 : 285 < 338 ∧ SH 285 = .inr (0, 16) := ⟨by decide, rfl⟩
theorem q286 : 286 < 338 ∧ SH 286 = .inr (0, 16) := ⟨by decide, rfl⟩
theorem q287 : 287 < 338 ∧ SH 287 = .inr (0, 16) := ⟨by decide, rfl⟩
theorem q288 : 288 < 338 ∧ SH 288 = .inr (0, 16) := ⟨by decide, rfl⟩
theorem q289 : 289 < 338 ∧ SH 289 = .inr (0, 16) := ⟨by decide, rfl⟩
theorem q290 : 290 < 338 ∧ SH 290 = .inr (0, 16) := ⟨by decide, rfl⟩
theorem q291 : 291 < 338 ∧ SH 291 = .inr (0, 16) := ⟨by decide, rfl⟩
theorem q292 : 292 < 338 ∧ SH 292 = .inr (0, 16) := ⟨by decide, rfl⟩
theorem q293 : 293 < 338 ∧ SH 293 = .inr (0, 16) := ⟨by decide, rfl⟩
theorem q294 : 294 < 338 ∧ SH 294 = .inr (0, 16) := ⟨by decide, rfl⟩
theorem q295 : 295 < 338 ∧ SH 295 = .inr (0, 16) := ⟨by decide, rfl⟩
theorem q296 : 296 < 338 ∧ SH 296 = .inr (0, 16) := ⟨by decide, rfl⟩
theorem q297 : 297 < 338 ∧ SH 297 = .inr (0, 16) := ⟨by decide, rfl⟩
theorem q298 : 298 < 338 ∧ SH 298 = .inr (1, 16) := ⟨by decide, rfl⟩
theorem q299 : 299 < 338 ∧ SH 299 = .inr (2, 200) := ⟨by decide, rfl⟩
theorem q300 : 300 < 338 ∧ SH 300 = .inr (2, 4000) := ⟨by decide, rfl⟩
theorem q301 : 301 < 338 ∧ SH 301 = .inr (2, 2400) := ⟨by decide, rfl⟩
theorem q302 : 302 < 338 ∧ SH 302 = .inr (2, 200) := ⟨by decide, rfl⟩
theorem q303 : 303 < 338 ∧ SH 303 = .inr (0, 20) := ⟨by decide, rfl⟩
theorem q304 : 304 < 338 ∧ SH 304 = .inr (0, 12) := ⟨by decide, rfl⟩
theorem q305 : 305 < 338 ∧ SH 305 = .inr (0, 12) := ⟨by decide, rfl⟩
theorem q306 : 306 < 338 ∧ SH 306 = .inr (0, 12) := ⟨by decide, rfl⟩
theorem q307 : 307 < 338 ∧ SH 307 = .inr (0, 128) := ⟨by decide, rfl⟩
theorem q308 : 308 < 338 ∧ SH 308 = .inr (0, 5) := ⟨by decide, rfl⟩
theorem q309 : 309 < 338 ∧ SH 309 = .inr (0, 200) := ⟨by decide, rfl⟩
theorem q310 : 310 < 338 ∧ SH 310 = .inr (0, 60) := ⟨by decide, rfl⟩
theorem q311 : 311 < 338 ∧ SH 311 = .inr (0, 60) := ⟨by decide, rfl⟩
theorem q312 : 312 < 338 ∧ SH 312 = .inr (0, 60) := ⟨by decide, rfl⟩
theorem q313 : 313 < 338 ∧ SH 313 = .inr (0, 60) := ⟨by decide, rfl⟩
theorem q314 : 314 < 338 ∧ SH 314 = .inr (0, 60) := ⟨by decide, rfl⟩
theorem q315 : 315 < 338 ∧ SH 315 = .inr (0, 60) := ⟨by decide, rfl⟩
theorem q316 : 316 < 338 ∧ SH 316 = .inr (0, 60) := ⟨by decide, rfl⟩
theorem q317 : 317 < 338 ∧ SH 317 = .inr (0, 60) := ⟨by decide, rfl⟩
theorem q318 : 318 < 338 ∧ SH 318 = .inr (1, 60) := ⟨by decide, rfl⟩
theorem q319 : 319 < 338 ∧ SH 319 = .inr (0, 5) := ⟨by decide, rfl⟩
theorem q320 : 320 < 338 ∧ SH 320 = .inr (0, 100) := ⟨by decide, rfl⟩
theorem q321 : 321 < 338 ∧ SH 321 = .inr (0, 100) := ⟨by decide, rfl⟩
theorem q322 : 322 < 338 ∧ SH 322 = .inr (0, 100) := ⟨by decide, rfl⟩
theorem q323 : 323 < 338 ∧ SH 323 = .inr (0, 100) := ⟨by decide, rfl⟩
theorem q324 : 324 < 338 ∧ SH 324 = .inr (0, 12) := ⟨by decide, rfl⟩
theorem q325 : 325 < 338 ∧ SH 325 = .inr (0, 12) := ⟨by decide, rfl⟩
theorem q326 : 326 < 338 ∧ SH 326 = .inr (0, 12) := ⟨by decide, rfl⟩
theorem q327 : 327 < 338 ∧ SH 327 = .inr (1, 12) := ⟨by decide, rfl⟩
theorem q328 : 328 < 338 ∧ SH 328 = .inr (0, 20) := ⟨by decide, rfl⟩
theorem q329 : 329 < 338 ∧ SH 329 = .inr (4, 120) := ⟨by decide, rfl⟩
theorem q330 : 330 < 338 ∧ SH 330 = .inr (4, 20) := ⟨by decide, rfl⟩
theorem q331 : 331 < 338 ∧ SH 331 = .inr (0, 6) := ⟨by decide, rfl⟩
theorem q332 : 332 < 338 ∧ SH 332 = .inr (1, 6) := ⟨by decide, rfl⟩
theorem q333 : 333 < 338 ∧ SH 333 = .inr (0, 288) := ⟨by decide, rfl⟩
theorem q334 : 334 < 338 ∧ SH 334 = .inr (0, 288) := ⟨by decide, rfl⟩
theorem q335 : 335 < 338 ∧ SH 335 = .inr (0, 72) := ⟨by decide, rfl⟩
theorem q336 : 336 < 338 ∧ SH 336 = .inr (1, 72) := ⟨by decide, rfl⟩
theorem q337 : 337 < 338 ∧ SH 337 = .inr (3, 1) := ⟨by decide, rfl⟩
section AWR
variable {M : ab_M} {pc : Nat} {lv : List (Nat × Value)} {st : List Value} {x : ab_X} {d bc bs : Nat} {K : Option Value → ab_St → Prop}
theorem AW_geti {idx ci k c : Nat} (hL : ab_L M.1.cls idx ci k ∧ ab_isr (ab_tf ci k) = false) {pc2 : Nat} (hp : pc + 3 = pc2) (hd : decode M.2.1 pc = .ok (.getfield idx, 3)) (hc : c < 338 ∧ SH c = .inl ci) (h : EW M pc2 lv (.int (x.1 c k) :: st) (aS x) d bc bs K) : EW M pc lv (.ref c :: st) (aS x) d bc bs K := EW_geti hL.2 hL.1 hp hd hc.1 hc.2 h
theorem AW_getr {idx ci k c r : Nat} (hL : ab_L M.1.cls idx ci k ∧ ab_isr (ab_tf ci k) = true) {pc2 : Nat} (hp : pc + 3 = pc2) (hd : decode M.2.1 pc = .ok (.getfield idx, 3)) (hc : c < 338 ∧ SH c = .inl ci) (hr : RF x.2.2.2.1 x.2.2.2.2.1 x.2.2.2.2.2 c k = some r) (h : EW M pc2 lv (.ref r :: st) (aS x) d bc bs K) : EW M pc lv (.ref c :: st) (aS x) d bc bs K := EW_getr hL.2 hr hL.1 hp hd hc.1 hc.2 h
theorem AW_puti {idx ci k c : Nat} {v : Int32} (hL : ab_L M.1.cls idx ci k ∧ ab_tf ci k = .int ∧ (ab_TX ci k).2.2.2 = false) {pc2 : Nat} (hp : pc + 3 = pc2) (hd : decode M.2.1 pc = .ok (.putfield idx, 3)) (hc : c < 338 ∧ SH c = .inl ci) (h : EW M pc2 lv st (aS (wr x c k v)) d bc bs K) : EW M pc lv (.int v :: .ref c :: st) (aS x) d bc bs K := EW_puti (by rw [hL.2.1]; rfl) hL.2.2 (by rw [hL.2.1]; rfl) (by rw [hL.2.1]; rfl) hL.1 hp hd hc.1 hc.2 h
theorem AW_putz {idx ci k c : Nat} {v : Int32} (hL : ab_L M.1.cls idx ci k ∧ ab_tf ci k = .boolean ∧ (ab_TX ci k).2.2.2 = false) (hv : isB v) {pc2 : Nat} (hp : pc + 3 = pc2) (hd : decode M.2.1 pc = .ok (.putfield idx, 3)) (hc : c < 338 ∧ SH c = .inl ci) (h : EW M pc2 lv st (aS (wr x c k v)) d bc bs K) : EW M pc lv (.int v :: .ref c :: st) (aS x) d bc bs K := EW_puti (by rw [hL.2.1]; rfl) hL.2.2 (by rw [hL.2.1]; exact hv.n) (by rw [hL.2.1]; exact hv.f) hL.1 hp hd hc.1 hc.2 h
theorem AW_iald {c n : Nat} {i : Int32} {pc2 : Nat} (hp : pc + 1 = pc2) (hd : decode M.2.1 pc = .ok (.iaload, 1)) (hc : c < 338 ∧ SH c = .inr (0, n)) (hin : vp_in i n) (h : EW M pc2 lv (.int (x.1 c i.toNatClampNeg) :: st) (aS x) d bc bs K) : EW M pc lv (.int i :: .ref c :: st) (aS x) d bc bs K := EW_iald hp hd hc.1 hc.2 hin h
theorem AW_zald {c n : Nat} {i : Int32} {pc2 : Nat} (hp : pc + 1 = pc2) (hd : decode M.2.1 pc = .ok (.baload, 1)) (hc : c < 338 ∧ SH c = .inr (1, n)) (hin : vp_in i n) (h : EW M pc2 lv (.int (x.1 c i.toNatClampNeg) :: st) (aS x) d bc bs K) : EW M pc lv (.int i :: .ref c :: st) (aS x) d bc bs K := EW_zald hp hd hc.1 hc.2 hin h
theorem AW_bald {c n : Nat} {i : Int32} {pc2 : Nat} (hp : pc + 1 = pc2) (hd : decode M.2.1 pc = .ok (.baload, 1)) (hc : c < 338 ∧ SH c = .inr (2, n)) (hin : vp_in i n) (h : EW M pc2 lv (.int (x.1 c i.toNatClampNeg) :: st) (aS x) d bc bs K) : EW M pc lv (.int i :: .ref c :: st) (aS x) d bc bs K := EW_bald hp hd hc.1 hc.2 hin h
theorem AW_lald {c n : Nat} {i : Int32} {pc2 : Nat} (hp : pc + 1 = pc2) (hd : decode M.2.1 pc = .ok (.laload, 1)) (hc : c < 338 ∧ SH c = .inr (3, n)) (hin : vp_in i n) (h : EW M pc2 lv (.long (x.2.2.1 c i.toNatClampNeg) :: st) (aS x) d bc bs K) : EW M pc lv (.int i :: .ref c :: st) (aS x) d bc bs K := EW_lald hp hd hc.1 hc.2 hin h
theorem AW_dald {c n : Nat} {i : Int32} {pc2 : Nat} (hp : pc + 1 = pc2) (hd : decode M.2.1 pc = .ok (.daload, 1)) (hc : c < 338 ∧ SH c = .inr (4, n)) (hin : vp_in i n) (h : EW M pc2 lv (.double (x.2.1 c i.toNatClampNeg) :: st) (aS x) d bc bs K) : EW M pc lv (.int i :: .ref c :: st) (aS x) d bc bs K := EW_dald hp hd hc.1 hc.2 hin h
theorem AW_iast {c n : Nat} {i : Int32} {v : Int32} {pc2 : Nat} (hp : pc + 1 = pc2) (hd : decode M.2.1 pc = .ok (.iastore, 1)) (hc : c < 338 ∧ SH c = .inr (0, n)) (hin : vp_in i n) (h : EW M pc2 lv st (aS (wr x c i.toNatClampNeg v)) d bc bs K) : EW M pc lv (.int v :: .int i :: .ref c :: st) (aS x) d bc bs K := EW_iast hp hd hc.1 hc.2 hin h
theorem AW_bast {c n : Nat} {i : Int32} {v : Int32} {pc2 : Nat} (hp : pc + 1 = pc2) (hd : decode M.2.1 pc = .ok (.bastore, 1)) (hc : c < 338 ∧ SH c = .inr (2, n)) (hin : vp_in i n) (h : EW M pc2 lv st (aS (wr x c i.toNatClampNeg (vp_nar .byte v))) d bc bs K) : EW M pc lv (.int v :: .int i :: .ref c :: st) (aS x) d bc bs K := EW_bast hp hd hc.1 hc.2 hin h
theorem AW_last {c n : Nat} {i : Int32} {v : Int64} {pc2 : Nat} (hp : pc + 1 = pc2) (hd : decode M.2.1 pc = .ok (.lastore, 1)) (hc : c < 338 ∧ SH c = .inr (3, n)) (hin : vp_in i n) (h : EW M pc2 lv st (aS (wrl x c i.toNatClampNeg v)) d bc bs K) : EW M pc lv (.long v :: .int i :: .ref c :: st) (aS x) d bc bs K := EW_last hp hd hc.1 hc.2 hin h
theorem AW_dast {c n : Nat} {i : Int32} {v : UInt64} {pc2 : Nat} (hp : pc + 1 = pc2) (hd : decode M.2.1 pc = .ok (.dastore, 1)) (hc : c < 338 ∧ SH c = .inr (4, n)) (hin : vp_in i n) (h : EW M pc2 lv st (aS (wrd x c i.toNatClampNeg v)) d bc bs K) : EW M pc lv (.double v :: .int i :: .ref c :: st) (aS x) d bc bs K := EW_dast hp hd hc.1 hc.2 hin h
theorem AW_zast {c n : Nat} {i : Int32} {v : Int32} {pc2 : Nat} (hp : pc + 1 = pc2) (hd : decode M.2.1 pc = .ok (.bastore, 1)) (hc : c < 338 ∧ SH c = .inr (1, n)) (hin : vp_in i n) (hv : isB v) (h : EW M pc2 lv st (aS (wr x c i.toNatClampNeg v)) d bc bs K) : EW M pc lv (.int v :: .int i :: .ref c :: st) (aS x) d bc bs K := EW_zast hp hd hc.1 hc.2 hin (by rw [hv.v]; exact h)
theorem AW_aald5 {i : Int32} {pc2 : Nat} (hp : pc + 1 = pc2) (hd : decode M.2.1 pc = .ok (.aaload, 1)) (hin : vp_in i 12) (h : EW M pc2 lv (.ref (30 + 3 * i.toNatClampNeg) :: st) (aS x) d bc bs K) : EW M pc lv (.int i :: .ref 10 :: st) (aS x) d bc bs K := EW_aald5 hp hd q10.1 q10.2 hin (by show RF x.2.2.2.1 x.2.2.2.2.1 x.2.2.2.2.2 10 _ = _; simp [RF, cl_lt hin]) h
theorem AW_aald6 {i : Int32} {pc2 : Nat} (hp : pc + 1 = pc2) (hd : decode M.2.1 pc = .ok (.aaload, 1)) (hin : vp_in i 16) (h : EW M pc2 lv (.ref (82 + i.toNatClampNeg) :: st) (aS x) d bc bs K) : EW M pc lv (.int i :: .ref 67 :: st) (aS x) d bc bs K := EW_aald6 hp hd q67.1 q67.2 hin (by show RF x.2.2.2.1 x.2.2.2.2.1 x.2.2.2.2.2 67 _ = _; simp [RF, cl_lt hin]) h
theorem AW_aald7 {i : Int32} {pc2 : Nat} (hp : pc + 1 = pc2) (hd : decode M.2.1 pc = .ok (.aaload, 1)) (hin : vp_in i 60) (h : EW M pc2 lv (.ref (98 + i.toNatClampNeg) :: st) (aS x) d bc bs K) : EW M pc lv (.int i :: .ref 68 :: st) (aS x) d bc bs K := EW_aald7 hp hd q68.1 q68.2 hin (by show RF x.2.2.2.1 x.2.2.2.2.1 x.2.2.2.2.2 68 _ = _; simp [RF, cl_lt hin]) h
theorem AW_aald8 {i : Int32} {pc2 : Nat} (hp : pc + 1 = pc2) (hd : decode M.2.1 pc = .ok (.aaload, 1)) (hin : vp_in i 12) (h : EW M pc2 lv (.ref (174 + 5 * i.toNatClampNeg) :: st) (aS x) d bc bs K) : EW M pc lv (.int i :: .ref 166 :: st) (aS x) d bc bs K := EW_aald8 hp hd q166.1 q166.2 hin (by show RF x.2.2.2.1 x.2.2.2.2.1 x.2.2.2.2.2 166 _ = _; simp [RF, cl_lt hin]) h
theorem AW_alen {c n : Nat} {v : Int32} {t : Nat} (ht : t < 9) {pc2 : Nat} (hp : pc + 1 = pc2) (hd : decode M.2.1 pc = .ok (.arraylength, 1)) (hc : c < 338 ∧ SH c = .inr (t, n)) (hv : Int32.ofNat n = v) (h : EW M pc2 lv (.int v :: st) (aS x) d bc bs K) : EW M pc lv (.ref c :: st) (aS x) d bc bs K := EW_alen hp hd hc.1 ht hc.2 hv h
theorem AW_zret {v : Int32} (hr : M.2.2.2 = some .boolean) (hv : isB v) (hd : decode M.2.1 pc = .ok (.ireturn, 1)) (hk : K (some (.int v)) (aS x)) : EW M pc lv [.int v] (aS x) d bc bs K := EW_iret hr hv.n hd hk
theorem AW_iret {v : Int32} (hr : M.2.2.2 = some .int) (hd : decode M.2.1 pc = .ok (.ireturn, 1)) (hk : K (some (.int v)) (aS x)) : EW M pc lv [.int v] (aS x) d bc bs K := EW_iret hr rfl hd hk
theorem AW_invS {idx n : Nat} {M' : ab_M} {rest : List Value} (As : List Value) {d' : Nat} (hl : Cond.methodLink M.1.cls idx M'.1 ∈ ab_G ∧ Cond.static M'.1 ∈ ab_G) (hM : ab_okM M' n) {pc2 : Nat} (hp : pc + 3 = pc2) (hd : decode M.2.1 pc = .ok (.invokestatic idx, 3)) (hst : st = As.reverse ++ rest) (hn : As.length = n) (hlen : (lg_sl As).length ≤ M'.2.2.1) (hrm : (rest.map fun v => v.category).sum ≤ 8) (hdd : d' + 1 ≤ d)
    (h : EW M' 0 (lv_args 0 As) [] (aS x) d' 0 0 (fun r σ' => EW M pc2 lv (r.toList ++ rest) σ' d bc bs K)) : EW M pc lv st (aS x) d bc bs K := EW_invS hl.1 hl.2 hp hM hd hst hn hlen hrm hdd (Nat.zero_add _) (Nat.zero_add _) (Or.inl rfl) h
theorem AW_invSN {idx n : Nat} {M' : ab_M} {rest : List Value} (As : List Value) {d' : Nat} {host : String} (hl : Cond.methodLinkNest M.1.cls idx M'.1 host ∈ tables_1.filter ab_isN ∧ Cond.static M'.1 ∈ ab_G) (hM : ab_okM M' n) {pc2 : Nat} (hp : pc + 3 = pc2) (hd : decode M.2.1 pc = .ok (.invokestatic idx, 3)) (hst : st = As.reverse ++ rest) (hn : As.length = n) (hlen : (lg_sl As).length ≤ M'.2.2.1) (hrm : (rest.map fun v => v.category).sum ≤ 8) (hdd : d' + 1 ≤ d)
    (h : EW M' 0 (lv_args 0 As) [] (aS x) d' 0 0 (fun r σ' => EW M pc2 lv (r.toList ++ rest) σ' d bc bs K)) : EW M pc lv st (aS x) d bc bs K := EW_invSN hl.1 hl.2 hp hM hd hst hn hlen hrm hdd (Nat.zero_add _) (Nat.zero_add _) (Or.inl rfl) h
theorem AW_invV {idx n b ci : Nat} {M' : ab_M} {rest : List Value} (As : List Value) {d' : Nat} (hl : Cond.methodLink M.1.cls idx M'.1 ∈ ab_G ∧ Cond.instanceMethod M'.1 ∈ ab_G ∧ Cond.selects M'.1.cls M'.1 M'.1 ∈ ab_G) (hM : ab_okM M' n) {pc2 : Nat} (hp : pc + 3 = pc2) (hd : decode M.2.1 pc = .ok (.invokevirtual idx, 3)) (hst : st = As.reverse ++ .ref b :: rest) (hn : As.length = n) (hlen : (lg_sl (.ref b :: As)).length ≤ M'.2.2.1) (hrm : (rest.map fun v => v.category).sum ≤ 8) (hdd : d' + 1 ≤ d) (hc : b < 338 ∧ SH b = .inl ci) (hcl : ci ≤ 12 ∧ ab_RX ci = M'.1.cls)
    (h : EW M' 0 (lv_args 0 (.ref b :: As)) [] (aS x) d' 0 0 (fun r σ' => EW M pc2 lv (r.toList ++ rest) σ' d bc bs K)) : EW M pc lv st (aS x) d bc bs K := EW_invV hl.1 hl.2.1 hl.2.2 hc.1 hc.2 hcl.1 hcl.2 hp hM hd hst hn hlen hrm hdd (Nat.zero_add _) (Nat.zero_add _) (Or.inl rfl) h
theorem AW_mmin {idx : Nat} {a b : Int32} (hl' : Cond.methodLink M.1.cls idx Lib.Math.min.name ∈ ab_G ∧ Cond.static Lib.Math.min.name ∈ ab_G ∧ Cond.initialized "java/lang/Math" ∈ ab_G ∧ Cond.code Lib.Math.min.name Lib.Math.min.code 2 (some .int) ∈ ab_G) {pc2 : Nat} (hp : pc + 3 = pc2) (hd : decode M.2.1 pc = .ok (.invokestatic idx, 3)) (hrm : (st.map fun v => v.category).sum ≤ 8) (hdd : 1 ≤ d) (h : EW M pc2 lv (.int (imin a b) :: st) (aS x) d bc bs K) : EW M pc lv (.int b :: .int a :: st) (aS x) d bc bs K := by
  subst hp
  intro p l e R s m args below meth c9 D tyc adK adV A H locs cells slots ad d0 ls G hC hP hD hS hl hsa hd0 h1 h2 h3 h4 hG
  have hrm2 : ((st.map (ab_cv ad)).map fun v => v.category).sum ≤ 8 := by
    rw [List.map_map]
    have : ((fun v => v.category) ∘ ab_cv ad) = fun v : Value => v.category := funext fun v => ab_cv_cat ad v
    rw [this]; exact hrm
  exact va_mmin (s := s.setDrawn d0) (x := a) (y := b) hC.1 hC.2.1 (hC.2.2.2.1.trans hl.1.symm) hC.2.2.2.2.1 ((dr_words hC.2.2.2.2.2.1 d0) _ hl'.1) ((dr_words hC.2.2.2.2.2.1 d0) _ hl'.2.1) ((dr_words hC.2.2.2.2.2.1 d0) _ hl'.2.2.1) ((dr_words hC.2.2.2.2.2.1 d0) _ hl'.2.2.2) (by omega) (by omega) (by omega) (by omega) hd (h p l e R s m args below meth c9 D tyc adK adV A H locs cells slots ad d0 ls G hC hP hD hS hl hsa hd0 h1 h2 h3 h4 hG)
theorem AW_mmax {idx : Nat} {a b : Int32} (hl' : Cond.methodLink M.1.cls idx Lib.Math.max.name ∈ ab_G ∧ Cond.static Lib.Math.max.name ∈ ab_G ∧ Cond.initialized "java/lang/Math" ∈ ab_G ∧ Cond.code Lib.Math.max.name Lib.Math.max.code 2 (some .int) ∈ ab_G) {pc2 : Nat} (hp : pc + 3 = pc2) (hd : decode M.2.1 pc = .ok (.invokestatic idx, 3)) (hrm : (st.map fun v => v.category).sum ≤ 8) (hdd : 1 ≤ d) (h : EW M pc2 lv (.int (imax a b) :: st) (aS x) d bc bs K) : EW M pc lv (.int b :: .int a :: st) (aS x) d bc bs K := by
  subst hp
  intro p l e R s m args below meth c9 D tyc adK adV A H locs cells slots ad d0 ls G hC hP hD hS hl hsa hd0 h1 h2 h3 h4 hG
  have hrm2 : ((st.map (ab_cv ad)).map fun v => v.category).sum ≤ 8 := by
    rw [List.map_map]
    have : ((fun v => v.category) ∘ ab_cv ad) = fun v : Value => v.category := funext fun v => ab_cv_cat ad v
    rw [this]; exact hrm
  exact va_mmax (s := s.setDrawn d0) (x := a) (y := b) hC.1 hC.2.1 (hC.2.2.2.1.trans hl.1.symm) hC.2.2.2.2.1 ((dr_words hC.2.2.2.2.2.1 d0) _ hl'.1) ((dr_words hC.2.2.2.2.2.1 d0) _ hl'.2.1) ((dr_words hC.2.2.2.2.2.1 d0) _ hl'.2.2.1) ((dr_words hC.2.2.2.2.2.1 d0) _ hl'.2.2.2) (by omega) (by omega) (by omega) (by omega) hd (h p l e R s m args below meth c9 D tyc adK adV A H locs cells slots ad d0 ls G hC hP hD hS hl hsa hd0 h1 h2 h3 h4 hG)
end AWR
