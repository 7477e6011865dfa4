/-! CHANGES: which cells a state differs in; what of the groups stands therefore (printed by wip/lc/mkB5.py). -/
def outL (L : List (Nat × Nat)) (c : Nat) : Prop := ∀ p, p ∈ L → c < p.1 ∨ p.2 < c
def scC (c : Nat) : Prop := c = 0 ∨ c = 1 ∨ c = 9 ∨ c = 11 ∨ c = 66 ∨ c = 158 ∨ c = 165
def Chg (X Z : Nat → Nat → Int32) (L : List (Nat × Nat)) (S : List Nat) (C : List (Nat × Nat)) : Prop := (∀ c, c ≠ 246 → ¬ scC c → outL L c → Z c = X c) ∧ (∀ f, f ∉ S → Z 246 f = X 246 f) ∧ (∀ c f, scC c → (c, f) ∉ C → Z c f = X c f)
def dsj (L : List (Nat × Nat)) (lo hi : Nat) : Bool := L.all (fun p => Nat.blt hi p.1 || Nat.blt p.2 lo)
def nin (S : List Nat) (f : Nat) : Bool := S.all (fun p => !(Nat.beq p f))
def nip (C : List (Nat × Nat)) (c f : Nat) : Bool := C.all (fun p => !(Nat.beq p.1 c && Nat.beq p.2 f))
theorem dsj_o {L : List (Nat × Nat)} {lo hi c : Nat} (h : dsj L lo hi = true) (h1 : lo ≤ c) (h2 : c ≤ hi) : outL L c := by
  intro p hp
  have := List.all_eq_true.mp h p hp
  rw [Bool.or_eq_true, Nat.blt_eq, Nat.blt_eq] at this
  omega
theorem nin_o {S : List Nat} {f : Nat} (h : nin S f = true) : f ∉ S := by
  intro hp
  have := List.all_eq_true.mp h f hp
  simp at this
theorem nip_o {C : List (Nat × Nat)} {c f : Nat} (h : nip C c f = true) : (c, f) ∉ C := by
  intro hp
  have := List.all_eq_true.mp h (c, f) hp
  simp at this
def ok_Rsc (L : List (Nat × Nat)) (S : List Nat) (C : List (Nat × Nat)) : Bool := nip C 1 7 && nip C 9 2 && nip C 9 6 && nip C 9 9 && nip C 66 3 && nip C 66 5 && nip C 66 7 && nip C 66 12 && nip C 158 1 && nip C 165 4 && nip C 165 9 && nip C 0 9 && nin S 9 && nin S 31 && nin S 56 && nin S 57 && nin S 58 && nin S 92 && nin S 71 && nin S 1 && nin S 70 && nin S 72 && nin S 99 && nin S 116
theorem Rsc_c {X Z : Nat → Nat → Int32} {L : List (Nat × Nat)} {S : List Nat} {C : List (Nat × Nat)} (w : WW X) (h : Rsc X X) (z : Chg X Z L S C) (ok : ok_Rsc L S C = true) : Rsc Z Z := by
  simp only [ok_Rsc, Bool.and_eq_true] at ok
  obtain ⟨⟨⟨⟨⟨⟨⟨⟨⟨⟨⟨⟨⟨⟨⟨⟨⟨⟨⟨⟨⟨⟨⟨q0, q1⟩, q2⟩, q3⟩, q4⟩, q5⟩, q6⟩, q7⟩, q8⟩, q9⟩, q10⟩, q11⟩, q12⟩, q13⟩, q14⟩, q15⟩, q16⟩, q17⟩, q18⟩, q19⟩, q20⟩, q21⟩, q22⟩, q23⟩ := ok
  exact Rsc_fr h (z.2.2 _ _ (by unfold scC; omega) (nip_o q0)) (z.2.2 _ _ (by unfold scC; omega) (nip_o q1)) (z.2.2 _ _ (by unfold scC; omega) (nip_o q2)) (z.2.2 _ _ (by unfold scC; omega) (nip_o q3)) (z.2.2 _ _ (by unfold scC; omega) (nip_o q4)) (z.2.2 _ _ (by unfold scC; omega) (nip_o q5)) (z.2.2 _ _ (by unfold scC; omega) (nip_o q6)) (z.2.2 _ _ (by unfold scC; omega) (nip_o q7)) (z.2.2 _ _ (by unfold scC; omega) (nip_o q8)) (z.2.2 _ _ (by unfold scC; omega) (nip_o q9)) (z.2.2 _ _ (by unfold scC; omega) (nip_o q10)) (z.2.2 _ _ (by unfold scC; omega) (nip_o q11)) (z.2.1 _ (nin_o q12)) (z.2.1 _ (nin_o q13)) (z.2.1 _ (nin_o q14)) (z.2.1 _ (nin_o q15)) (z.2.1 _ (nin_o q16)) (z.2.1 _ (nin_o q17)) (z.2.1 _ (nin_o q18)) (z.2.1 _ (nin_o q19)) (z.2.1 _ (nin_o q20)) (z.2.1 _ (nin_o q21)) (z.2.1 _ (nin_o q22)) (z.2.1 _ (nin_o q23))
def ok_Rst (L : List (Nat × Nat)) (S : List Nat) (C : List (Nat × Nat)) : Bool := dsj L 2 7 && dsj L 247 252 && nin S 9
theorem Rst_c {X Z : Nat → Nat → Int32} {L : List (Nat × Nat)} {S : List Nat} {C : List (Nat × Nat)} (w : WW X) (h : Rst X X) (z : Chg X Z L S C) (ok : ok_Rst L S C = true) : Rst Z Z := by
  simp only [ok_Rst, Bool.and_eq_true] at ok
  obtain ⟨⟨q0, q1⟩, q2⟩ := ok
  exact Rst_fr h (fun c p q => z.1 c (by omega) (by unfold scC; omega) (dsj_o q0 p q)) (fun c p q => z.1 c (by omega) (by unfold scC; omega) (dsj_o q1 p q)) (z.2.1 _ (nin_o q2))
def ok_Rho (L : List (Nat × Nat)) (S : List Nat) (C : List (Nat × Nat)) : Bool := dsj L 30 65 && dsj L 254 265 && dsj L 272 273 && nin S 31
theorem Rho_c {X Z : Nat → Nat → Int32} {L : List (Nat × Nat)} {S : List Nat} {C : List (Nat × Nat)} (w : WW X) (h : Rho X X) (z : Chg X Z L S C) (ok : ok_Rho L S C = true) : Rho Z Z := by
  simp only [ok_Rho, Bool.and_eq_true] at ok
  obtain ⟨⟨⟨q0, q1⟩, q2⟩, q3⟩ := ok
  exact Rho_fr h (fun c p q => z.1 c (by omega) (by unfold scC; omega) (dsj_o q0 p q)) (fun c p q => z.1 c (by omega) (by unfold scC; omega) (dsj_o q1 p q)) (fun c p q => z.1 c (by omega) (by unfold scC; omega) (dsj_o q2 p q)) (z.2.1 _ (nin_o q3)) (fun hh p => by have := w.b31; omega)
def ok_Rfi (L : List (Nat × Nat)) (S : List Nat) (C : List (Nat × Nat)) : Bool := dsj L 12 13 && dsj L 15 17 && dsj L 24 25 && dsj L 266 267 && dsj L 271 271 && dsj L 274 274 && nip C 11 7
theorem Rfi_c {X Z : Nat → Nat → Int32} {L : List (Nat × Nat)} {S : List Nat} {C : List (Nat × Nat)} (w : WW X) (h : Rfi X X) (z : Chg X Z L S C) (ok : ok_Rfi L S C = true) : Rfi Z Z := by
  simp only [ok_Rfi, Bool.and_eq_true] at ok
  obtain ⟨⟨⟨⟨⟨⟨q0, q1⟩, q2⟩, q3⟩, q4⟩, q5⟩, q6⟩ := ok
  exact Rfi_fr h (fun c p q => z.1 c (by omega) (by unfold scC; omega) (dsj_o q0 p q)) (fun c p q => z.1 c (by omega) (by unfold scC; omega) (dsj_o q1 p q)) (fun c p q => z.1 c (by omega) (by unfold scC; omega) (dsj_o q2 p q)) (z.2.2 _ _ (by unfold scC; omega) (nip_o q6)) (fun c p q => z.1 c (by omega) (by unfold scC; omega) (dsj_o q3 p q)) (fun c p q => z.1 c (by omega) (by unfold scC; omega) (dsj_o q4 p q)) (fun c p q => z.1 c (by omega) (by unfold scC; omega) (dsj_o q5 p q))
def ok_Rmh (L : List (Nat × Nat)) (S : List Nat) (C : List (Nat × Nat)) : Bool := dsj L 27 29 && dsj L 275 277 && nin S 56 && nin S 57
theorem Rmh_c {X Z : Nat → Nat → Int32} {L : List (Nat × Nat)} {S : List Nat} {C : List (Nat × Nat)} (w : WW X) (h : Rmh X X) (z : Chg X Z L S C) (ok : ok_Rmh L S C = true) : Rmh Z Z := by
  simp only [ok_Rmh, Bool.and_eq_true] at ok
  obtain ⟨⟨⟨q0, q1⟩, q2⟩, q3⟩ := ok
  exact Rmh_fr h (fun c p q => z.1 c (by omega) (by unfold scC; omega) (dsj_o q0 p q)) (fun c p q => z.1 c (by omega) (by unfold scC; omega) (dsj_o q1 p q)) (z.2.1 _ (nin_o q2)) (z.2.1 _ (nin_o q3))
def ok_Rcr (L : List (Nat × Nat)) (S : List Nat) (C : List (Nat × Nat)) : Bool := dsj L 82 97 && dsj L 279 293 && dsj L 295 295 && dsj L 298 298 && nin S 58
theorem Rcr_c {X Z : Nat → Nat → Int32} {L : List (Nat × Nat)} {S : List Nat} {C : List (Nat × Nat)} (w : WW X) (h : Rcr X X) (z : Chg X Z L S C) (ok : ok_Rcr L S C = true) : Rcr Z Z := by
  simp only [ok_Rcr, Bool.and_eq_true] at ok
  obtain ⟨⟨⟨⟨q0, q1⟩, q2⟩, q3⟩, q4⟩ := ok
  exact Rcr_fr h (fun c f p q => by rw [z.1 (82 + c) (by omega) (by unfold scC; omega) (dsj_o q0 (by omega) (by omega))]) (fun c p q => z.1 c (by omega) (by unfold scC; omega) (dsj_o q1 p q)) (fun c p q => z.1 c (by omega) (by unfold scC; omega) (dsj_o q2 p q)) (fun c p q => z.1 c (by omega) (by unfold scC; omega) (dsj_o q3 p q)) (z.2.1 _ (nin_o q4)) (fun hh p => by have := w.b58; omega)
def ok_Rca (L : List (Nat × Nat)) (S : List Nat) (C : List (Nat × Nat)) : Bool := dsj L 98 157 && dsj L 310 318 && nin S 92
theorem Rca_c {X Z : Nat → Nat → Int32} {L : List (Nat × Nat)} {S : List Nat} {C : List (Nat × Nat)} (w : WW X) (h : Rca X X) (z : Chg X Z L S C) (ok : ok_Rca L S C = true) : Rca Z Z := by
  simp only [ok_Rca, Bool.and_eq_true] at ok
  obtain ⟨⟨q0, q1⟩, q2⟩ := ok
  exact Rca_fr h (fun c p q => z.1 c (by omega) (by unfold scC; omega) (dsj_o q0 p q)) (fun c p q => z.1 c (by omega) (by unfold scC; omega) (dsj_o q1 p q)) (z.2.1 _ (nin_o q2)) (fun hh p => by have := w.b92; omega)
def ok_Rev (L : List (Nat × Nat)) (S : List Nat) (C : List (Nat × Nat)) : Bool := dsj L 167 172 && dsj L 305 306 && dsj L 320 323 && nin S 72 && nin S 99
theorem Rev_c {X Z : Nat → Nat → Int32} {L : List (Nat × Nat)} {S : List Nat} {C : List (Nat × Nat)} (w : WW X) (h : Rev X X) (z : Chg X Z L S C) (ok : ok_Rev L S C = true) : Rev Z Z := by
  simp only [ok_Rev, Bool.and_eq_true] at ok
  obtain ⟨⟨⟨⟨q0, q1⟩, q2⟩, q3⟩, q4⟩ := ok
  exact Rev_fr h (fun c p q => z.1 c (by omega) (by unfold scC; omega) (dsj_o q0 p q)) (fun c p q => z.1 c (by omega) (by unfold scC; omega) (dsj_o q1 p q)) (fun c p q => z.1 c (by omega) (by unfold scC; omega) (dsj_o q2 p q)) (z.2.1 _ (nin_o q3)) (z.2.1 _ (nin_o q4))
def ok_Rta (L : List (Nat × Nat)) (S : List Nat) (C : List (Nat × Nat)) : Bool := dsj L 159 159 && dsj L 299 299 && nin S 70
theorem Rta_c {X Z : Nat → Nat → Int32} {L : List (Nat × Nat)} {S : List Nat} {C : List (Nat × Nat)} (w : WW X) (h : Rta X X) (z : Chg X Z L S C) (ok : ok_Rta L S C = true) : Rta Z Z := by
  simp only [ok_Rta, Bool.and_eq_true] at ok
  obtain ⟨⟨q0, q1⟩, q2⟩ := ok
  exact Rta_fr h (fun c p q => z.1 c (by omega) (by unfold scC; omega) (dsj_o q0 p q)) (fun c p q => z.1 c (by omega) (by unfold scC; omega) (dsj_o q1 p q)) (z.2.1 _ (nin_o q2))
def ok_Rro (L : List (Nat × Nat)) (S : List Nat) (C : List (Nat × Nat)) : Bool := dsj L 243 245 && dsj L 331 332 && nin S 116
theorem Rro_c {X Z : Nat → Nat → Int32} {D D' : Nat → UInt64} {L : List (Nat × Nat)} {S : List Nat} {C : List (Nat × Nat)} (w : WW X) (h : Rro X X D) (z : Chg X Z L S C) (ok : ok_Rro L S C = true) (d : D' = D) : Rro Z Z D' := by
  simp only [ok_Rro, Bool.and_eq_true] at ok
  obtain ⟨⟨q0, q1⟩, q2⟩ := ok
  exact Rro_fr h (fun c p q => z.1 c (by omega) (by unfold scC; omega) (dsj_o q0 p q)) (fun c p q => z.1 c (by omega) (by unfold scC; omega) (dsj_o q1 p q)) (z.2.1 _ (nin_o q2)) d
def ok_Rwa (L : List (Nat × Nat)) (S : List Nat) (C : List (Nat × Nat)) : Bool := dsj L 268 268
theorem Rwa_c {X Z : Nat → Nat → Int32} {L : List (Nat × Nat)} {S : List Nat} {C : List (Nat × Nat)} (w : WW X) (h : Rwa X X) (z : Chg X Z L S C) (ok : ok_Rwa L S C = true) : Rwa Z Z := by
  have q0 := ok
  exact Rwa_fr h (fun c p q => z.1 c (by omega) (by unfold scC; omega) (dsj_o q0 p q))
def ok_Wsc (L : List (Nat × Nat)) (S : List Nat) (C : List (Nat × Nat)) : Bool := nin S 9 && nin S 31 && nin S 56 && nin S 57 && nin S 58 && nin S 92 && nin S 71 && nin S 1 && nin S 70 && nin S 72 && nin S 99 && nin S 116
theorem Wsc_c {X Z : Nat → Nat → Int32} {L : List (Nat × Nat)} {S : List Nat} {C : List (Nat × Nat)} (w : WW X) (h : Wsc X) (z : Chg X Z L S C) (ok : ok_Wsc L S C = true) : Wsc Z := by
  simp only [ok_Wsc, Bool.and_eq_true] at ok
  obtain ⟨⟨⟨⟨⟨⟨⟨⟨⟨⟨⟨q0, q1⟩, q2⟩, q3⟩, q4⟩, q5⟩, q6⟩, q7⟩, q8⟩, q9⟩, q10⟩, q11⟩ := ok
  exact Wsc_fr h (z.2.1 _ (nin_o q0)) (z.2.1 _ (nin_o q1)) (z.2.1 _ (nin_o q2)) (z.2.1 _ (nin_o q3)) (z.2.1 _ (nin_o q4)) (z.2.1 _ (nin_o q5)) (z.2.1 _ (nin_o q6)) (z.2.1 _ (nin_o q7)) (z.2.1 _ (nin_o q8)) (z.2.1 _ (nin_o q9)) (z.2.1 _ (nin_o q10)) (z.2.1 _ (nin_o q11))
def ok_Wst (L : List (Nat × Nat)) (S : List Nat) (C : List (Nat × Nat)) : Bool := dsj L 247 250 && dsj L 252 252 && nin S 9
theorem Wst_c {X Z : Nat → Nat → Int32} {L : List (Nat × Nat)} {S : List Nat} {C : List (Nat × Nat)} (w : WW X) (h : Wst X) (z : Chg X Z L S C) (ok : ok_Wst L S C = true) : Wst Z := by
  simp only [ok_Wst, Bool.and_eq_true] at ok
  obtain ⟨⟨q0, q1⟩, q2⟩ := ok
  exact Wst_fr h (fun c p q => z.1 c (by omega) (by unfold scC; omega) (dsj_o q0 p q)) (fun c p q => z.1 c (by omega) (by unfold scC; omega) (dsj_o q1 p q)) (z.2.1 _ (nin_o q2))
def ok_Wwk (L : List (Nat × Nat)) (S : List Nat) (C : List (Nat × Nat)) : Bool := dsj L 251 251
theorem Wwk_c {X Z : Nat → Nat → Int32} {L : List (Nat × Nat)} {S : List Nat} {C : List (Nat × Nat)} (w : WW X) (h : Wwk X) (z : Chg X Z L S C) (ok : ok_Wwk L S C = true) : Wwk Z := by
  have q0 := ok
  exact Wwk_fr h (fun c p q => z.1 c (by omega) (by unfold scC; omega) (dsj_o q0 p q))
def ok_Who (L : List (Nat × Nat)) (S : List Nat) (C : List (Nat × Nat)) : Bool := dsj L 254 261 && dsj L 265 265 && dsj L 272 273 && nin S 31
theorem Who_c {X Z : Nat → Nat → Int32} {L : List (Nat × Nat)} {S : List Nat} {C : List (Nat × Nat)} (w : WW X) (h : Who X) (z : Chg X Z L S C) (ok : ok_Who L S C = true) : Who Z := by
  simp only [ok_Who, Bool.and_eq_true] at ok
  obtain ⟨⟨⟨q0, q1⟩, q2⟩, q3⟩ := ok
  exact Who_fr h (fun c p q => z.1 c (by omega) (by unfold scC; omega) (dsj_o q0 p q)) (fun c p q => z.1 c (by omega) (by unfold scC; omega) (dsj_o q1 p q)) (fun c p q => z.1 c (by omega) (by unfold scC; omega) (dsj_o q2 p q)) (z.2.1 _ (nin_o q3))
def ok_Wfi (L : List (Nat × Nat)) (S : List Nat) (C : List (Nat × Nat)) : Bool := dsj L 266 267 && dsj L 271 272 && dsj L 274 274 && dsj L 255 257 && nin S 31
theorem Wfi_c {X Z : Nat → Nat → Int32} {L : List (Nat × Nat)} {S : List Nat} {C : List (Nat × Nat)} (w : WW X) (h : Wfi X) (z : Chg X Z L S C) (ok : ok_Wfi L S C = true) : Wfi Z := by
  simp only [ok_Wfi, Bool.and_eq_true] at ok
  obtain ⟨⟨⟨⟨q0, q1⟩, q2⟩, q3⟩, q4⟩ := ok
  exact Wfi_fr h (fun c p q => z.1 c (by omega) (by unfold scC; omega) (dsj_o q0 p q)) (fun c p q => z.1 c (by omega) (by unfold scC; omega) (dsj_o q1 p q)) (fun c p q => z.1 c (by omega) (by unfold scC; omega) (dsj_o q2 p q)) (fun c p q => z.1 c (by omega) (by unfold scC; omega) (dsj_o q3 p q)) (z.2.1 _ (nin_o q4))
def ok_Wmh (L : List (Nat × Nat)) (S : List Nat) (C : List (Nat × Nat)) : Bool := dsj L 275 277 && nin S 56 && nin S 57
theorem Wmh_c {X Z : Nat → Nat → Int32} {L : List (Nat × Nat)} {S : List Nat} {C : List (Nat × Nat)} (w : WW X) (h : Wmh X) (z : Chg X Z L S C) (ok : ok_Wmh L S C = true) : Wmh Z := by
  simp only [ok_Wmh, Bool.and_eq_true] at ok
  obtain ⟨⟨q0, q1⟩, q2⟩ := ok
  exact Wmh_fr h (fun c p q => z.1 c (by omega) (by unfold scC; omega) (dsj_o q0 p q)) (z.2.1 _ (nin_o q1)) (z.2.1 _ (nin_o q2))
def ok_Wcr (L : List (Nat × Nat)) (S : List Nat) (C : List (Nat × Nat)) : Bool := dsj L 279 293 && dsj L 295 295 && dsj L 298 298 && dsj L 254 254 && nin S 58 && nin S 92 && nin S 31 && nin S 1
theorem Wcr_c {X Z : Nat → Nat → Int32} {L : List (Nat × Nat)} {S : List Nat} {C : List (Nat × Nat)} (w : WW X) (h : Wcr X) (z : Chg X Z L S C) (ok : ok_Wcr L S C = true) : Wcr Z := by
  simp only [ok_Wcr, Bool.and_eq_true] at ok
  obtain ⟨⟨⟨⟨⟨⟨⟨q0, q1⟩, q2⟩, q3⟩, q4⟩, q5⟩, q6⟩, q7⟩ := ok
  exact Wcr_fr h (fun c p q => z.1 c (by omega) (by unfold scC; omega) (dsj_o q0 p q)) (fun c p q => z.1 c (by omega) (by unfold scC; omega) (dsj_o q1 p q)) (fun c p q => z.1 c (by omega) (by unfold scC; omega) (dsj_o q2 p q)) (fun c p q => z.1 c (by omega) (by unfold scC; omega) (dsj_o q3 p q)) (z.2.1 _ (nin_o q4)) (z.2.1 _ (nin_o q5)) (z.2.1 _ (nin_o q6)) (z.2.1 _ (nin_o q7))
def ok_Wca (L : List (Nat × Nat)) (S : List Nat) (C : List (Nat × Nat)) : Bool := dsj L 310 318 && nin S 92 && nin S 1
theorem Wca_c {X Z : Nat → Nat → Int32} {L : List (Nat × Nat)} {S : List Nat} {C : List (Nat × Nat)} (w : WW X) (h : Wca X) (z : Chg X Z L S C) (ok : ok_Wca L S C = true) : Wca Z := by
  simp only [ok_Wca, Bool.and_eq_true] at ok
  obtain ⟨⟨q0, q1⟩, q2⟩ := ok
  exact Wca_fr h (fun c p q => z.1 c (by omega) (by unfold scC; omega) (dsj_o q0 p q)) (z.2.1 _ (nin_o q1)) (z.2.1 _ (nin_o q2))
def ok_Wev (L : List (Nat × Nat)) (S : List Nat) (C : List (Nat × Nat)) : Bool := dsj L 305 306 && dsj L 320 323 && nin S 99 && nin S 31 && nin S 72 && nin S 1
theorem Wev_c {X Z : Nat → Nat → Int32} {L : List (Nat × Nat)} {S : List Nat} {C : List (Nat × Nat)} (w : WW X) (h : Wev X) (z : Chg X Z L S C) (ok : ok_Wev L S C = true) : Wev Z := by
  simp only [ok_Wev, Bool.and_eq_true] at ok
  obtain ⟨⟨⟨⟨⟨q0, q1⟩, q2⟩, q3⟩, q4⟩, q5⟩ := ok
  exact Wev_fr h (fun c p q => z.1 c (by omega) (by unfold scC; omega) (dsj_o q0 p q)) (fun c p q => z.1 c (by omega) (by unfold scC; omega) (dsj_o q1 p q)) (z.2.1 _ (nin_o q2)) (z.2.1 _ (nin_o q3)) (z.2.1 _ (nin_o q4)) (z.2.1 _ (nin_o q5))
def ok_Wcb (L : List (Nat × Nat)) (S : List Nat) (C : List (Nat × Nat)) : Bool := dsj L 254 254 && dsj L 256 257 && dsj L 266 267 && dsj L 310 310 && dsj L 312 312 && dsj L 318 318 && nin S 31 && nin S 92
theorem Wcb_c {X Z : Nat → Nat → Int32} {L : List (Nat × Nat)} {S : List Nat} {C : List (Nat × Nat)} (w : WW X) (h : Wcb X) (z : Chg X Z L S C) (ok : ok_Wcb L S C = true) : Wcb Z := by
  simp only [ok_Wcb, Bool.and_eq_true] at ok
  obtain ⟨⟨⟨⟨⟨⟨⟨q0, q1⟩, q2⟩, q3⟩, q4⟩, q5⟩, q6⟩, q7⟩ := ok
  exact Wcb_fr h (fun c p q => z.1 c (by omega) (by unfold scC; omega) (dsj_o q0 p q)) (fun c p q => z.1 c (by omega) (by unfold scC; omega) (dsj_o q1 p q)) (fun c p q => z.1 c (by omega) (by unfold scC; omega) (dsj_o q2 p q)) (fun c p q => z.1 c (by omega) (by unfold scC; omega) (dsj_o q3 p q)) (fun c p q => z.1 c (by omega) (by unfold scC; omega) (dsj_o q4 p q)) (fun c p q => z.1 c (by omega) (by unfold scC; omega) (dsj_o q5 p q)) (z.2.1 _ (nin_o q6)) (z.2.1 _ (nin_o q7))
theorem InvA_chg {x z : ab_X} (h : InvA x) {L : List (Nat × Nat)} {S : List Nat} {C : List (Nat × Nat)} (chg : Chg x.1 z.1 L S C) (sc : ok_Rsc L S C = true ∨ Rsc z.1 z.1) (st : ok_Rst L S C = true ∨ Rst z.1 z.1) (ho : ok_Rho L S C = true ∨ Rho z.1 z.1) (fi : ok_Rfi L S C = true ∨ Rfi z.1 z.1) (mh : ok_Rmh L S C = true ∨ Rmh z.1 z.1) (cr : ok_Rcr L S C = true ∨ Rcr z.1 z.1) (ca : ok_Rca L S C = true ∨ Rca z.1 z.1) (ev : ok_Rev L S C = true ∨ Rev z.1 z.1) (ta : ok_Rta L S C = true ∨ Rta z.1 z.1) (wa : ok_Rwa L S C = true ∨ Rwa z.1 z.1) (ro : (ok_Rro L S C = true ∧ z.2.1 329 = x.2.1 329) ∨ Rro z.1 z.1 (z.2.1 329)) (wsc : ok_Wsc L S C = true ∨ Wsc z.1) (wst : ok_Wst L S C = true ∨ Wst z.1) (wwk : ok_Wwk L S C = true ∨ Wwk z.1) (who : ok_Who L S C = true ∨ Who z.1) (wfi : ok_Wfi L S C = true ∨ Wfi z.1) (wmh : ok_Wmh L S C = true ∨ Wmh z.1) (wcr : ok_Wcr L S C = true ∨ Wcr z.1) (wca : ok_Wca L S C = true ∨ Wca z.1) (wev : ok_Wev L S C = true ∨ Wev z.1) (wcb : ok_Wcb L S C = true ∨ Wcb z.1) : InvA z := by
  have w := h.2
  refine ⟨⟨sc.elim (fun o => Rsc_c w h.1.sc chg o) id, st.elim (fun o => Rst_c w h.1.st chg o) id, ho.elim (fun o => Rho_c w h.1.ho chg o) id, fi.elim (fun o => Rfi_c w h.1.fi chg o) id, mh.elim (fun o => Rmh_c w h.1.mh chg o) id, cr.elim (fun o => Rcr_c w h.1.cr chg o) id, ca.elim (fun o => Rca_c w h.1.ca chg o) id, ev.elim (fun o => Rev_c w h.1.ev chg o) id, ta.elim (fun o => Rta_c w h.1.ta chg o) id, ro.elim (fun o => Rro_c w h.1.ro chg o.1 o.2) id, wa.elim (fun o => Rwa_c w h.1.wa chg o) id⟩, wsc.elim (fun o => Wsc_c w h.2.sc chg o) id, wst.elim (fun o => Wst_c w h.2.st chg o) id, wwk.elim (fun o => Wwk_c w h.2.wk chg o) id, who.elim (fun o => Who_c w h.2.ho chg o) id, wfi.elim (fun o => Wfi_c w h.2.fi chg o) id, wmh.elim (fun o => Wmh_c w h.2.mh chg o) id, wcr.elim (fun o => Wcr_c w h.2.cr chg o) id, wca.elim (fun o => Wca_c w h.2.ca chg o) id, wev.elim (fun o => Wev_c w h.2.ev chg o) id, wcb.elim (fun o => Wcb_c w h.2.cb chg o) id⟩
