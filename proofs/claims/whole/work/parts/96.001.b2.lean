/-! THE RELATION R between the class's cells (X) and the reference's (Y), and the bounds W of the reference's. -/
/-- the last index below n at which p holds; the first of m from i on -/
def lastB (p : Nat → Bool) : Nat → Int32
  | 0 => -nI 1
  | n + 1 => if p n then nI n else lastB p n
def fstB (p : Nat → Bool) : Nat → Nat → Int32
  | _, 0 => -nI 1
  | i, m + 1 => if p i then nI i else fstB p (i + 1) m
def prv (Y : Nat → Nat → Int32) (h : Nat) : Int32 := lastB (fun j => decide (Y 254 j = Y 254 h)) h
def nxt (Y : Nat → Nat → Int32) (n h : Nat) : Int32 := fstB (fun j => decide (Y 254 j = Y 254 h)) (h + 1) (n - (h + 1))
def Rsc (X Y : Nat → Nat → Int32) : Prop := X 1 7 = Y 246 9 ∧ X 9 2 = Y 246 31 ∧ X 9 6 = Y 246 56 ∧ X 9 9 = Y 246 57 ∧ X 66 3 = Y 246 58 ∧ X 66 5 = Y 246 92 ∧ X 66 7 = Y 246 71 ∧ X 66 12 = Y 246 1 ∧ X 158 1 = Y 246 70 ∧ X 165 4 = Y 246 72 ∧ X 165 9 = Y 246 99 ∧ X 0 9 = Y 246 116
def Rst (X Y : Nat → Nat → Int32) : Prop := (∀ k, k < nv Y 246 9 → X 2 k = Y 247 k ∧ X 3 k = Y 248 k ∧ X 4 k = Y 249 k) ∧ (∀ k, k < 40 → X 5 k = Y 252 k) ∧ (∀ k, k < 4 * nv Y 246 9 → X 6 k = Y 250 k) ∧ (∀ k, 4 * nv Y 246 9 ≤ k → k < 160 → X 6 k = nI 100) ∧ (∀ k, k < 400 → X 7 k = Y 251 k)
def Rho (X Y : Nat → Nat → Int32) : Prop := (∀ h, h < 12 → X (30 + 3 * h) 0 = nI h ∧ X (30 + 3 * h) 6 = Y 265 h ∧ X (30 + 3 * h) 7 = Y 259 h ∧ X (30 + 3 * h) 9 = Y 261 h ∧ X (30 + 3 * h) 14 = Y 262 h ∧ X (30 + 3 * h) 15 = Y 263 h ∧ X (30 + 3 * h) 16 = Y 264 h) ∧ (∀ h f, h < 12 → f < 6 → X (30 + 3 * h + 1) f = Y 273 (6 * h + f) ∧ X (30 + 3 * h + 2) f = Y 272 (6 * h + f)) ∧ (∀ h, h < nv Y 246 31 → X (30 + 3 * h) 1 = Y 254 h ∧ X (30 + 3 * h) 2 = Y 255 h ∧ X (30 + 3 * h) 3 = Y 256 h ∧ X (30 + 3 * h) 4 = Y 257 h ∧ X (30 + 3 * h) 5 = Y 258 h ∧ X (30 + 3 * h) 8 = Y 260 h ∧ X (30 + 3 * h) 10 = prv Y h ∧ X (30 + 3 * h) 11 = nxt Y (nv Y 246 31) h) ∧ (∀ h, nv Y 246 31 ≤ h → h < 12 → X (30 + 3 * h) 8 = nI 1 ∧ X (30 + 3 * h) 10 = -nI 1 ∧ X (30 + 3 * h) 11 = -nI 1)
def Rfi (X Y : Nat → Nat → Int32) : Prop := (∀ k, k < 288 → X 12 k = Y 266 k ∧ X 13 k = Y 267 k ∧ isB (X 17 k) ∧ isB (X 25 k)) ∧ (∀ k, k < 72 → X 15 k = Y 271 k ∧ X 16 k = Y 274 k ∧ isB (X 24 k)) ∧ isB (X 11 7) ∧ (¬ X 11 7 = nI 0 → ∀ k, k < 288 → Y 266 k = nI 0)
def Rmh (X Y : Nat → Nat → Int32) : Prop := (∀ k, k < nv Y 246 56 → X 27 k = Y 275 k) ∧ (∀ k, k < nv Y 246 57 → X 28 k = Y 276 k ∧ X 29 k = Y 277 k)
def Rcr (X Y : Nat → Nat → Int32) : Prop := (∀ c, c < nv Y 246 58 → X (82 + c) 0 = Y 279 c ∧ X (82 + c) 1 = Y 280 c ∧ X (82 + c) 2 = Y 298 c ∧ X (82 + c) 3 = Y 281 c ∧ X (82 + c) 4 = Y 282 c ∧ X (82 + c) 5 = Y 283 c ∧ X (82 + c) 6 = Y 284 c ∧ X (82 + c) 7 = Y 285 c ∧ X (82 + c) 8 = Y 286 c ∧ X (82 + c) 9 = Y 287 c ∧ X (82 + c) 10 = Y 288 c ∧ X (82 + c) 11 = Y 289 c ∧ X (82 + c) 12 = Y 290 c ∧ X (82 + c) 13 = Y 291 c ∧ X (82 + c) 14 = Y 293 c ∧ X (82 + c) 15 = Y 292 c ∧ X (82 + c) 16 = Y 295 c) ∧ (∀ c, nv Y 246 58 ≤ c → c < 16 → X (82 + c) 8 = nI 0 ∧ X (82 + c) 10 = -nI 1 ∧ X (82 + c) 11 = -nI 1 ∧ X (82 + c) 12 = -nI 1 ∧ X (82 + c) 13 = -nI 1 ∧ X (82 + c) 14 = nI 0 ∧ X (82 + c) 15 = nI 0 ∧ X (82 + c) 16 = nI 0)
def Rca (X Y : Nat → Nat → Int32) : Prop := (∀ k, k < nv Y 246 92 → X (98 + k) 0 = Y 310 k ∧ X (98 + k) 1 = Y 311 k ∧ X (98 + k) 2 = Y 312 k ∧ X (98 + k) 3 = Y 313 k ∧ X (98 + k) 4 = Y 314 k ∧ X (98 + k) 5 = Y 315 k ∧ X (98 + k) 6 = Y 316 k ∧ X (98 + k) 7 = Y 317 k ∧ X (98 + k) 8 = Y 318 k) ∧ (∀ k, nv Y 246 92 ≤ k → k < 60 → X (98 + k) 1 = nI 0 ∧ X (98 + k) 2 = nI 0 ∧ X (98 + k) 4 = -nI 1 ∧ X (98 + k) 5 = nI 0 ∧ X (98 + k) 6 = nI 0 ∧ X (98 + k) 7 = nI 0 ∧ X (98 + k) 8 = nI 0)
def Rev (X Y : Nat → Nat → Int32) : Prop := (∀ k, k < nv Y 246 99 → X 169 k = Y 320 k ∧ X 170 k = Y 323 k ∧ X 171 k = Y 321 k ∧ X 172 k = Y 322 k) ∧ (∀ k, k < nv Y 246 72 → X 167 k = Y 305 k ∧ X 168 k = Y 306 k)
def Rta (X Y : Nat → Nat → Int32) : Prop := ∀ k, k < nv Y 246 70 → X 159 k = nI (nv X 159 k) ∧ 1 ≤ nv X 159 k ∧ nv X 159 k < 256 ∧ Y 299 k = (X 159 k).toInt8.toInt32
/-- what the reference keeps of a number, by the row's kind -/
def rw_ok (kind v : Int32) (d : UInt64) : Prop := (kind = nI 3 → (v = -nI 1000000 → d = 9221120237041090560) ∧ (¬ v = -nI 1000000 → ∃ r, alike32 r (FP.fdiv (FP.i2f v) 1090519040) = true ∧ alike64 d (FP.f2d r) = true)) ∧ (¬ kind = nI 3 → d = FP.i2d v)
def Rro (X Y : Nat → Nat → Int32) (D : Nat → UInt64) : Prop := (∀ k, k < nv Y 246 116 → X 243 k = Y 331 k ∧ nbd Y 331 k 3 ∧ ∀ c, c < 20 → rw_ok (Y 331 k) (X 245 (20 * k + c)) (D (20 * k + c))) ∧ (∀ k, k < 6 → X 244 k = Y 332 k ∧ isB (Y 332 k)) ∧ (∀ k, k < 120 → -1000000 ≤ (X 245 k).toInt ∧ (X 245 k).toInt ≤ 1000000) ∧ (∀ k, nv Y 246 116 ≤ k → k < 6 → ∀ c, c < 20 → X 245 (20 * k + c) = nI 0 ∧ D (20 * k + c) = 0)
def Wsc (Y : Nat → Nat → Int32) : Prop := nbd Y 246 9 40 ∧ nbd Y 246 31 12 ∧ nbd Y 246 56 6 ∧ nbd Y 246 57 20 ∧ nbd Y 246 58 16 ∧ nbd Y 246 92 60 ∧ nbd Y 246 71 20 ∧ nbd Y 246 1 20000 ∧ nbd Y 246 70 200 ∧ nbd Y 246 72 12 ∧ nbd Y 246 99 100 ∧ nbd Y 246 116 6
def Wst (Y : Nat → Nat → Int32) : Prop := (∀ k, k < nv Y 246 9 → nbd Y 247 k 19 ∧ nbd Y 248 k 19 ∧ nbd Y 249 k 20 ∧ 1 ≤ nv Y 249 k) ∧ (∀ k, k < 40 → isB (Y 252 k)) ∧ (∀ k, k < 4 * nv Y 246 9 → nbd Y 250 k 400 ∧ 100 ≤ nv Y 250 k)
def Wwk (Y : Nat → Nat → Int32) : Prop := (∀ k, k < 400 → nbd Y 251 k 1000000) ∧ (∀ a, a < 20 → nv Y 251 (20 * a + a) = 0) ∧ (∀ a b, a < 20 → b < 20 → nv Y 251 (20 * a + b) = nv Y 251 (20 * b + a)) ∧ (∀ a b c, a < 20 → b < 20 → c < 20 → nv Y 251 (20 * a + c) ≤ nv Y 251 (20 * a + b) + nv Y 251 (20 * b + c))
def Who (Y : Nat → Nat → Int32) : Prop := (∀ h, h < nv Y 246 31 → nbd Y 254 h 19 ∧ nbd Y 255 h 2 ∧ nbd Y 256 h 6 ∧ 1 ≤ nv Y 256 h ∧ nbd Y 257 h 4 ∧ 1 ≤ nv Y 257 h ∧ (Y 258 h = -nI 1 ∨ nbd Y 258 h (nv Y 257 h - 1)) ∧ nbd Y 260 h 200 ∧ 1 ≤ nv Y 260 h) ∧ (∀ h, h < 12 → nbd Y 259 h 3 ∧ nbd Y 261 h 9 ∧ isB (Y 265 h)) ∧ (∀ k, k < 72 → nbd Y 272 k 20 ∧ nbd Y 273 k 500)
/-- what rests on a floor; what a house bears -/
def ld (Y : Nat → Nat → Int32) (h f : Nat) : Int32 := if f = 0 then nI 0 else Y 271 (6 * h + f) + nI 2 * Y 271 (6 * h + f - 1)
def brN (Y : Nat → Nat → Int32) (h : Nat) : Nat := nv Y 257 h * (if nv Y 255 h = 0 then 60 else if nv Y 255 h = 1 then 100 else 140)
/-- no floor stands that should have fallen -/
def WLd (Y : Nat → Nat → Int32) : Prop := ∀ h g, h < nv Y 246 31 → g + 1 < nv Y 256 h → Y 274 (6 * h + (g + 1)) = nI 0 → ld Y h (g + 1) < nI (brN Y h)
def Wfi (Y : Nat → Nat → Int32) : Prop := (∀ k, k < 288 → nbd Y 266 k 1000 ∧ nbd Y 267 k 2000) ∧ (∀ k, k < 72 → isB (Y 274 k)) ∧ (∀ h r, h < 12 → r < 24 → (nv Y 246 31 ≤ h ∨ nv Y 256 h * nv Y 257 h ≤ r) → Y 266 (24 * h + r) = nI 0) ∧ (∀ h f r, h < nv Y 246 31 → f < nv Y 256 h → r < nv Y 257 h → ¬ Y 274 (6 * h + f) = nI 0 → Y 266 (24 * h + (f * nv Y 257 h + r)) = nI 0) ∧ (∀ k, k < 72 → ¬ Y 274 k = nI 0 → Y 272 k = nI 0) ∧ WLd Y ∧ (∀ h f, nv Y 246 31 ≤ h → h < 12 → f < 6 → Y 271 (6 * h + f) = nI 0)
def Wmh (Y : Nat → Nat → Int32) : Prop := (∀ k, k < nv Y 246 56 → nbd Y 275 k 2000 ∧ 10 ≤ nv Y 275 k) ∧ (∀ k, k < nv Y 246 57 → nbd Y 276 k 19 ∧ nbd Y 277 k 5 ∧ nv Y 277 k < nv Y 246 56)
def Wcr (Y : Nat → Nat → Int32) : Prop := (∀ c, c < nv Y 246 58 → nbd Y 279 c 3 ∧ nbd Y 280 c 19 ∧ isB (Y 298 c) ∧ nbd Y 281 c 150 ∧ 50 ≤ nv Y 281 c ∧ nbd Y 282 c 9 ∧ nbd Y 283 c 3000 ∧ nbd Y 284 c 500 ∧ nbd Y 285 c 30 ∧ nbd Y 286 c 4 ∧ nbd Y 287 c 19 ∧ nbd Y 292 c 300 ∧ nbd Y 293 c 20000 ∧ nv Y 293 c ≤ nv Y 246 1) ∧ (∀ c, c < nv Y 246 58 → (nv Y 279 c < 2 → 100 ≤ nv Y 283 c ∧ 10 ≤ nv Y 284 c) ∧ (nv Y 279 c = 0 → nv Y 285 c = 0) ∧ (nv Y 279 c = 2 → 1 ≤ nv Y 283 c ∧ nv Y 283 c ≤ 6)) ∧ (∀ c, c < nv Y 246 58 → (nv Y 286 c = 1 → nbd Y 289 c 59 ∧ nv Y 289 c < nv Y 246 92) ∧ (nv Y 286 c = 2 → nbd Y 290 c 11 ∧ nv Y 290 c < nv Y 246 31 ∧ Y 254 (nv Y 290 c) = Y 287 c) ∧ (¬ nv Y 286 c = 2 → Y 290 c = -nI 1 ∧ Y 291 c = -nI 1) ∧ (nv Y 286 c = 0 ∨ nv Y 286 c = 2 → Y 288 c = -nI 1)) ∧ (∀ c, nv Y 246 58 ≤ c → c < 16 → Y 286 c = nI 0 ∧ Y 292 c = nI 0 ∧ Y 293 c = nI 0 ∧ Y 295 c = nI 0)
def Wca (Y : Nat → Nat → Int32) : Prop := (∀ k, k < nv Y 246 92 → nbd Y 310 k 19 ∧ nbd Y 311 k 3 ∧ nbd Y 312 k 2 ∧ nbd Y 313 k 20000 ∧ nv Y 313 k ≤ nv Y 246 1 ∧ isB (Y 318 k)) ∧ (∀ k, nv Y 246 92 ≤ k → k < 60 → Y 312 k = nI 0 ∧ Y 315 k = nI 0 ∧ Y 316 k = nI 0 ∧ Y 317 k = nI 0 ∧ isB (Y 318 k)) ∧ (∀ j k, j < k → k < nv Y 246 92 → Y 312 j = nI 0 → Y 312 k = nI 0 → ¬ Y 310 j = Y 310 k)
def cn (p : Nat → Bool) : Nat → Nat
  | 0 => 0
  | n + 1 => cn p n + (if p n then 1 else 0)
/-- a room burns -/
def bu (Y : Nat → Nat → Int32) (k : Nat) : Bool := decide (300 ≤ nv Y 266 k) && decide (1 ≤ nv Y 267 k)
/-- burning rooms of a house -/
def bg (Y : Nat → Nat → Int32) (h : Nat) : Nat := cn (fun r => bu Y (24 * h + r)) (nv Y 256 h * nv Y 257 h)
/-- the worst house at a corner among the first n, and how many rooms burn in it -/
def wo (Y : Nat → Nat → Int32) (c : Int32) : Nat → Int32 × Nat
  | 0 => (-nI 1, 0)
  | h + 1 => if Y 254 h = c ∧ (wo Y c h).2 < bg Y h then (nI h, bg Y h) else wo Y c h
def wor (Y : Nat → Nat → Int32) (c : Int32) : Int32 := (wo Y c (nv Y 246 31)).1
/-- an open call at a corner that burns is a true one -/
def Wcb (Y : Nat → Nat → Int32) : Prop := ∀ k, k < nv Y 246 92 → Y 312 k = nI 0 → ¬ wor Y (Y 310 k) = -nI 1 → Y 318 k = nI 1
def Wev (Y : Nat → Nat → Int32) : Prop := (∀ k, k < nv Y 246 99 → nbd Y 320 k 11 ∧ nv Y 320 k < nv Y 246 31 ∧ (Y 321 k = -nI 1 ∨ nbd Y 321 k 9) ∧ nbd Y 322 k 20000 ∧ nbd Y 323 k 20000 ∧ nv Y 322 k ≤ nv Y 323 k ∧ nv Y 323 k ≤ nv Y 246 1) ∧ (∀ k, k < nv Y 246 72 → nbd Y 305 k 200 ∧ 1 ≤ nv Y 305 k ∧ nbd Y 306 k 20000 ∧ nv Y 306 k ≤ nv Y 246 1)

/-- between two calls no water lies -/
def Rwa (X Y : Nat → Nat → Int32) : Prop := ∀ k, k < 288 → Y 268 k = nI 0
def RR (X Y : Nat → Nat → Int32) (D : Nat → UInt64) : Prop := Rsc X Y ∧ Rst X Y ∧ Rho X Y ∧ Rfi X Y ∧ Rmh X Y ∧ Rcr X Y ∧ Rca X Y ∧ Rev X Y ∧ Rta X Y ∧ Rro X Y D ∧ Rwa X Y
def WW (Y : Nat → Nat → Int32) : Prop := Wsc Y ∧ Wst Y ∧ Wwk Y ∧ Who Y ∧ Wfi Y ∧ Wmh Y ∧ Wcr Y ∧ Wca Y ∧ Wev Y ∧ Wcb Y
def InvA (x : ab_X) : Prop := RR x.1 x.1 (x.2.1 329) ∧ WW x.1
theorem RR.sc {X Y : Nat → Nat → Int32} {D : Nat → UInt64} (h : RR X Y D) : Rsc X Y := h.1
theorem RR.st {X Y : Nat → Nat → Int32} {D : Nat → UInt64} (h : RR X Y D) : Rst X Y := h.2.1
theorem RR.ho {X Y : Nat → Nat → Int32} {D : Nat → UInt64} (h : RR X Y D) : Rho X Y := h.2.2.1
theorem RR.fi {X Y : Nat → Nat → Int32} {D : Nat → UInt64} (h : RR X Y D) : Rfi X Y := h.2.2.2.1
theorem RR.mh {X Y : Nat → Nat → Int32} {D : Nat → UInt64} (h : RR X Y D) : Rmh X Y := h.2.2.2.2.1
theorem RR.cr {X Y : Nat → Nat → Int32} {D : Nat → UInt64} (h : RR X Y D) : Rcr X Y := h.2.2.2.2.2.1
theorem RR.ca {X Y : Nat → Nat → Int32} {D : Nat → UInt64} (h : RR X Y D) : Rca X Y := h.2.2.2.2.2.2.1
theorem RR.ev {X Y : Nat → Nat → Int32} {D : Nat → UInt64} (h : RR X Y D) : Rev X Y := h.2.2.2.2.2.2.2.1
theorem RR.ta {X Y : Nat → Nat → Int32} {D : Nat → UInt64} (h : RR X Y D) : Rta X Y := h.2.2.2.2.2.2.2.2.1
theorem RR.ro {X Y : Nat → Nat → Int32} {D : Nat → UInt64} (h : RR X Y D) : Rro X Y D := h.2.2.2.2.2.2.2.2.2.1
theorem RR.wa {X Y : Nat → Nat → Int32} {D : Nat → UInt64} (h : RR X Y D) : Rwa X Y := h.2.2.2.2.2.2.2.2.2.2
theorem WW.sc {Y : Nat → Nat → Int32} (h : WW Y) : Wsc Y := h.1
theorem WW.st {Y : Nat → Nat → Int32} (h : WW Y) : Wst Y := h.2.1
theorem WW.wk {Y : Nat → Nat → Int32} (h : WW Y) : Wwk Y := h.2.2.1
theorem WW.ho {Y : Nat → Nat → Int32} (h : WW Y) : Who Y := h.2.2.2.1
theorem WW.fi {Y : Nat → Nat → Int32} (h : WW Y) : Wfi Y := h.2.2.2.2.1
theorem WW.mh {Y : Nat → Nat → Int32} (h : WW Y) : Wmh Y := h.2.2.2.2.2.1
theorem WW.cr {Y : Nat → Nat → Int32} (h : WW Y) : Wcr Y := h.2.2.2.2.2.2.1
theorem WW.ca {Y : Nat → Nat → Int32} (h : WW Y) : Wca Y := h.2.2.2.2.2.2.2.1
theorem WW.ev {Y : Nat → Nat → Int32} (h : WW Y) : Wev Y := h.2.2.2.2.2.2.2.2.1
theorem WW.cb {Y : Nat → Nat → Int32} (h : WW Y) : Wcb Y := h.2.2.2.2.2.2.2.2.2
theorem RR.s9 {X Y : Nat → Nat → Int32} {D : Nat → UInt64} (h : RR X Y D) : X 1 7 = Y 246 9 := h.sc.1
theorem RR.s31 {X Y : Nat → Nat → Int32} {D : Nat → UInt64} (h : RR X Y D) : X 9 2 = Y 246 31 := h.sc.2.1
theorem RR.s56 {X Y : Nat → Nat → Int32} {D : Nat → UInt64} (h : RR X Y D) : X 9 6 = Y 246 56 := h.sc.2.2.1
theorem RR.s57 {X Y : Nat → Nat → Int32} {D : Nat → UInt64} (h : RR X Y D) : X 9 9 = Y 246 57 := h.sc.2.2.2.1
theorem RR.s58 {X Y : Nat → Nat → Int32} {D : Nat → UInt64} (h : RR X Y D) : X 66 3 = Y 246 58 := h.sc.2.2.2.2.1
theorem RR.s92 {X Y : Nat → Nat → Int32} {D : Nat → UInt64} (h : RR X Y D) : X 66 5 = Y 246 92 := h.sc.2.2.2.2.2.1
theorem RR.s71 {X Y : Nat → Nat → Int32} {D : Nat → UInt64} (h : RR X Y D) : X 66 7 = Y 246 71 := h.sc.2.2.2.2.2.2.1
theorem RR.s1 {X Y : Nat → Nat → Int32} {D : Nat → UInt64} (h : RR X Y D) : X 66 12 = Y 246 1 := h.sc.2.2.2.2.2.2.2.1
theorem RR.s70 {X Y : Nat → Nat → Int32} {D : Nat → UInt64} (h : RR X Y D) : X 158 1 = Y 246 70 := h.sc.2.2.2.2.2.2.2.2.1
theorem RR.s72 {X Y : Nat → Nat → Int32} {D : Nat → UInt64} (h : RR X Y D) : X 165 4 = Y 246 72 := h.sc.2.2.2.2.2.2.2.2.2.1
theorem RR.s99 {X Y : Nat → Nat → Int32} {D : Nat → UInt64} (h : RR X Y D) : X 165 9 = Y 246 99 := h.sc.2.2.2.2.2.2.2.2.2.2.1
theorem RR.s116 {X Y : Nat → Nat → Int32} {D : Nat → UInt64} (h : RR X Y D) : X 0 9 = Y 246 116 := h.sc.2.2.2.2.2.2.2.2.2.2.2
theorem WW.v9 {Y : Nat → Nat → Int32} (h : WW Y) : Y 246 9 = nI (nv Y 246 9) := h.sc.1.1
theorem WW.b9 {Y : Nat → Nat → Int32} (h : WW Y) : nv Y 246 9 ≤ 40 := h.sc.1.2
theorem WW.v31 {Y : Nat → Nat → Int32} (h : WW Y) : Y 246 31 = nI (nv Y 246 31) := h.sc.2.1.1
theorem WW.b31 {Y : Nat → Nat → Int32} (h : WW Y) : nv Y 246 31 ≤ 12 := h.sc.2.1.2
theorem WW.v56 {Y : Nat → Nat → Int32} (h : WW Y) : Y 246 56 = nI (nv Y 246 56) := h.sc.2.2.1.1
theorem WW.b56 {Y : Nat → Nat → Int32} (h : WW Y) : nv Y 246 56 ≤ 6 := h.sc.2.2.1.2
theorem WW.v57 {Y : Nat → Nat → Int32} (h : WW Y) : Y 246 57 = nI (nv Y 246 57) := h.sc.2.2.2.1.1
theorem WW.b57 {Y : Nat → Nat → Int32} (h : WW Y) : nv Y 246 57 ≤ 20 := h.sc.2.2.2.1.2
theorem WW.v58 {Y : Nat → Nat → Int32} (h : WW Y) : Y 246 58 = nI (nv Y 246 58) := h.sc.2.2.2.2.1.1
theorem WW.b58 {Y : Nat → Nat → Int32} (h : WW Y) : nv Y 246 58 ≤ 16 := h.sc.2.2.2.2.1.2
theorem WW.v92 {Y : Nat → Nat → Int32} (h : WW Y) : Y 246 92 = nI (nv Y 246 92) := h.sc.2.2.2.2.2.1.1
theorem WW.b92 {Y : Nat → Nat → Int32} (h : WW Y) : nv Y 246 92 ≤ 60 := h.sc.2.2.2.2.2.1.2
theorem WW.v71 {Y : Nat → Nat → Int32} (h : WW Y) : Y 246 71 = nI (nv Y 246 71) := h.sc.2.2.2.2.2.2.1.1
theorem WW.b71 {Y : Nat → Nat → Int32} (h : WW Y) : nv Y 246 71 ≤ 20 := h.sc.2.2.2.2.2.2.1.2
theorem WW.v1 {Y : Nat → Nat → Int32} (h : WW Y) : Y 246 1 = nI (nv Y 246 1) := h.sc.2.2.2.2.2.2.2.1.1
theorem WW.b1 {Y : Nat → Nat → Int32} (h : WW Y) : nv Y 246 1 ≤ 20000 := h.sc.2.2.2.2.2.2.2.1.2
theorem WW.v70 {Y : Nat → Nat → Int32} (h : WW Y) : Y 246 70 = nI (nv Y 246 70) := h.sc.2.2.2.2.2.2.2.2.1.1
theorem WW.b70 {Y : Nat → Nat → Int32} (h : WW Y) : nv Y 246 70 ≤ 200 := h.sc.2.2.2.2.2.2.2.2.1.2
theorem WW.v72 {Y : Nat → Nat → Int32} (h : WW Y) : Y 246 72 = nI (nv Y 246 72) := h.sc.2.2.2.2.2.2.2.2.2.1.1
theorem WW.b72 {Y : Nat → Nat → Int32} (h : WW Y) : nv Y 246 72 ≤ 12 := h.sc.2.2.2.2.2.2.2.2.2.1.2
theorem WW.v99 {Y : Nat → Nat → Int32} (h : WW Y) : Y 246 99 = nI (nv Y 246 99) := h.sc.2.2.2.2.2.2.2.2.2.2.1.1
theorem WW.b99 {Y : Nat → Nat → Int32} (h : WW Y) : nv Y 246 99 ≤ 100 := h.sc.2.2.2.2.2.2.2.2.2.2.1.2
theorem WW.v116 {Y : Nat → Nat → Int32} (h : WW Y) : Y 246 116 = nI (nv Y 246 116) := h.sc.2.2.2.2.2.2.2.2.2.2.2.1
theorem WW.b116 {Y : Nat → Nat → Int32} (h : WW Y) : nv Y 246 116 ≤ 6 := h.sc.2.2.2.2.2.2.2.2.2.2.2.2
