theorem xQ_31 : nv xQ0.1 246 31 = 0 := by decide +kernel
theorem xQ_92 : nv xQ0.1 246 92 = 0 := by decide +kernel
theorem xQ_116 : nv xQ0.1 246 116 = 0 := by decide +kernel
theorem xQ_71 : nv xQ0.1 246 71 = 0 := by decide +kernel
theorem xQ_72 : nv xQ0.1 246 72 = 0 := by decide +kernel
theorem xQ_9 : nv xQ0.1 246 9 = 0 := by decide +kernel
theorem xQ_58 : nv xQ0.1 246 58 = 0 := by decide +kernel
theorem vac {P : Nat → Prop} {n : Nat} (e : n = 0) : ∀ k, k < n → P k := fun k hk => absurd hk (by omega)
theorem i_Rsc : Rsc xQ0.1 xQ0.1 := by unfold Rsc; decide +kernel
theorem i_Rst2 : ∀ k, k < 40 → xQ0.1 5 k = xQ0.1 252 k := by decide +kernel
theorem i_Rst4 : ∀ k, k < 160 → xQ0.1 6 k = nI 100 := by decide +kernel
theorem i_Rst5 : ∀ k, k < 400 → xQ0.1 7 k = xQ0.1 251 k := by decide +kernel
theorem i_Rst : Rst xQ0.1 xQ0.1 := ⟨vac xQ_9, i_Rst2, vac (by rw [xQ_9]), fun k _ h => i_Rst4 k h, i_Rst5⟩
theorem i_Rho1 : ∀ h, h < 12 → xQ0.1 (30 + 3 * h) 0 = nI h ∧ xQ0.1 (30 + 3 * h) 6 = xQ0.1 265 h ∧ xQ0.1 (30 + 3 * h) 7 = xQ0.1 259 h ∧ xQ0.1 (30 + 3 * h) 9 = xQ0.1 261 h ∧ xQ0.1 (30 + 3 * h) 14 = xQ0.1 262 h ∧ xQ0.1 (30 + 3 * h) 15 = xQ0.1 263 h ∧ xQ0.1 (30 + 3 * h) 16 = xQ0.1 264 h := by decide +kernel
theorem i_Rho2 : ∀ h, h < 12 → ∀ f, f < 6 → xQ0.1 (30 + 3 * h + 1) f = xQ0.1 273 (6 * h + f) ∧ xQ0.1 (30 + 3 * h + 2) f = xQ0.1 272 (6 * h + f) := by decide +kernel
theorem i_Rho4 : ∀ h, h < 12 → xQ0.1 (30 + 3 * h) 8 = nI 1 ∧ xQ0.1 (30 + 3 * h) 10 = -nI 1 ∧ xQ0.1 (30 + 3 * h) 11 = -nI 1 := by decide +kernel
theorem i_Rho : Rho xQ0.1 xQ0.1 := ⟨i_Rho1, fun h f a b => i_Rho2 h a f b, vac xQ_31, fun h _ b => i_Rho4 h b⟩
theorem i_Rfi : Rfi xQ0.1 xQ0.1 := by unfold Rfi isB; decide +kernel
theorem i_Rmh : Rmh xQ0.1 xQ0.1 := by unfold Rmh; decide +kernel
theorem i_Rcr2 : ∀ c, c < 16 → xQ0.1 (82 + c) 8 = nI 0 ∧ xQ0.1 (82 + c) 10 = -nI 1 ∧ xQ0.1 (82 + c) 11 = -nI 1 ∧ xQ0.1 (82 + c) 12 = -nI 1 ∧ xQ0.1 (82 + c) 13 = -nI 1 ∧ xQ0.1 (82 + c) 14 = nI 0 ∧ xQ0.1 (82 + c) 15 = nI 0 ∧ xQ0.1 (82 + c) 16 = nI 0 := by decide +kernel
theorem i_Rcr : Rcr xQ0.1 xQ0.1 := ⟨vac xQ_58, fun c _ h => i_Rcr2 c h⟩
theorem i_Rca2 : ∀ k, k < 60 → xQ0.1 (98 + k) 1 = nI 0 ∧ xQ0.1 (98 + k) 2 = nI 0 ∧ xQ0.1 (98 + k) 4 = -nI 1 ∧ xQ0.1 (98 + k) 5 = nI 0 ∧ xQ0.1 (98 + k) 6 = nI 0 ∧ xQ0.1 (98 + k) 7 = nI 0 ∧ xQ0.1 (98 + k) 8 = nI 0 := by decide +kernel
theorem i_Rca : Rca xQ0.1 xQ0.1 := ⟨vac xQ_92, fun k _ h => i_Rca2 k h⟩
theorem i_Rev : Rev xQ0.1 xQ0.1 := by unfold Rev; decide +kernel
theorem i_Rta : Rta xQ0.1 xQ0.1 := by unfold Rta; decide +kernel
theorem i_Rro2 : ∀ k, k < 6 → xQ0.1 244 k = xQ0.1 332 k ∧ isB (xQ0.1 332 k) := by unfold isB; decide +kernel
theorem i_Rro3 : ∀ k, k < 120 → -1000000 ≤ (xQ0.1 245 k).toInt ∧ (xQ0.1 245 k).toInt ≤ 1000000 := by decide +kernel
theorem i_Rro4 : ∀ k, k < 6 → ∀ c, c < 20 → xQ0.1 245 (20 * k + c) = nI 0 := by decide +kernel
theorem i_Rro : Rro xQ0.1 xQ0.1 (xQ0.2.1 329) := ⟨vac xQ_116, i_Rro2, i_Rro3, fun k _ b c hc => ⟨i_Rro4 k b c hc, rfl⟩⟩
theorem i_Rwa : Rwa xQ0.1 xQ0.1 := by unfold Rwa; decide +kernel
theorem i_Wsc : Wsc xQ0.1 := by unfold Wsc nbd; decide +kernel
theorem i_Wst : Wst xQ0.1 := by unfold Wst nbd isB; decide +kernel
theorem i_wk : ∀ k, k < 400 → nv xQ0.1 251 k = if k % 21 = 0 then 0 else 1000000 := by decide +kernel
theorem i_wk1 : ∀ k, k < 400 → nbd xQ0.1 251 k 1000000 := by unfold nbd; decide +kernel
theorem i_wk2 {a b : Nat} (ha : a < 20) (hb : b < 20) : nv xQ0.1 251 (20 * a + b) = if a = b then 0 else 1000000 := by
  rw [i_wk _ (by omega)]
  by_cases e : a = b
  · rw [if_pos e, if_pos (by omega)]
  · rw [if_neg e, if_neg (by omega)]
theorem i_Wwk : Wwk xQ0.1 := by
  refine ⟨i_wk1, fun a ha => ?_, fun a b ha hb => ?_, fun a b c ha hb hc => ?_⟩
  · rw [i_wk2 ha ha, if_pos rfl]
  · rw [i_wk2 ha hb, i_wk2 hb ha]
    by_cases e : a = b
    · rw [if_pos e, if_pos e.symm]
    · rw [if_neg e, if_neg (fun u => e u.symm)]
  · rw [i_wk2 ha hc, i_wk2 ha hb, i_wk2 hb hc]
    by_cases e : a = b
    · subst e
      omega
    · rw [if_neg e]
      split <;> omega
theorem i_Who : Who xQ0.1 := by unfold Who nbd isB; decide +kernel
theorem i_Wfi1 : ∀ k, k < 288 → nbd xQ0.1 266 k 1000 ∧ nbd xQ0.1 267 k 2000 := by unfold nbd; decide +kernel
theorem i_Wfi2 : ∀ k, k < 72 → isB (xQ0.1 274 k) := by unfold isB; decide +kernel
theorem i_Wfi3 : ∀ k, k < 288 → xQ0.1 266 k = nI 0 := by decide +kernel
theorem i_Wfi5 : ∀ k, k < 72 → xQ0.1 272 k = nI 0 := by decide +kernel
theorem i_Wfi7 : ∀ k, k < 72 → xQ0.1 271 k = nI 0 := by decide +kernel
theorem i_Wfi : Wfi xQ0.1 := ⟨i_Wfi1, i_Wfi2, fun h r a b _ => i_Wfi3 _ (by omega), fun h f r a => absurd a (by rw [xQ_31]; omega), fun k hk _ => i_Wfi5 k hk, fun h g a => absurd a (by rw [xQ_31]; omega), fun h f _ b c => i_Wfi7 _ (by omega)⟩
theorem i_Wmh : Wmh xQ0.1 := by unfold Wmh nbd; decide +kernel
theorem i_Wcr4 : ∀ c, c < 16 → xQ0.1 286 c = nI 0 ∧ xQ0.1 292 c = nI 0 ∧ xQ0.1 293 c = nI 0 ∧ xQ0.1 295 c = nI 0 := by decide +kernel
theorem i_Wcr : Wcr xQ0.1 := ⟨vac xQ_58, vac xQ_58, vac xQ_58, fun c _ h => i_Wcr4 c h⟩
theorem i_Wca2 : ∀ k, k < 60 → xQ0.1 312 k = nI 0 ∧ xQ0.1 315 k = nI 0 ∧ xQ0.1 316 k = nI 0 ∧ xQ0.1 317 k = nI 0 ∧ isB (xQ0.1 318 k) := by unfold isB; decide +kernel
theorem i_Wca : Wca xQ0.1 := ⟨vac xQ_92, fun k _ b => i_Wca2 k b, fun j k _ a => absurd a (by rw [xQ_92]; omega)⟩
theorem i_Wev : Wev xQ0.1 := by unfold Wev nbd; decide +kernel
theorem i_Wcb : Wcb xQ0.1 := vac xQ_92
theorem i_InvA : InvA xQ0 := ⟨⟨i_Rsc, i_Rst, i_Rho, i_Rfi, i_Rmh, i_Rcr, i_Rca, i_Rev, i_Rta, i_Rro, i_Rwa⟩, i_Wsc, i_Wst, i_Wwk, i_Who, i_Wfi, i_Wmh, i_Wcr, i_Wca, i_Wev, i_Wcb⟩
theorem i_InvT : InvT xQ0.1 := ⟨fun _ => by decide +kernel, fun h => absurd h (by rw [xQ_71]; decide), Or.inl ⟨by decide +kernel, by decide +kernel⟩, vac xQ_72⟩
theorem law_0 {L : Nat} {xs : Nat → Int32} (hL : L ≤ 3072) : EL L xs 0 [] [] (cLs []) 1252 :=
  EL_start (EL_LQ (sL_law_23 0 xQ0 L xs hL el_about 600 (by decide) (p_law hL i_InvA i_InvT)))
