theorem ac_I : Cond.arrayClass .int ∈ ab_G := ab_in 159 (by decide +kernel) (by decide +kernel)
theorem ac_Z : Cond.arrayClass .boolean ∈ ab_G := ab_in 160 (by decide +kernel) (by decide +kernel)
theorem ac_Y : Cond.arrayClass .byte ∈ ab_G := ab_in 619 (by decide +kernel) (by decide +kernel)
theorem ac_D : Cond.arrayClass .double ∈ ab_G := ab_in 2213 (by decide +kernel) (by decide +kernel)
theorem oiRX9 : Cond.methodLink RX9 3 objectInit ∈ ab_G ∧ Cond.instanceMethod objectInit ∈ ab_G ∧ Cond.code objectInit ⟨#[0xb1]⟩ 1 none ∈ ab_G := ⟨ab_in 366 (by decide +kernel) (by decide +kernel), ab_in 119 (by decide +kernel) (by decide +kernel), ab_in 120 (by decide +kernel) (by decide +kernel)⟩
theorem oiRX1 : Cond.methodLink RX1 3 objectInit ∈ ab_G ∧ Cond.instanceMethod objectInit ∈ ab_G ∧ Cond.code objectInit ⟨#[0xb1]⟩ 1 none ∈ ab_G := ⟨ab_in 504 (by decide +kernel) (by decide +kernel), ab_in 119 (by decide +kernel) (by decide +kernel), ab_in 120 (by decide +kernel) (by decide +kernel)⟩
theorem oiRX2 : Cond.methodLink RX2 3 objectInit ∈ ab_G ∧ Cond.instanceMethod objectInit ∈ ab_G ∧ Cond.code objectInit ⟨#[0xb1]⟩ 1 none ∈ ab_G := ⟨ab_in 408 (by decide +kernel) (by decide +kernel), ab_in 119 (by decide +kernel) (by decide +kernel), ab_in 120 (by decide +kernel) (by decide +kernel)⟩
theorem gfRX2_15 : ab_L RX2 15 2 11 := ⟨by decide, by decide, ab_in 437 (by decide +kernel) (by decide +kernel)⟩
theorem oiRX3 : Cond.methodLink RX3 3 objectInit ∈ ab_G ∧ Cond.instanceMethod objectInit ∈ ab_G ∧ Cond.code objectInit ⟨#[0xb1]⟩ 1 none ∈ ab_G := ⟨ab_in 174 (by decide +kernel) (by decide +kernel), ab_in 119 (by decide +kernel) (by decide +kernel), ab_in 120 (by decide +kernel) (by decide +kernel)⟩
theorem oiRX4 : Cond.methodLink RX4 3 objectInit ∈ ab_G ∧ Cond.instanceMethod objectInit ∈ ab_G ∧ Cond.code objectInit ⟨#[0xb1]⟩ 1 none ∈ ab_G := ⟨ab_in 212 (by decide +kernel) (by decide +kernel), ab_in 119 (by decide +kernel) (by decide +kernel), ab_in 120 (by decide +kernel) (by decide +kernel)⟩
theorem gfRX4_9 : ab_L RX4 9 4 3 := ⟨by decide, by decide, ab_in 224 (by decide +kernel) (by decide +kernel)⟩
theorem gfRX4_18 : ab_L RX4 18 4 5 := ⟨by decide, by decide, ab_in 236 (by decide +kernel) (by decide +kernel)⟩
theorem gfRX4_21 : ab_L RX4 21 4 8 := ⟨by decide, by decide, ab_in 246 (by decide +kernel) (by decide +kernel)⟩
theorem gfRX4_30 : ab_L RX4 30 4 12 := ⟨by decide, by decide, ab_in 257 (by decide +kernel) (by decide +kernel)⟩
theorem oiRX7 : Cond.methodLink RX7 3 objectInit ∈ ab_G ∧ Cond.instanceMethod objectInit ∈ ab_G ∧ Cond.code objectInit ⟨#[0xb1]⟩ 1 none ∈ ab_G := ⟨ab_in 670 (by decide +kernel) (by decide +kernel), ab_in 119 (by decide +kernel) (by decide +kernel), ab_in 120 (by decide +kernel) (by decide +kernel)⟩
abbrev MX9_init : ab_M := (yX9_init, cX9_init, 1, none)
theorem dX9_init_0 : decode cX9_init 0 = .ok (.aload_n 0, 1) := by decide +kernel
theorem dX9_init_1 : decode cX9_init 1 = .ok (.invokespecial 3, 3) := by decide +kernel
theorem dX9_init_4 : decode cX9_init 4 = .ok (.aload_n 0, 1) := by decide +kernel
theorem dX9_init_5 : decode cX9_init 5 = .ok (.sipush 200, 3) := by decide +kernel
theorem dX9_init_8 : decode cX9_init 8 = .ok (.newarray .int, 2) := by decide +kernel
theorem dX9_init_10 : decode cX9_init 10 = .ok (.putfield 9, 3) := by decide +kernel
theorem dX9_init_13 : decode cX9_init 13 = .ok (.aload_n 0, 1) := by decide +kernel
theorem dX9_init_14 : decode cX9_init 14 = .ok (.bipush 40, 2) := by decide +kernel
theorem dX9_init_16 : decode cX9_init 16 = .ok (.newarray .int, 2) := by decide +kernel
theorem dX9_init_18 : decode cX9_init 18 = .ok (.putfield 15, 3) := by decide +kernel
theorem dX9_init_21 : decode cX9_init 21 = .ok (.aload_n 0, 1) := by decide +kernel
theorem dX9_init_22 : decode cX9_init 22 = .ok (.iconst 5, 1) := by decide +kernel
theorem dX9_init_23 : decode cX9_init 23 = .ok (.newarray .int, 2) := by decide +kernel
theorem dX9_init_25 : decode cX9_init 25 = .ok (.putfield 18, 3) := by decide +kernel
theorem dX9_init_28 : decode cX9_init 28 = .ok (.aload_n 0, 1) := by decide +kernel
theorem dX9_init_29 : decode cX9_init 29 = .ok (.bipush 40, 2) := by decide +kernel
theorem dX9_init_31 : decode cX9_init 31 = .ok (.newarray .int, 2) := by decide +kernel
theorem dX9_init_33 : decode cX9_init 33 = .ok (.putfield 21, 3) := by decide +kernel
theorem dX9_init_36 : decode cX9_init 36 = .ok (.return_, 1) := by decide +kernel
theorem okX9_init : ab_okM MX9_init 0 := ⟨by decide, ⟨by decide, by decide⟩, ab_in 365 (by decide +kernel) (by decide +kernel), ab_in 93 (by decide +kernel) (by decide +kernel), by decide +kernel, by decide⟩
def mk9 (n : Nat) : List CellD := (sR (sR (sR (sR (cO 9) 0 (n + 1 + 0)) 2 (n + 1 + 1)) 7 (n + 1 + 2)) 8 (n + 1 + 3)) :: ((((([] ++ [cA 0 200]) ++ [cA 0 40]) ++ [cA 0 5]) ++ [cA 0 40]))
theorem mk9_pos (n : Nat) : 1 ≤ (mk9 n).length := by show 1 ≤ 5; decide
set_option maxHeartbeats 4000000 in
theorem iX9_init (A : List CellD) {n : Nat} (hn : A.length = n) (hA : n < 800000) (hok : okC (A ++ [cO 9])) (d : Nat) (hd : 1 ≤ d) (K : Option Value → ab_St → Prop) (k : okC (A ++ mk9 n) → K none (cLs (A ++ mk9 n))) : EC MX9_init 0 [(0, .ref n)] [] (cLs (A ++ [cO 9])) d 4 285 K := by
  subst hn
  have h0 : ([(0, .ref A.length)] : List (Nat × Value))[0]? = some (0, .ref A.length) := rfl
  have hv : lvO A.length [(0, .ref A.length)] := lvO_r (Nat.le_refl _) lvO_n
  refine EC_aload_n (pc2 := 1) rfl dX9_init_0 0 h0 ?_
  refine EC_objInit oiRX9 (pc2 := 4) rfl dX9_init_1 (by decide) (by omega) ?_
  refine EC_aload_n (pc2 := 5) rfl dX9_init_4 0 h0 ?_
  refine EC_sipush (pc2 := 8) (v := 200) rfl dX9_init_5 (by decide) ?_
  refine CW_arrI (A := A) (N := 200) (b := 3) (s' := 85) ac_I ⟨by decide, by decide, by decide⟩ dX9_init_8 (pc2 := 10) rfl hv (nr1 (by omega)) hok (by show A.length + 0 < 900000; omega) (fun hok => ?_)
  refine CW_putr (A := A) (k := 0) ⟨gfRX9_9, rfl, fun _ => rfl, fun _ => rfl, rfl, Or.inr ⟨rfl, rfl⟩⟩ dX9_init_10 (pc2 := 13) rfl rfl ?_
  replace hok := okC_sR (k := 0) (r := A.length + 1 + 0) hok (Or.inl (by show A.length + 1 + 0 < A.length + 1 + 1; omega))
  refine EC_aload_n (pc2 := 14) rfl dX9_init_13 0 h0 ?_
  refine EC_bipush (pc2 := 16) (v := 40) rfl dX9_init_14 (by decide) ?_
  refine CW_arrI (A := A) (N := 40) (b := 2) (s' := 45) ac_I ⟨by decide, by decide, by decide⟩ dX9_init_16 (pc2 := 18) rfl hv (nr1 (by omega)) hok (by show A.length + 1 < 900000; omega) (fun hok => ?_)
  refine CW_putr (A := A) (k := 2) ⟨gfRX9_15, rfl, fun _ => rfl, fun _ => rfl, rfl, Or.inr ⟨rfl, rfl⟩⟩ dX9_init_18 (pc2 := 21) rfl rfl ?_
  replace hok := okC_sR (k := 2) (r := A.length + 1 + 1) hok (Or.inl (by show A.length + 1 + 1 < A.length + 1 + 2; omega))
  refine EC_aload_n (pc2 := 22) rfl dX9_init_21 0 h0 ?_
  refine EC_iconst (pc2 := 23) (v := 5) rfl dX9_init_22 (by decide) ?_
  refine CW_arrI (A := A) (N := 5) (b := 1) (s' := 40) ac_I ⟨by decide, by decide, by decide⟩ dX9_init_23 (pc2 := 25) rfl hv (nr1 (by omega)) hok (by show A.length + 2 < 900000; omega) (fun hok => ?_)
  refine CW_putr (A := A) (k := 7) ⟨gfRX9_18, rfl, fun _ => rfl, fun _ => rfl, rfl, Or.inr ⟨rfl, rfl⟩⟩ dX9_init_25 (pc2 := 28) rfl rfl ?_
  replace hok := okC_sR (k := 7) (r := A.length + 1 + 2) hok (Or.inl (by show A.length + 1 + 2 < A.length + 1 + 3; omega))
  refine EC_aload_n (pc2 := 29) rfl dX9_init_28 0 h0 ?_
  refine EC_bipush (pc2 := 31) (v := 40) rfl dX9_init_29 (by decide) ?_
  refine CW_arrI (A := A) (N := 40) (b := 0) (s' := 0) ac_I ⟨by decide, by decide, by decide⟩ dX9_init_31 (pc2 := 33) rfl hv (nr1 (by omega)) hok (by show A.length + 3 < 900000; omega) (fun hok => ?_)
  refine CW_putr (A := A) (k := 8) ⟨gfRX9_21, rfl, fun _ => rfl, fun _ => rfl, rfl, Or.inr ⟨rfl, rfl⟩⟩ dX9_init_33 (pc2 := 36) rfl rfl ?_
  replace hok := okC_sR (k := 8) (r := A.length + 1 + 3) hok (Or.inl (by show A.length + 1 + 3 < A.length + 1 + 4; omega))
  exact EC_vret rfl dX9_init_36 (k hok)
abbrev MX1_init : ab_M := (yX1_init, cX1_init, 1, none)
theorem dX1_init_0 : decode cX1_init 0 = .ok (.aload_n 0, 1) := by decide +kernel
theorem dX1_init_1 : decode cX1_init 1 = .ok (.invokespecial 3, 3) := by decide +kernel
theorem dX1_init_4 : decode cX1_init 4 = .ok (.aload_n 0, 1) := by decide +kernel
theorem dX1_init_5 : decode cX1_init 5 = .ok (.iconst (-1), 1) := by decide +kernel
theorem dX1_init_6 : decode cX1_init 6 = .ok (.putfield 9, 3) := by decide +kernel
theorem dX1_init_9 : decode cX1_init 9 = .ok (.return_, 1) := by decide +kernel
theorem okX1_init : ab_okM MX1_init 0 := ⟨by decide, ⟨by decide, by decide⟩, ab_in 503 (by decide +kernel) (by decide +kernel), ab_in 95 (by decide +kernel) (by decide +kernel), by decide +kernel, by decide⟩
def mk1 (n : Nat) : List CellD := (sI (cO 1) 4 (-1)) :: ([])
theorem mk1_pos (n : Nat) : 1 ≤ (mk1 n).length := by show 1 ≤ 1; decide
set_option maxHeartbeats 4000000 in
theorem iX1_init (A : List CellD) {n : Nat} (hn : A.length = n) (hA : n < 800000) (hok : okC (A ++ [cO 1])) (d : Nat) (hd : 1 ≤ d) (K : Option Value → ab_St → Prop) (k : okC (A ++ mk1 n) → K none (cLs (A ++ mk1 n))) : EC MX1_init 0 [(0, .ref n)] [] (cLs (A ++ [cO 1])) d 0 0 K := by
  subst hn
  have h0 : ([(0, .ref A.length)] : List (Nat × Value))[0]? = some (0, .ref A.length) := rfl
  have hv : lvO A.length [(0, .ref A.length)] := lvO_r (Nat.le_refl _) lvO_n
  refine EC_aload_n (pc2 := 1) rfl dX1_init_0 0 h0 ?_
  refine EC_objInit oiRX1 (pc2 := 4) rfl dX1_init_1 (by decide) (by omega) ?_
  refine EC_aload_n (pc2 := 5) rfl dX1_init_4 0 h0 ?_
  refine EC_iconst (pc2 := 6) (v := (-1)) rfl dX1_init_5 (by decide) ?_
  refine CW_puti (A := A) (k := 4) (v := (-1)) ⟨gfRX1_9, rfl, rfl, Or.inl rfl⟩ rfl rfl dX1_init_6 (pc2 := 9) rfl rfl ?_
  replace hok := okC_sI (k := 4) (v := (-1)) hok
  exact EC_vret rfl dX1_init_9 (k hok)
abbrev MX2_init : ab_M := (yX2_init, cX2_init, 1, none)
theorem dX2_init_0 : decode cX2_init 0 = .ok (.aload_n 0, 1) := by decide +kernel
theorem dX2_init_1 : decode cX2_init 1 = .ok (.invokespecial 3, 3) := by decide +kernel
theorem dX2_init_4 : decode cX2_init 4 = .ok (.aload_n 0, 1) := by decide +kernel
theorem dX2_init_5 : decode cX2_init 5 = .ok (.iconst (-1), 1) := by decide +kernel
theorem dX2_init_6 : decode cX2_init 6 = .ok (.putfield 9, 3) := by decide +kernel
theorem dX2_init_9 : decode cX2_init 9 = .ok (.aload_n 0, 1) := by decide +kernel
theorem dX2_init_10 : decode cX2_init 10 = .ok (.iconst (-1), 1) := by decide +kernel
theorem dX2_init_11 : decode cX2_init 11 = .ok (.putfield 15, 3) := by decide +kernel
theorem dX2_init_14 : decode cX2_init 14 = .ok (.aload_n 0, 1) := by decide +kernel
theorem dX2_init_15 : decode cX2_init 15 = .ok (.iconst (-1), 1) := by decide +kernel
theorem dX2_init_16 : decode cX2_init 16 = .ok (.putfield 18, 3) := by decide +kernel
theorem dX2_init_19 : decode cX2_init 19 = .ok (.aload_n 0, 1) := by decide +kernel
theorem dX2_init_20 : decode cX2_init 20 = .ok (.iconst (-1), 1) := by decide +kernel
theorem dX2_init_21 : decode cX2_init 21 = .ok (.putfield 21, 3) := by decide +kernel
theorem dX2_init_24 : decode cX2_init 24 = .ok (.aload_n 0, 1) := by decide +kernel
theorem dX2_init_25 : decode cX2_init 25 = .ok (.iconst (-1), 1) := by decide +kernel
theorem dX2_init_26 : decode cX2_init 26 = .ok (.putfield 24, 3) := by decide +kernel
theorem dX2_init_29 : decode cX2_init 29 = .ok (.aload_n 0, 1) := by decide +kernel
theorem dX2_init_30 : decode cX2_init 30 = .ok (.iconst (-1), 1) := by decide +kernel
theorem dX2_init_31 : decode cX2_init 31 = .ok (.putfield 27, 3) := by decide +kernel
theorem dX2_init_34 : decode cX2_init 34 = .ok (.return_, 1) := by decide +kernel
theorem okX2_init : ab_okM MX2_init 0 := ⟨by decide, ⟨by decide, by decide⟩, ab_in 407 (by decide +kernel) (by decide +kernel), ab_in 94 (by decide +kernel) (by decide +kernel), by decide +kernel, by decide⟩
def mk2 (n : Nat) : List CellD := (sI (sI (sI (sI (sI (sI (cO 2) 10 (-1)) 11 (-1)) 12 (-1)) 13 (-1)) 18 (-1)) 19 (-1)) :: ([])
theorem mk2_pos (n : Nat) : 1 ≤ (mk2 n).length := by show 1 ≤ 1; decide
set_option maxHeartbeats 4000000 in
theorem iX2_init (A : List CellD) {n : Nat} (hn : A.length = n) (hA : n < 800000) (hok : okC (A ++ [cO 2])) (d : Nat) (hd : 1 ≤ d) (K : Option Value → ab_St → Prop) (k : okC (A ++ mk2 n) → K none (cLs (A ++ mk2 n))) : EC MX2_init 0 [(0, .ref n)] [] (cLs (A ++ [cO 2])) d 0 0 K := by
  subst hn
  have h0 : ([(0, .ref A.length)] : List (Nat × Value))[0]? = some (0, .ref A.length) := rfl
  have hv : lvO A.length [(0, .ref A.length)] := lvO_r (Nat.le_refl _) lvO_n
  refine EC_aload_n (pc2 := 1) rfl dX2_init_0 0 h0 ?_
  refine EC_objInit oiRX2 (pc2 := 4) rfl dX2_init_1 (by decide) (by omega) ?_
  refine EC_aload_n (pc2 := 5) rfl dX2_init_4 0 h0 ?_
  refine EC_iconst (pc2 := 6) (v := (-1)) rfl dX2_init_5 (by decide) ?_
  refine CW_puti (A := A) (k := 10) (v := (-1)) ⟨gfRX2_9, rfl, rfl, Or.inl rfl⟩ rfl rfl dX2_init_6 (pc2 := 9) rfl rfl ?_
  replace hok := okC_sI (k := 10) (v := (-1)) hok
  refine EC_aload_n (pc2 := 10) rfl dX2_init_9 0 h0 ?_
  refine EC_iconst (pc2 := 11) (v := (-1)) rfl dX2_init_10 (by decide) ?_
  refine CW_puti (A := A) (k := 11) (v := (-1)) ⟨gfRX2_15, rfl, rfl, Or.inl rfl⟩ rfl rfl dX2_init_11 (pc2 := 14) rfl rfl ?_
  replace hok := okC_sI (k := 11) (v := (-1)) hok
  refine EC_aload_n (pc2 := 15) rfl dX2_init_14 0 h0 ?_
  refine EC_iconst (pc2 := 16) (v := (-1)) rfl dX2_init_15 (by decide) ?_
  refine CW_puti (A := A) (k := 12) (v := (-1)) ⟨gfRX2_18, rfl, rfl, Or.inl rfl⟩ rfl rfl dX2_init_16 (pc2 := 19) rfl rfl ?_
  replace hok := okC_sI (k := 12) (v := (-1)) hok
  refine EC_aload_n (pc2 := 20) rfl dX2_init_19 0 h0 ?_
  refine EC_iconst (pc2 := 21) (v := (-1)) rfl dX2_init_20 (by decide) ?_
  refine CW_puti (A := A) (k := 13) (v := (-1)) ⟨gfRX2_21, rfl, rfl, Or.inl rfl⟩ rfl rfl dX2_init_21 (pc2 := 24) rfl rfl ?_
  replace hok := okC_sI (k := 13) (v := (-1)) hok
  refine EC_aload_n (pc2 := 25) rfl dX2_init_24 0 h0 ?_
  refine EC_iconst (pc2 := 26) (v := (-1)) rfl dX2_init_25 (by decide) ?_
  refine CW_puti (A := A) (k := 18) (v := (-1)) ⟨gfRX2_24, rfl, rfl, Or.inl rfl⟩ rfl rfl dX2_init_26 (pc2 := 29) rfl rfl ?_
  replace hok := okC_sI (k := 18) (v := (-1)) hok
  refine EC_aload_n (pc2 := 30) rfl dX2_init_29 0 h0 ?_
  refine EC_iconst (pc2 := 31) (v := (-1)) rfl dX2_init_30 (by decide) ?_
  refine CW_puti (A := A) (k := 19) (v := (-1)) ⟨gfRX2_27, rfl, rfl, Or.inl rfl⟩ rfl rfl dX2_init_31 (pc2 := 34) rfl rfl ?_
  replace hok := okC_sI (k := 19) (v := (-1)) hok
  exact EC_vret rfl dX2_init_34 (k hok)
abbrev MX3_init : ab_M := (yX3_init, cX3_init, 1, none)
theorem dX3_init_0 : decode cX3_init 0 = .ok (.aload_n 0, 1) := by decide +kernel
theorem dX3_init_1 : decode cX3_init 1 = .ok (.invokespecial 3, 3) := by decide +kernel
theorem dX3_init_4 : decode cX3_init 4 = .ok (.aload_n 0, 1) := by decide +kernel
theorem dX3_init_5 : decode cX3_init 5 = .ok (.sipush 288, 3) := by decide +kernel
theorem dX3_init_8 : decode cX3_init 8 = .ok (.newarray .int, 2) := by decide +kernel
theorem dX3_init_10 : decode cX3_init 10 = .ok (.putfield 9, 3) := by decide +kernel
theorem dX3_init_13 : decode cX3_init 13 = .ok (.aload_n 0, 1) := by decide +kernel
theorem dX3_init_14 : decode cX3_init 14 = .ok (.sipush 288, 3) := by decide +kernel
theorem dX3_init_17 : decode cX3_init 17 = .ok (.newarray .int, 2) := by decide +kernel
theorem dX3_init_19 : decode cX3_init 19 = .ok (.putfield 15, 3) := by decide +kernel
theorem dX3_init_22 : decode cX3_init 22 = .ok (.aload_n 0, 1) := by decide +kernel
theorem dX3_init_23 : decode cX3_init 23 = .ok (.sipush 288, 3) := by decide +kernel
theorem dX3_init_26 : decode cX3_init 26 = .ok (.newarray .int, 2) := by decide +kernel
theorem dX3_init_28 : decode cX3_init 28 = .ok (.putfield 18, 3) := by decide +kernel
theorem dX3_init_31 : decode cX3_init 31 = .ok (.aload_n 0, 1) := by decide +kernel
theorem dX3_init_32 : decode cX3_init 32 = .ok (.bipush 72, 2) := by decide +kernel
theorem dX3_init_34 : decode cX3_init 34 = .ok (.newarray .int, 2) := by decide +kernel
theorem dX3_init_36 : decode cX3_init 36 = .ok (.putfield 21, 3) := by decide +kernel
theorem dX3_init_39 : decode cX3_init 39 = .ok (.aload_n 0, 1) := by decide +kernel
theorem dX3_init_40 : decode cX3_init 40 = .ok (.bipush 72, 2) := by decide +kernel
theorem dX3_init_42 : decode cX3_init 42 = .ok (.newarray .boolean, 2) := by decide +kernel
theorem dX3_init_44 : decode cX3_init 44 = .ok (.putfield 24, 3) := by decide +kernel
theorem dX3_init_47 : decode cX3_init 47 = .ok (.aload_n 0, 1) := by decide +kernel
theorem dX3_init_48 : decode cX3_init 48 = .ok (.sipush 288, 3) := by decide +kernel
theorem dX3_init_51 : decode cX3_init 51 = .ok (.newarray .boolean, 2) := by decide +kernel
theorem dX3_init_53 : decode cX3_init 53 = .ok (.putfield 28, 3) := by decide +kernel
theorem dX3_init_56 : decode cX3_init 56 = .ok (.aload_n 0, 1) := by decide +kernel
theorem dX3_init_57 : decode cX3_init 57 = .ok (.bipush 72, 2) := by decide +kernel
theorem dX3_init_59 : decode cX3_init 59 = .ok (.newarray .int, 2) := by decide +kernel
theorem dX3_init_61 : decode cX3_init 61 = .ok (.putfield 31, 3) := by decide +kernel
theorem dX3_init_64 : decode cX3_init 64 = .ok (.aload_n 0, 1) := by decide +kernel
theorem dX3_init_65 : decode cX3_init 65 = .ok (.iconst 1, 1) := by decide +kernel
theorem dX3_init_66 : decode cX3_init 66 = .ok (.putfield 34, 3) := by decide +kernel
theorem dX3_init_69 : decode cX3_init 69 = .ok (.return_, 1) := by decide +kernel
theorem okX3_init : ab_okM MX3_init 0 := ⟨by decide, ⟨by decide, by decide⟩, ab_in 173 (by decide +kernel) (by decide +kernel), ab_in 90 (by decide +kernel) (by decide +kernel), by decide +kernel, by decide⟩
def mk3 (n : Nat) : List CellD := (sI (sR (sR (sR (sR (sR (sR (sR (cO 3) 0 (n + 1 + 0)) 1 (n + 1 + 1)) 2 (n + 1 + 2)) 3 (n + 1 + 3)) 4 (n + 1 + 4)) 5 (n + 1 + 5)) 6 (n + 1 + 6)) 7 1) :: (((((((([] ++ [cA 0 288]) ++ [cA 0 288]) ++ [cA 0 288]) ++ [cA 0 72]) ++ [cA 1 72]) ++ [cA 1 288]) ++ [cA 0 72]))
theorem mk3_pos (n : Nat) : 1 ≤ (mk3 n).length := by show 1 ≤ 8; decide
set_option maxHeartbeats 4000000 in
theorem iX3_init (A : List CellD) {n : Nat} (hn : A.length = n) (hA : n < 800000) (hok : okC (A ++ [cO 3])) (d : Nat) (hd : 1 ≤ d) (K : Option Value → ab_St → Prop) (k : okC (A ++ mk3 n) → K none (cLs (A ++ mk3 n))) : EC MX3_init 0 [(0, .ref n)] [] (cLs (A ++ [cO 3])) d 7 1368 K := by
  subst hn
  have h0 : ([(0, .ref A.length)] : List (Nat × Value))[0]? = some (0, .ref A.length) := rfl
  have hv : lvO A.length [(0, .ref A.length)] := lvO_r (Nat.le_refl _) lvO_n
  refine EC_aload_n (pc2 := 1) rfl dX3_init_0 0 h0 ?_
  refine EC_objInit oiRX3 (pc2 := 4) rfl dX3_init_1 (by decide) (by omega) ?_
  refine EC_aload_n (pc2 := 5) rfl dX3_init_4 0 h0 ?_
  refine EC_sipush (pc2 := 8) (v := 288) rfl dX3_init_5 (by decide) ?_
  refine CW_arrI (A := A) (N := 288) (b := 6) (s' := 1080) ac_I ⟨by decide, by decide, by decide⟩ dX3_init_8 (pc2 := 10) rfl hv (nr1 (by omega)) hok (by show A.length + 0 < 900000; omega) (fun hok => ?_)
  refine CW_putr (A := A) (k := 0) ⟨gfRX3_9, rfl, fun _ => rfl, fun _ => rfl, rfl, Or.inr ⟨rfl, rfl⟩⟩ dX3_init_10 (pc2 := 13) rfl rfl ?_
  replace hok := okC_sR (k := 0) (r := A.length + 1 + 0) hok (Or.inl (by show A.length + 1 + 0 < A.length + 1 + 1; omega))
  refine EC_aload_n (pc2 := 14) rfl dX3_init_13 0 h0 ?_
  refine EC_sipush (pc2 := 17) (v := 288) rfl dX3_init_14 (by decide) ?_
  refine CW_arrI (A := A) (N := 288) (b := 5) (s' := 792) ac_I ⟨by decide, by decide, by decide⟩ dX3_init_17 (pc2 := 19) rfl hv (nr1 (by omega)) hok (by show A.length + 1 < 900000; omega) (fun hok => ?_)
  refine CW_putr (A := A) (k := 1) ⟨gfRX3_15, rfl, fun _ => rfl, fun _ => rfl, rfl, Or.inr ⟨rfl, rfl⟩⟩ dX3_init_19 (pc2 := 22) rfl rfl ?_
  replace hok := okC_sR (k := 1) (r := A.length + 1 + 1) hok (Or.inl (by show A.length + 1 + 1 < A.length + 1 + 2; omega))
  refine EC_aload_n (pc2 := 23) rfl dX3_init_22 0 h0 ?_
  refine EC_sipush (pc2 := 26) (v := 288) rfl dX3_init_23 (by decide) ?_
  refine CW_arrI (A := A) (N := 288) (b := 4) (s' := 504) ac_I ⟨by decide, by decide, by decide⟩ dX3_init_26 (pc2 := 28) rfl hv (nr1 (by omega)) hok (by show A.length + 2 < 900000; omega) (fun hok => ?_)
  refine CW_putr (A := A) (k := 2) ⟨gfRX3_18, rfl, fun _ => rfl, fun _ => rfl, rfl, Or.inr ⟨rfl, rfl⟩⟩ dX3_init_28 (pc2 := 31) rfl rfl ?_
  replace hok := okC_sR (k := 2) (r := A.length + 1 + 2) hok (Or.inl (by show A.length + 1 + 2 < A.length + 1 + 3; omega))
  refine EC_aload_n (pc2 := 32) rfl dX3_init_31 0 h0 ?_
  refine EC_bipush (pc2 := 34) (v := 72) rfl dX3_init_32 (by decide) ?_
  refine CW_arrI (A := A) (N := 72) (b := 3) (s' := 432) ac_I ⟨by decide, by decide, by decide⟩ dX3_init_34 (pc2 := 36) rfl hv (nr1 (by omega)) hok (by show A.length + 3 < 900000; omega) (fun hok => ?_)
  refine CW_putr (A := A) (k := 3) ⟨gfRX3_21, rfl, fun _ => rfl, fun _ => rfl, rfl, Or.inr ⟨rfl, rfl⟩⟩ dX3_init_36 (pc2 := 39) rfl rfl ?_
  replace hok := okC_sR (k := 3) (r := A.length + 1 + 3) hok (Or.inl (by show A.length + 1 + 3 < A.length + 1 + 4; omega))
  refine EC_aload_n (pc2 := 40) rfl dX3_init_39 0 h0 ?_
  refine EC_bipush (pc2 := 42) (v := 72) rfl dX3_init_40 (by decide) ?_
  refine CW_arrZ (A := A) (N := 72) (b := 2) (s' := 360) ac_Z ⟨by decide, by decide, by decide⟩ dX3_init_42 (pc2 := 44) rfl hv (nr1 (by omega)) hok (by show A.length + 4 < 900000; omega) (fun hok => ?_)
  refine CW_putr (A := A) (k := 4) ⟨gfRX3_24, rfl, fun _ => rfl, fun _ => rfl, rfl, Or.inr ⟨rfl, rfl⟩⟩ dX3_init_44 (pc2 := 47) rfl rfl ?_
  replace hok := okC_sR (k := 4) (r := A.length + 1 + 4) hok (Or.inl (by show A.length + 1 + 4 < A.length + 1 + 5; omega))
  refine EC_aload_n (pc2 := 48) rfl dX3_init_47 0 h0 ?_
  refine EC_sipush (pc2 := 51) (v := 288) rfl dX3_init_48 (by decide) ?_
  refine CW_arrZ (A := A) (N := 288) (b := 1) (s' := 72) ac_Z ⟨by decide, by decide, by decide⟩ dX3_init_51 (pc2 := 53) rfl hv (nr1 (by omega)) hok (by show A.length + 5 < 900000; omega) (fun hok => ?_)
  refine CW_putr (A := A) (k := 5) ⟨gfRX3_28, rfl, fun _ => rfl, fun _ => rfl, rfl, Or.inr ⟨rfl, rfl⟩⟩ dX3_init_53 (pc2 := 56) rfl rfl ?_
  replace hok := okC_sR (k := 5) (r := A.length + 1 + 5) hok (Or.inl (by show A.length + 1 + 5 < A.length + 1 + 6; omega))
  refine EC_aload_n (pc2 := 57) rfl dX3_init_56 0 h0 ?_
  refine EC_bipush (pc2 := 59) (v := 72) rfl dX3_init_57 (by decide) ?_
  refine CW_arrI (A := A) (N := 72) (b := 0) (s' := 0) ac_I ⟨by decide, by decide, by decide⟩ dX3_init_59 (pc2 := 61) rfl hv (nr1 (by omega)) hok (by show A.length + 6 < 900000; omega) (fun hok => ?_)
  refine CW_putr (A := A) (k := 6) ⟨gfRX3_31, rfl, fun _ => rfl, fun _ => rfl, rfl, Or.inr ⟨rfl, rfl⟩⟩ dX3_init_61 (pc2 := 64) rfl rfl ?_
  replace hok := okC_sR (k := 6) (r := A.length + 1 + 6) hok (Or.inl (by show A.length + 1 + 6 < A.length + 1 + 7; omega))
  refine EC_aload_n (pc2 := 65) rfl dX3_init_64 0 h0 ?_
  refine EC_iconst (pc2 := 66) (v := 1) rfl dX3_init_65 (by decide) ?_
  refine CW_puti (A := A) (k := 7) (v := 1) ⟨gfRX3_34, rfl, rfl, Or.inl rfl⟩ rfl rfl dX3_init_66 (pc2 := 69) rfl rfl ?_
  replace hok := okC_sI (k := 7) (v := 1) hok
  exact EC_vret rfl dX3_init_69 (k hok)
abbrev MX4_init : ab_M := (yX4_init, cX4_init, 2, none)
theorem dX4_init_0 : decode cX4_init 0 = .ok (.aload_n 0, 1) := by decide +kernel
theorem dX4_init_1 : decode cX4_init 1 = .ok (.invokespecial 3, 3) := by decide +kernel
theorem dX4_init_4 : decode cX4_init 4 = .ok (.aload_n 0, 1) := by decide +kernel
theorem dX4_init_5 : decode cX4_init 5 = .ok (.iconst 1, 1) := by decide +kernel
theorem dX4_init_6 : decode cX4_init 6 = .ok (.putfield 9, 3) := by decide +kernel
theorem dX4_init_9 : decode cX4_init 9 = .ok (.aload_n 0, 1) := by decide +kernel
theorem dX4_init_10 : decode cX4_init 10 = .ok (.iconst 1, 1) := by decide +kernel
theorem dX4_init_11 : decode cX4_init 11 = .ok (.putfield 15, 3) := by decide +kernel
theorem dX4_init_14 : decode cX4_init 14 = .ok (.aload_n 0, 1) := by decide +kernel
theorem dX4_init_15 : decode cX4_init 15 = .ok (.iconst (-1), 1) := by decide +kernel
theorem dX4_init_16 : decode cX4_init 16 = .ok (.putfield 18, 3) := by decide +kernel
theorem dX4_init_19 : decode cX4_init 19 = .ok (.aload_n 0, 1) := by decide +kernel
theorem dX4_init_20 : decode cX4_init 20 = .ok (.iconst 1, 1) := by decide +kernel
theorem dX4_init_21 : decode cX4_init 21 = .ok (.putfield 21, 3) := by decide +kernel
theorem dX4_init_24 : decode cX4_init 24 = .ok (.aload_n 0, 1) := by decide +kernel
theorem dX4_init_25 : decode cX4_init 25 = .ok (.iconst (-1), 1) := by decide +kernel
theorem dX4_init_26 : decode cX4_init 26 = .ok (.putfield 24, 3) := by decide +kernel
theorem dX4_init_29 : decode cX4_init 29 = .ok (.aload_n 0, 1) := by decide +kernel
theorem dX4_init_30 : decode cX4_init 30 = .ok (.iconst (-1), 1) := by decide +kernel
theorem dX4_init_31 : decode cX4_init 31 = .ok (.putfield 27, 3) := by decide +kernel
theorem dX4_init_34 : decode cX4_init 34 = .ok (.aload_n 0, 1) := by decide +kernel
theorem dX4_init_35 : decode cX4_init 35 = .ok (.bipush 6, 2) := by decide +kernel
theorem dX4_init_37 : decode cX4_init 37 = .ok (.newarray .int, 2) := by decide +kernel
theorem dX4_init_39 : decode cX4_init 39 = .ok (.putfield 30, 3) := by decide +kernel
theorem dX4_init_42 : decode cX4_init 42 = .ok (.aload_n 0, 1) := by decide +kernel
theorem dX4_init_43 : decode cX4_init 43 = .ok (.bipush 6, 2) := by decide +kernel
theorem dX4_init_45 : decode cX4_init 45 = .ok (.newarray .int, 2) := by decide +kernel
theorem dX4_init_47 : decode cX4_init 47 = .ok (.putfield 34, 3) := by decide +kernel
theorem dX4_init_50 : decode cX4_init 50 = .ok (.aload_n 0, 1) := by decide +kernel
theorem dX4_init_51 : decode cX4_init 51 = .ok (.iload_n 1, 1) := by decide +kernel
theorem dX4_init_52 : decode cX4_init 52 = .ok (.putfield 37, 3) := by decide +kernel
theorem dX4_init_55 : decode cX4_init 55 = .ok (.return_, 1) := by decide +kernel
theorem okX4_init : ab_okM MX4_init 1 := ⟨by decide, ⟨by decide, by decide⟩, ab_in 211 (by decide +kernel) (by decide +kernel), ab_in 91 (by decide +kernel) (by decide +kernel), by decide +kernel, by decide⟩
def mk4 (n : Nat) (a1 : Int32) : List CellD := (sI (sR (sR (sI (sI (sI (sI (sI (sI (cO 4) 3 1) 4 1) 5 (-1)) 8 1) 10 (-1)) 11 (-1)) 12 (n + 1 + 0)) 13 (n + 1 + 1)) 0 a1) :: ((([] ++ [cA 0 6]) ++ [cA 0 6]))
theorem mk4_pos (n : Nat) (a1 : Int32) : 1 ≤ (mk4 n a1).length := by show 1 ≤ 3; decide
set_option maxHeartbeats 4000000 in
theorem iX4_init (A : List CellD) {n : Nat} (a1 : Int32) (hn : A.length = n) (hA : n < 800000) (hok : okC (A ++ [cO 4])) (d : Nat) (hd : 1 ≤ d) (K : Option Value → ab_St → Prop) (k : okC (A ++ mk4 n a1) → K none (cLs (A ++ mk4 n a1))) : EC MX4_init 0 [(0, .ref n), (1, .int a1)] [] (cLs (A ++ [cO 4])) d 2 12 K := by
  subst hn
  have h0 : ([(0, .ref A.length), (1, .int a1)] : List (Nat × Value))[0]? = some (0, .ref A.length) := rfl
  have hv : lvO A.length [(0, .ref A.length), (1, .int a1)] := lvO_r (Nat.le_refl _) (lvO_i lvO_n)
  refine EC_aload_n (pc2 := 1) rfl dX4_init_0 0 h0 ?_
  refine EC_objInit oiRX4 (pc2 := 4) rfl dX4_init_1 (by decide) (by omega) ?_
  refine EC_aload_n (pc2 := 5) rfl dX4_init_4 0 h0 ?_
  refine EC_iconst (pc2 := 6) (v := 1) rfl dX4_init_5 (by decide) ?_
  refine CW_puti (A := A) (k := 3) (v := 1) ⟨gfRX4_9, rfl, rfl, Or.inl rfl⟩ rfl rfl dX4_init_6 (pc2 := 9) rfl rfl ?_
  replace hok := okC_sI (k := 3) (v := 1) hok
  refine EC_aload_n (pc2 := 10) rfl dX4_init_9 0 h0 ?_
  refine EC_iconst (pc2 := 11) (v := 1) rfl dX4_init_10 (by decide) ?_
  refine CW_puti (A := A) (k := 4) (v := 1) ⟨gfRX4_15, rfl, rfl, Or.inl rfl⟩ rfl rfl dX4_init_11 (pc2 := 14) rfl rfl ?_
  replace hok := okC_sI (k := 4) (v := 1) hok
  refine EC_aload_n (pc2 := 15) rfl dX4_init_14 0 h0 ?_
  refine EC_iconst (pc2 := 16) (v := (-1)) rfl dX4_init_15 (by decide) ?_
  refine CW_puti (A := A) (k := 5) (v := (-1)) ⟨gfRX4_18, rfl, rfl, Or.inl rfl⟩ rfl rfl dX4_init_16 (pc2 := 19) rfl rfl ?_
  replace hok := okC_sI (k := 5) (v := (-1)) hok
  refine EC_aload_n (pc2 := 20) rfl dX4_init_19 0 h0 ?_
  refine EC_iconst (pc2 := 21) (v := 1) rfl dX4_init_20 (by decide) ?_
  refine CW_puti (A := A) (k := 8) (v := 1) ⟨gfRX4_21, rfl, rfl, Or.inl rfl⟩ rfl rfl dX4_init_21 (pc2 := 24) rfl rfl ?_
  replace hok := okC_sI (k := 8) (v := 1) hok
  refine EC_aload_n (pc2 := 25) rfl dX4_init_24 0 h0 ?_
  refine EC_iconst (pc2 := 26) (v := (-1)) rfl dX4_init_25 (by decide) ?_
  refine CW_puti (A := A) (k := 10) (v := (-1)) ⟨gfRX4_24, rfl, rfl, Or.inl rfl⟩ rfl rfl dX4_init_26 (pc2 := 29) rfl rfl ?_
  replace hok := okC_sI (k := 10) (v := (-1)) hok
  refine EC_aload_n (pc2 := 30) rfl dX4_init_29 0 h0 ?_
  refine EC_iconst (pc2 := 31) (v := (-1)) rfl dX4_init_30 (by decide) ?_
  refine CW_puti (A := A) (k := 11) (v := (-1)) ⟨gfRX4_27, rfl, rfl, Or.inl rfl⟩ rfl rfl dX4_init_31 (pc2 := 34) rfl rfl ?_
  replace hok := okC_sI (k := 11) (v := (-1)) hok
  refine EC_aload_n (pc2 := 35) rfl dX4_init_34 0 h0 ?_
  refine EC_bipush (pc2 := 37) (v := 6) rfl dX4_init_35 (by decide) ?_
  refine CW_arrI (A := A) (N := 6) (b := 1) (s' := 6) ac_I ⟨by decide, by decide, by decide⟩ dX4_init_37 (pc2 := 39) rfl hv (nr1 (by omega)) hok (by show A.length + 0 < 900000; omega) (fun hok => ?_)
  refine CW_putr (A := A) (k := 12) ⟨gfRX4_30, rfl, fun _ => rfl, fun _ => rfl, rfl, Or.inr ⟨rfl, rfl⟩⟩ dX4_init_39 (pc2 := 42) rfl rfl ?_
  replace hok := okC_sR (k := 12) (r := A.length + 1 + 0) hok (Or.inl (by show A.length + 1 + 0 < A.length + 1 + 1; omega))
  refine EC_aload_n (pc2 := 43) rfl dX4_init_42 0 h0 ?_
  refine EC_bipush (pc2 := 45) (v := 6) rfl dX4_init_43 (by decide) ?_
  refine CW_arrI (A := A) (N := 6) (b := 0) (s' := 0) ac_I ⟨by decide, by decide, by decide⟩ dX4_init_45 (pc2 := 47) rfl hv (nr1 (by omega)) hok (by show A.length + 1 < 900000; omega) (fun hok => ?_)
  refine CW_putr (A := A) (k := 13) ⟨gfRX4_34, rfl, fun _ => rfl, fun _ => rfl, rfl, Or.inr ⟨rfl, rfl⟩⟩ dX4_init_47 (pc2 := 50) rfl rfl ?_
  replace hok := okC_sR (k := 13) (r := A.length + 1 + 1) hok (Or.inl (by show A.length + 1 + 1 < A.length + 1 + 2; omega))
  refine EC_aload_n (pc2 := 51) rfl dX4_init_50 0 h0 ?_
  refine EC_iload_n (pc2 := 52) rfl dX4_init_51 1 rfl ?_
  refine CW_puti (A := A) (k := 0) ⟨gfRX4_37, rfl, rfl, Or.inr ⟨rfl, rfl⟩⟩ rfl rfl dX4_init_52 (pc2 := 55) rfl rfl ?_
  replace hok := okC_sI (k := 0) (v := a1) hok
  exact EC_vret rfl dX4_init_55 (k hok)
abbrev MX7_init : ab_M := (yX7_init, cX7_init, 4, none)
theorem dX7_init_0 : decode cX7_init 0 = .ok (.aload_n 0, 1) := by decide +kernel
theorem dX7_init_1 : decode cX7_init 1 = .ok (.invokespecial 3, 3) := by decide +kernel
theorem dX7_init_4 : decode cX7_init 4 = .ok (.aload_n 0, 1) := by decide +kernel
theorem dX7_init_5 : decode cX7_init 5 = .ok (.bipush 8, 2) := by decide +kernel
theorem dX7_init_7 : decode cX7_init 7 = .ok (.newarray .int, 2) := by decide +kernel
theorem dX7_init_9 : decode cX7_init 9 = .ok (.putfield 9, 3) := by decide +kernel
theorem dX7_init_12 : decode cX7_init 12 = .ok (.aload_n 0, 1) := by decide +kernel
theorem dX7_init_13 : decode cX7_init 13 = .ok (.bipush 8, 2) := by decide +kernel
theorem dX7_init_15 : decode cX7_init 15 = .ok (.newarray .int, 2) := by decide +kernel
theorem dX7_init_17 : decode cX7_init 17 = .ok (.putfield 15, 3) := by decide +kernel
theorem dX7_init_20 : decode cX7_init 20 = .ok (.aload_n 0, 1) := by decide +kernel
theorem dX7_init_21 : decode cX7_init 21 = .ok (.sipush 256, 3) := by decide +kernel
theorem dX7_init_24 : decode cX7_init 24 = .ok (.newarray .int, 2) := by decide +kernel
theorem dX7_init_26 : decode cX7_init 26 = .ok (.putfield 18, 3) := by decide +kernel
theorem dX7_init_29 : decode cX7_init 29 = .ok (.aload_n 0, 1) := by decide +kernel
theorem dX7_init_30 : decode cX7_init 30 = .ok (.sipush 2048, 3) := by decide +kernel
theorem dX7_init_33 : decode cX7_init 33 = .ok (.newarray .int, 2) := by decide +kernel
theorem dX7_init_35 : decode cX7_init 35 = .ok (.putfield 21, 3) := by decide +kernel
theorem dX7_init_38 : decode cX7_init 38 = .ok (.aload_n 0, 1) := by decide +kernel
theorem dX7_init_39 : decode cX7_init 39 = .ok (.bipush 72, 2) := by decide +kernel
theorem dX7_init_41 : decode cX7_init 41 = .ok (.newarray .int, 2) := by decide +kernel
theorem dX7_init_43 : decode cX7_init 43 = .ok (.putfield 24, 3) := by decide +kernel
theorem dX7_init_46 : decode cX7_init 46 = .ok (.aload_n 0, 1) := by decide +kernel
theorem dX7_init_47 : decode cX7_init 47 = .ok (.bipush 8, 2) := by decide +kernel
theorem dX7_init_49 : decode cX7_init 49 = .ok (.newarray .int, 2) := by decide +kernel
theorem dX7_init_51 : decode cX7_init 51 = .ok (.putfield 27, 3) := by decide +kernel
theorem dX7_init_54 : decode cX7_init 54 = .ok (.aload_n 0, 1) := by decide +kernel
theorem dX7_init_55 : decode cX7_init 55 = .ok (.bipush 20, 2) := by decide +kernel
theorem dX7_init_57 : decode cX7_init 57 = .ok (.newarray .int, 2) := by decide +kernel
theorem dX7_init_59 : decode cX7_init 59 = .ok (.putfield 30, 3) := by decide +kernel
theorem dX7_init_62 : decode cX7_init 62 = .ok (.aload_n 0, 1) := by decide +kernel
theorem dX7_init_63 : decode cX7_init 63 = .ok (.bipush 20, 2) := by decide +kernel
theorem dX7_init_65 : decode cX7_init 65 = .ok (.newarray .int, 2) := by decide +kernel
theorem dX7_init_67 : decode cX7_init 67 = .ok (.putfield 33, 3) := by decide +kernel
theorem dX7_init_70 : decode cX7_init 70 = .ok (.aload_n 0, 1) := by decide +kernel
theorem dX7_init_71 : decode cX7_init 71 = .ok (.aload_n 1, 1) := by decide +kernel
theorem dX7_init_72 : decode cX7_init 72 = .ok (.putfield 36, 3) := by decide +kernel
theorem dX7_init_75 : decode cX7_init 75 = .ok (.aload_n 0, 1) := by decide +kernel
theorem dX7_init_76 : decode cX7_init 76 = .ok (.aload_n 2, 1) := by decide +kernel
theorem dX7_init_77 : decode cX7_init 77 = .ok (.putfield 40, 3) := by decide +kernel
theorem dX7_init_80 : decode cX7_init 80 = .ok (.aload_n 0, 1) := by decide +kernel
theorem dX7_init_81 : decode cX7_init 81 = .ok (.aload_n 3, 1) := by decide +kernel
theorem dX7_init_82 : decode cX7_init 82 = .ok (.putfield 44, 3) := by decide +kernel
theorem dX7_init_85 : decode cX7_init 85 = .ok (.return_, 1) := by decide +kernel
theorem okX7_init : ab_okM MX7_init 3 := ⟨by decide, ⟨by decide, by decide⟩, ab_in 669 (by decide +kernel) (by decide +kernel), ab_in 98 (by decide +kernel) (by decide +kernel), by decide +kernel, by decide⟩
def mk7 (n : Nat) (a1 : Nat) (a2 : Nat) (a3 : Nat) : List CellD := (sR (sR (sR (sR (sR (sR (sR (sR (sR (sR (sR (cO 7) 3 (n + 1 + 0)) 4 (n + 1 + 1)) 6 (n + 1 + 2)) 7 (n + 1 + 3)) 9 (n + 1 + 4)) 13 (n + 1 + 5)) 14 (n + 1 + 6)) 15 (n + 1 + 7)) 0 a1) 1 a2) 2 a3) :: ((((((((([] ++ [cA 0 8]) ++ [cA 0 8]) ++ [cA 0 256]) ++ [cA 0 2048]) ++ [cA 0 72]) ++ [cA 0 8]) ++ [cA 0 20]) ++ [cA 0 20]))
theorem mk7_pos (n : Nat) (a1 : Nat) (a2 : Nat) (a3 : Nat) : 1 ≤ (mk7 n a1 a2 a3).length := by show 1 ≤ 9; decide
set_option maxHeartbeats 4000000 in
theorem iX7_init (A : List CellD) {n : Nat} (a1 : Nat) (a2 : Nat) (a3 : Nat) (hn : A.length = n) (hr1 : a1 < n) (hr2 : a2 < n) (hr3 : a3 < n) (hA : n < 800000) (hok : okC (A ++ [cO 7])) (d : Nat) (hd : 1 ≤ d) (K : Option Value → ab_St → Prop) (k : okC (A ++ mk7 n a1 a2 a3) → K none (cLs (A ++ mk7 n a1 a2 a3))) : EC MX7_init 0 [(0, .ref n), (1, .ref a1), (2, .ref a2), (3, .ref a3)] [] (cLs (A ++ [cO 7])) d 8 2440 K := by
  subst hn
  have h0 : ([(0, .ref A.length), (1, .ref a1), (2, .ref a2), (3, .ref a3)] : List (Nat × Value))[0]? = some (0, .ref A.length) := rfl
  have hv : lvO A.length [(0, .ref A.length), (1, .ref a1), (2, .ref a2), (3, .ref a3)] := lvO_r (Nat.le_refl _) (lvO_r (by omega) (lvO_r (by omega) (lvO_r (by omega) lvO_n)))
  refine EC_aload_n (pc2 := 1) rfl dX7_init_0 0 h0 ?_
  refine EC_objInit oiRX7 (pc2 := 4) rfl dX7_init_1 (by decide) (by omega) ?_
  refine EC_aload_n (pc2 := 5) rfl dX7_init_4 0 h0 ?_
  refine EC_bipush (pc2 := 7) (v := 8) rfl dX7_init_5 (by decide) ?_
  refine CW_arrI (A := A) (N := 8) (b := 7) (s' := 2432) ac_I ⟨by decide, by decide, by decide⟩ dX7_init_7 (pc2 := 9) rfl hv (nr1 (by omega)) hok (by show A.length + 0 < 900000; omega) (fun hok => ?_)
  refine CW_putr (A := A) (k := 3) ⟨gfRX7_9, rfl, fun _ => rfl, fun _ => rfl, rfl, Or.inr ⟨rfl, rfl⟩⟩ dX7_init_9 (pc2 := 12) rfl rfl ?_
  replace hok := okC_sR (k := 3) (r := A.length + 1 + 0) hok (Or.inl (by show A.length + 1 + 0 < A.length + 1 + 1; omega))
  refine EC_aload_n (pc2 := 13) rfl dX7_init_12 0 h0 ?_
  refine EC_bipush (pc2 := 15) (v := 8) rfl dX7_init_13 (by decide) ?_
  refine CW_arrI (A := A) (N := 8) (b := 6) (s' := 2424) ac_I ⟨by decide, by decide, by decide⟩ dX7_init_15 (pc2 := 17) rfl hv (nr1 (by omega)) hok (by show A.length + 1 < 900000; omega) (fun hok => ?_)
  refine CW_putr (A := A) (k := 4) ⟨gfRX7_15, rfl, fun _ => rfl, fun _ => rfl, rfl, Or.inr ⟨rfl, rfl⟩⟩ dX7_init_17 (pc2 := 20) rfl rfl ?_
  replace hok := okC_sR (k := 4) (r := A.length + 1 + 1) hok (Or.inl (by show A.length + 1 + 1 < A.length + 1 + 2; omega))
  refine EC_aload_n (pc2 := 21) rfl dX7_init_20 0 h0 ?_
  refine EC_sipush (pc2 := 24) (v := 256) rfl dX7_init_21 (by decide) ?_
  refine CW_arrI (A := A) (N := 256) (b := 5) (s' := 2168) ac_I ⟨by decide, by decide, by decide⟩ dX7_init_24 (pc2 := 26) rfl hv (nr1 (by omega)) hok (by show A.length + 2 < 900000; omega) (fun hok => ?_)
  refine CW_putr (A := A) (k := 6) ⟨gfRX7_18, rfl, fun _ => rfl, fun _ => rfl, rfl, Or.inr ⟨rfl, rfl⟩⟩ dX7_init_26 (pc2 := 29) rfl rfl ?_
  replace hok := okC_sR (k := 6) (r := A.length + 1 + 2) hok (Or.inl (by show A.length + 1 + 2 < A.length + 1 + 3; omega))
  refine EC_aload_n (pc2 := 30) rfl dX7_init_29 0 h0 ?_
  refine EC_sipush (pc2 := 33) (v := 2048) rfl dX7_init_30 (by decide) ?_
  refine CW_arrI (A := A) (N := 2048) (b := 4) (s' := 120) ac_I ⟨by decide, by decide, by decide⟩ dX7_init_33 (pc2 := 35) rfl hv (nr1 (by omega)) hok (by show A.length + 3 < 900000; omega) (fun hok => ?_)
  refine CW_putr (A := A) (k := 7) ⟨gfRX7_21, rfl, fun _ => rfl, fun _ => rfl, rfl, Or.inr ⟨rfl, rfl⟩⟩ dX7_init_35 (pc2 := 38) rfl rfl ?_
  replace hok := okC_sR (k := 7) (r := A.length + 1 + 3) hok (Or.inl (by show A.length + 1 + 3 < A.length + 1 + 4; omega))
  refine EC_aload_n (pc2 := 39) rfl dX7_init_38 0 h0 ?_
  refine EC_bipush (pc2 := 41) (v := 72) rfl dX7_init_39 (by decide) ?_
  refine CW_arrI (A := A) (N := 72) (b := 3) (s' := 48) ac_I ⟨by decide, by decide, by decide⟩ dX7_init_41 (pc2 := 43) rfl hv (nr1 (by omega)) hok (by show A.length + 4 < 900000; omega) (fun hok => ?_)
  refine CW_putr (A := A) (k := 9) ⟨gfRX7_24, rfl, fun _ => rfl, fun _ => rfl, rfl, Or.inr ⟨rfl, rfl⟩⟩ dX7_init_43 (pc2 := 46) rfl rfl ?_
  replace hok := okC_sR (k := 9) (r := A.length + 1 + 4) hok (Or.inl (by show A.length + 1 + 4 < A.length + 1 + 5; omega))
  refine EC_aload_n (pc2 := 47) rfl dX7_init_46 0 h0 ?_
  refine EC_bipush (pc2 := 49) (v := 8) rfl dX7_init_47 (by decide) ?_
  refine CW_arrI (A := A) (N := 8) (b := 2) (s' := 40) ac_I ⟨by decide, by decide, by decide⟩ dX7_init_49 (pc2 := 51) rfl hv (nr1 (by omega)) hok (by show A.length + 5 < 900000; omega) (fun hok => ?_)
  refine CW_putr (A := A) (k := 13) ⟨gfRX7_27, rfl, fun _ => rfl, fun _ => rfl, rfl, Or.inr ⟨rfl, rfl⟩⟩ dX7_init_51 (pc2 := 54) rfl rfl ?_
  replace hok := okC_sR (k := 13) (r := A.length + 1 + 5) hok (Or.inl (by show A.length + 1 + 5 < A.length + 1 + 6; omega))
  refine EC_aload_n (pc2 := 55) rfl dX7_init_54 0 h0 ?_
  refine EC_bipush (pc2 := 57) (v := 20) rfl dX7_init_55 (by decide) ?_
  refine CW_arrI (A := A) (N := 20) (b := 1) (s' := 20) ac_I ⟨by decide, by decide, by decide⟩ dX7_init_57 (pc2 := 59) rfl hv (nr1 (by omega)) hok (by show A.length + 6 < 900000; omega) (fun hok => ?_)
  refine CW_putr (A := A) (k := 14) ⟨gfRX7_30, rfl, fun _ => rfl, fun _ => rfl, rfl, Or.inr ⟨rfl, rfl⟩⟩ dX7_init_59 (pc2 := 62) rfl rfl ?_
  replace hok := okC_sR (k := 14) (r := A.length + 1 + 6) hok (Or.inl (by show A.length + 1 + 6 < A.length + 1 + 7; omega))
  refine EC_aload_n (pc2 := 63) rfl dX7_init_62 0 h0 ?_
  refine EC_bipush (pc2 := 65) (v := 20) rfl dX7_init_63 (by decide) ?_
  refine CW_arrI (A := A) (N := 20) (b := 0) (s' := 0) ac_I ⟨by decide, by decide, by decide⟩ dX7_init_65 (pc2 := 67) rfl hv (nr1 (by omega)) hok (by show A.length + 7 < 900000; omega) (fun hok => ?_)
  refine CW_putr (A := A) (k := 15) ⟨gfRX7_33, rfl, fun _ => rfl, fun _ => rfl, rfl, Or.inr ⟨rfl, rfl⟩⟩ dX7_init_67 (pc2 := 70) rfl rfl ?_
  replace hok := okC_sR (k := 15) (r := A.length + 1 + 7) hok (Or.inl (by show A.length + 1 + 7 < A.length + 1 + 8; omega))
  refine EC_aload_n (pc2 := 71) rfl dX7_init_70 0 h0 ?_
  refine EC_aload_n (pc2 := 72) rfl dX7_init_71 1 rfl ?_
  refine CW_putr (A := A) (k := 0) ⟨gfRX7_36, rfl, fun _ => rfl, fun _ => rfl, rfl, Or.inr ⟨rfl, rfl⟩⟩ dX7_init_72 (pc2 := 75) rfl rfl ?_
  replace hok := okC_sR (k := 0) (r := a1) hok (Or.inl (by omega))
  refine EC_aload_n (pc2 := 76) rfl dX7_init_75 0 h0 ?_
  refine EC_aload_n (pc2 := 77) rfl dX7_init_76 2 rfl ?_
  refine CW_putr (A := A) (k := 1) ⟨gfRX7_40, rfl, fun _ => rfl, fun _ => rfl, rfl, Or.inr ⟨rfl, rfl⟩⟩ dX7_init_77 (pc2 := 80) rfl rfl ?_
  replace hok := okC_sR (k := 1) (r := a2) hok (Or.inl (by omega))
  refine EC_aload_n (pc2 := 81) rfl dX7_init_80 0 h0 ?_
  refine EC_aload_n (pc2 := 82) rfl dX7_init_81 3 rfl ?_
  refine CW_putr (A := A) (k := 2) ⟨gfRX7_44, rfl, fun _ => rfl, fun _ => rfl, rfl, Or.inr ⟨rfl, rfl⟩⟩ dX7_init_82 (pc2 := 85) rfl rfl ?_
  replace hok := okC_sR (k := 2) (r := a3) hok (Or.inl (by omega))
  exact EC_vret rfl dX7_init_85 (k hok)
