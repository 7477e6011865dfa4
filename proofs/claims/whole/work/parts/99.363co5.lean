theorem oiRX12 : Cond.methodLink RX12 3 objectInit ∈ ab_G ∧ Cond.instanceMethod objectInit ∈ ab_G ∧ Cond.code objectInit ⟨#[0xb1]⟩ 1 none ∈ ab_G := ⟨ab_in 1846 (by decide +kernel) (by decide +kernel), ab_in 119 (by decide +kernel) (by decide +kernel), ab_in 120 (by decide +kernel) (by decide +kernel)⟩
theorem cw12_296 : Cond.constant RX12 296 1000000 ∈ ab_G := ab_in 1848 (by decide +kernel) (by decide +kernel)
def mdl : List CellD := [cA 0 40, cA 0 40, cA 0 40, cA 0 160, cA 0 400, cA 1 40, cA 1 12020, cA 0 12, cA 0 12, cA 0 12, cA 0 12, cA 0 12, cA 0 12, cA 0 12, cA 0 12, cA 0 12, cA 0 12, cA 0 12, cA 1 12, cA 0 288, cA 0 288, cA 0 288, cA 0 288, cA 0 288, cA 0 72, cA 0 72, cA 0 72, cA 1 72, cA 0 6, cA 0 20, cA 0 20, cA 0 6, cA 0 16, cA 0 16, cA 0 16, cA 0 16, cA 0 16, cA 0 16, cA 0 16, cA 0 16, cA 0 16, cA 0 16, cA 0 16, cA 0 16, cA 0 16, cA 0 16, cA 0 16, cA 0 16, cA 0 16, cA 0 16, cA 0 16, cA 1 16, cA 2 200, cA 2 4000, cA 2 2400, cA 2 200, cA 0 20, cA 0 12, cA 0 12, cA 0 12, cA 0 128, cA 0 5, cA 0 200, cA 0 60, cA 0 60, cA 0 60, cA 0 60, cA 0 60, cA 0 60, cA 0 60, cA 0 60, cA 1 60, cA 0 5, cA 0 100, cA 0 100, cA 0 100, cA 0 100, cA 0 12, cA 0 12, cA 0 12, cA 1 12, cA 0 20, cA 4 120, cA 4 20, cA 0 6, cA 1 6, cA 0 288, cA 0 288, cA 0 72, cA 1 72]
theorem mdl_len : mdl.length = 90 := rfl
theorem mdl_tk {k : Nat} (hk : k < 90) : (mdl.take k).length = k := by rw [List.length_take, mdl_len]; omega
theorem mdl_s {k : Nat} {x : CellD} (hk : k < 90) (hx : mdl[k]? = some x) : mdl.take k ++ [x] = mdl.take (k + 1) := by
  rw [List.take_add_one, hx]; rfl
def ob12 (n : Nat) : CellD := sR (sR (sR (sR (sR (sR (sR (sR (sR (sR (sR (sR (sR (sR (sR (sR (sR (sR (sR (sR (sR (sR (sR (sR (sR (sR (sR (sR (sR (sI (sR (sR (sR (sR (sR (sR (sR (sR (sR (sR (sR (sR (sR (sR (sR (sR (sR (sR (sR (sR (sR (sR (sR (sR (sR (sR (sR (sR (sR (sR (sR (sR (sR (sR (sR (sR (sR (sR (sR (sR (sR (sR (sR (sR (sR (sR (sR (sR (sR (sR (sR (sR (sR (sR (sR (sR (sR (sR (sR (sR (sR (sR (sR (cO 12) 2 (n + 1 + 0)) 3 (n + 1 + 1)) 4 (n + 1 + 2)) 5 (n + 1 + 3)) 6 (n + 1 + 4)) 7 (n + 1 + 5)) 8 (n + 1 + 6)) 10 (n + 1 + 7)) 11 (n + 1 + 8)) 12 (n + 1 + 9)) 13 (n + 1 + 10)) 14 (n + 1 + 11)) 15 (n + 1 + 12)) 16 (n + 1 + 13)) 17 (n + 1 + 14)) 18 (n + 1 + 15)) 19 (n + 1 + 16)) 20 (n + 1 + 17)) 21 (n + 1 + 18)) 22 (n + 1 + 19)) 23 (n + 1 + 20)) 24 (n + 1 + 21)) 25 (n + 1 + 22)) 26 (n + 1 + 23)) 27 (n + 1 + 24)) 28 (n + 1 + 25)) 29 (n + 1 + 26)) 30 (n + 1 + 27)) 32 (n + 1 + 28)) 33 (n + 1 + 29)) 34 (n + 1 + 30)) 35 (n + 1 + 31)) 36 (n + 1 + 32)) 37 (n + 1 + 33)) 38 (n + 1 + 34)) 39 (n + 1 + 35)) 40 (n + 1 + 36)) 41 (n + 1 + 37)) 42 (n + 1 + 38)) 43 (n + 1 + 39)) 44 (n + 1 + 40)) 45 (n + 1 + 41)) 46 (n + 1 + 42)) 47 (n + 1 + 43)) 48 (n + 1 + 44)) 49 (n + 1 + 45)) 50 (n + 1 + 46)) 51 (n + 1 + 47)) 52 (n + 1 + 48)) 53 (n + 1 + 49)) 54 (n + 1 + 50)) 55 (n + 1 + 51)) 59 (n + 1 + 52)) 60 (n + 1 + 53)) 61 (n + 1 + 54)) 62 (n + 1 + 55)) 63 (n + 1 + 56)) 64 (n + 1 + 57)) 65 (n + 1 + 58)) 66 (n + 1 + 59)) 67 (n + 1 + 60)) 68 (n + 1 + 61)) 69 (n + 1 + 62)) 73 (-1)) 76 (n + 1 + 52)) 77 1000004) 83 (n + 1 + 63)) 84 (n + 1 + 64)) 85 (n + 1 + 65)) 86 (n + 1 + 66)) 87 (n + 1 + 67)) 88 (n + 1 + 68)) 89 (n + 1 + 69)) 90 (n + 1 + 70)) 91 (n + 1 + 71)) 94 (n + 1 + 72)) 95 (n + 1 + 73)) 96 (n + 1 + 74)) 97 (n + 1 + 75)) 98 (n + 1 + 76)) 100 (n + 1 + 77)) 101 (n + 1 + 78)) 102 (n + 1 + 79)) 103 (n + 1 + 80)) 111 (n + 1 + 81)) 112 (n + 1 + 82)) 113 (n + 1 + 83)) 114 (n + 1 + 84)) 115 (n + 1 + 85)) 117 (n + 1 + 86)) 118 (n + 1 + 87)) 119 (n + 1 + 88)) 120 (n + 1 + 89)
def wkM (m : Nat) : CellD := (.inr (0, 400), (fun k => if k < m then (if k % 21 = 0 then nI 0 else nI 1000000) else 0), (fun _ => none))
theorem wkM_0 : mdl.set 4 (wkM 0) = mdl := by
  have e : wkM 0 = cA 0 400 := by
    refine Prod.ext rfl (Prod.ext (funext fun k => ?_) rfl)
    show (if k < 0 then (if k % 21 = 0 then nI 0 else nI 1000000) else (0 : Int32)) = 0
    rw [if_neg (Nat.not_lt_zero k)]
  rw [e]; rfl
theorem wkM_s {m : Nat} {v : Int32} (hv : v = if m % 21 = 0 then nI 0 else nI 1000000) : sI (wkM m) m v = wkM (m + 1) := by
  refine Prod.ext rfl (Prod.ext (funext fun k => ?_) rfl)
  show (if k = m then v else if k < m then (if k % 21 = 0 then nI 0 else nI 1000000) else 0) = (if k < m + 1 then (if k % 21 = 0 then nI 0 else nI 1000000) else 0)
  by_cases e : k = m
  · rw [if_pos e, if_pos (show k < m + 1 by omega), hv, e]
  · rw [if_neg e]
    by_cases e2 : k < m
    · rw [if_pos e2, if_pos (show k < m + 1 by omega)]
    · rw [if_neg e2, if_neg (show ¬ k < m + 1 by omega)]
def mk12 (n : Nat) : List CellD := ob12 n :: mdl.set 4 (wkM 400)
theorem mk12_len (n : Nat) : (mk12 n).length = 91 := rfl
/-- the state within the loops -/
abbrev smQ (A : List CellD) (m : Nat) : ab_St := cLs (A ++ ob12 A.length :: mdl.set 4 (wkM m))
theorem smQ_ast {A : List CellD} {m : Nat} {v : Int32} (hv : v = if m % 21 = 0 then nI 0 else nI 1000000) : ab_ui (smQ A m) (A.length + 5) m v = smQ A (m + 1) := by
  have hb : A.length + 5 < (A ++ ob12 A.length :: mdl.set 4 (wkM m)).length := by rw [clen, List.length_set, mdl_len]; omega
  rw [cLs_ui hb, cgD_j, cset_j]
  have e1 : (ob12 A.length :: mdl.set 4 (wkM m)).getD 5 cd0 = wkM m := rfl
  rw [e1, wkM_s hv]
  rfl
set_option maxHeartbeats 4000000 in
theorem iX12_in {A : List CellD} {d : Nat} {K : Option Value → ab_St → Prop} {i : Nat} (hi : i < 20)
    (k : EC MX12_init 759 [(0, .ref A.length), (1, .int (nI (i + 1)))] [] (smQ A (20 * (i + 1))) d 0 0 K) :
    ∀ m j, j + m = 20 → EC MX12_init 767 [(0, .ref A.length), (1, .int (nI i)), (2, .int (nI j))] [] (smQ A (20 * i + j)) d 0 0 K := by
  intro m
  induction m with
  | zero =>
    intro j hj
    have e : j = 20 := by omega
    subst e
    refine EC_iload_n (pc2 := 768) rfl dX12_init_767 2 rfl ?_
    refine EC_bipush (pc2 := 770) (v := 20) rfl dX12_init_768 (by decide) ?_
    refine EC_icmp_ge (tgt := 802) (pc2 := 773) rfl dX12_init_770 (by decide) (fun _ => ?_) (fun q => absurd (by decide) q)
    refine EC_iinc (nI (i + 1)) (pc2 := 805) rfl dX12_init_802 1 rfl (nI_add i 1) (by decide) [1, 0] [(0, .ref A.length), (1, .int (nI (i + 1)))] rfl ?_
    refine EC_goto (tgt := 759) dX12_init_805 (by decide) ?_
    have e : 20 * (i + 1) = 20 * i + 20 := by omega
    rw [e] at k
    exact k
  | succ m ih =>
    intro j hj
    refine EC_iload_n (pc2 := 768) rfl dX12_init_767 2 rfl ?_
    refine EC_bipush (pc2 := 770) (v := 20) rfl dX12_init_768 (by decide) ?_
    refine EC_icmp_ge (tgt := 802) (pc2 := 773) rfl dX12_init_770 (by decide) (fun q => absurd q ?_) (fun _ => ?_)
    · show ¬ nI 20 ≤ nI j
      rw [nI_leI (by omega) (by omega)]; omega
    refine EC_aload_n (pc2 := 774) rfl dX12_init_773 0 rfl ?_
    refine CW_getr (A := A) (k := 6) (r := A.length + 5) ⟨gfRX12_22, rfl⟩ rfl dX12_init_774 (pc2 := 777) rfl rfl ?_
    refine EC_bipush (pc2 := 779) (v := 20) rfl dX12_init_777 (by decide) ?_
    refine EC_iload_n (pc2 := 780) rfl dX12_init_779 1 rfl ?_
    refine EC_imul (pc2 := 781) rfl dX12_init_780 ?_
    refine EC_iload_n (pc2 := 782) rfl dX12_init_781 2 rfl ?_
    refine EC_iadd (pc2 := 783) rfl dX12_init_782 ?_
    have ei : (20 : Int32) * nI i + nI j = nI (20 * i + j) := by
      show nI 20 * nI i + nI j = _
      rw [pk_mul, nI_add]
    rw [ei]
    have fin : ∀ v : Int32, v = (if (20 * i + j) % 21 = 0 then nI 0 else nI 1000000) → EC MX12_init 795 [(0, .ref A.length), (1, .int (nI i)), (2, .int (nI j))] [.int v, .int (nI (20 * i + j)), .ref (A.length + 5)] (smQ A (20 * i + j)) d 0 0 K := by
      intro v hv
      refine EC_iast (n := 400) (pc2 := 796) rfl dX12_init_795 (by show _ < (A ++ _ :: _).length; rw [clen, List.length_set, mdl_len]; omega) ?_ (vp_in_nI (by omega) (by omega)) ?_
      · show ((A ++ ob12 A.length :: mdl.set 4 (wkM (20 * i + j))).getD (A.length + 5) cd0).1 = _
        rw [cgD_j]; rfl
      rw [nI_clamp (by omega), smQ_ast hv]
      refine EC_iinc (nI (j + 1)) (pc2 := 799) rfl dX12_init_796 2 rfl (nI_add j 1) (by decide) [1, 2, 0] [(0, .ref A.length), (1, .int (nI i)), (2, .int (nI (j + 1)))] rfl ?_
      refine EC_goto (tgt := 767) dX12_init_799 (by decide) ?_
      exact ih (j + 1) (by omega)
    refine EC_iload_n (pc2 := 784) rfl dX12_init_783 1 rfl ?_
    refine EC_iload_n (pc2 := 785) rfl dX12_init_784 2 rfl ?_
    refine EC_icmp_ne (tgt := 792) (pc2 := 788) rfl dX12_init_785 (by decide) (fun q => ?_) (fun q => ?_)
    · refine EC_ldcw cw12_296 (pc2 := 795) rfl dX12_init_792 ?_
      refine fin _ ?_
      rw [if_neg]
      · rfl
      intro e
      exact q (by rw [show i = j by omega])
    · have q : i = j := by
        have := congrArg Int32.toNatClampNeg q
        rwa [nI_clamp (by omega), nI_clamp (by omega)] at this
      refine EC_iconst (pc2 := 789) (v := 0) rfl dX12_init_788 (by decide) ?_
      refine EC_goto (tgt := 795) dX12_init_789 (by decide) ?_
      refine fin _ ?_
      rw [if_pos (by omega)]
      rfl
set_option maxHeartbeats 4000000 in
theorem iX12_out {A : List CellD} {d : Nat} {K : Option Value → ab_St → Prop} (k : K none (smQ A 400)) :
    ∀ m i, i + m = 20 → EC MX12_init 759 [(0, .ref A.length), (1, .int (nI i))] [] (smQ A (20 * i)) d 0 0 K := by
  intro m
  induction m with
  | zero =>
    intro i hi
    have e : i = 20 := by omega
    subst e
    refine EC_iload_n (pc2 := 760) rfl dX12_init_759 1 rfl ?_
    refine EC_bipush (pc2 := 762) (v := 20) rfl dX12_init_760 (by decide) ?_
    refine EC_icmp_ge (tgt := 808) (pc2 := 765) rfl dX12_init_762 (by decide) (fun _ => ?_) (fun q => absurd (by decide) q)
    exact EC_vret rfl dX12_init_808 k
  | succ m ih =>
    intro i hi
    refine EC_iload_n (pc2 := 760) rfl dX12_init_759 1 rfl ?_
    refine EC_bipush (pc2 := 762) (v := 20) rfl dX12_init_760 (by decide) ?_
    refine EC_icmp_ge (tgt := 808) (pc2 := 765) rfl dX12_init_762 (by decide) (fun q => absurd q ?_) (fun _ => ?_)
    · show ¬ nI 20 ≤ nI i
      rw [nI_leI (by omega) (by omega)]; omega
    refine EC_iconst (pc2 := 766) (v := 0) rfl dX12_init_765 (by decide) ?_
    refine EC_istore_n (pc2 := 767) rfl dX12_init_766 (by decide) [1, 2, 0] [(0, .ref A.length), (1, .int (nI i)), (2, .int 0)] rfl ?_
    exact iX12_in (by omega) (ih (i + 1) (by omega)) 20 0 rfl
set_option maxHeartbeats 16000000 in
set_option maxRecDepth 4000 in
theorem iX12_init (A : List CellD) {n : Nat} (hn : A.length = n) (hA : n < 100000) (hok : okC (A ++ [cO 12])) (d : Nat) (hd : 1 ≤ d) (K : Option Value → ab_St → Prop) (k : okC (A ++ mk12 n) → K none (cLs (A ++ mk12 n))) : EC MX12_init 0 [(0, .ref n)] [] (cLs (A ++ [cO 12])) d 90 24058 K := by
  subst hn
  have h0 : ([(0, .ref A.length)] : List (Nat × Value))[0]? = some (0, .ref A.length) := rfl
  have hv : lvO A.length [(0, .ref A.length)] := lvO_r (Nat.le_refl _) lvO_n
  refine EC_aload_n (pc2 := 1) rfl dX12_init_0 0 h0 ?_
  refine EC_objInit oiRX12 (pc2 := 4) rfl dX12_init_1 (by decide) (by omega) ?_
  change okC (A ++ cO 12 :: mdl.take 0) at hok
  change EC MX12_init 4 [(0, .ref A.length)] [] (cLs (A ++ cO 12 :: mdl.take 0)) d _ _ K
  refine CX_arrI (A := A) (k := 2) (N := 40) (m := 0) (v := 40) (b := 89) (s' := 24018) (mdl_tk (k := 0) (by decide)) ac_I ⟨by decide, by decide, by decide⟩ ⟨gfRX12_9, rfl, fun _ => rfl, fun _ => rfl, rfl, Or.inr ⟨rfl, rfl⟩⟩ rfl dX12_init_4 (pc1 := 5) rfl (fun st σ bc bs h => EC_bipush (pc2 := 7) (v := 40) rfl dX12_init_5 (by decide) h) dX12_init_7 (pc3 := 9) rfl dX12_init_9 (pc4 := 12) rfl h0 hv hok (by omega) (fun hok => ?_)
  rw [mdl_s (k := 0) (by decide) rfl] at hok ⊢
  refine CX_arrI (A := A) (k := 3) (N := 40) (m := 1) (v := 40) (b := 88) (s' := 23978) (mdl_tk (k := 1) (by decide)) ac_I ⟨by decide, by decide, by decide⟩ ⟨gfRX12_13, rfl, fun _ => rfl, fun _ => rfl, rfl, Or.inr ⟨rfl, rfl⟩⟩ rfl dX12_init_12 (pc1 := 13) rfl (fun st σ bc bs h => EC_bipush (pc2 := 15) (v := 40) rfl dX12_init_13 (by decide) h) dX12_init_15 (pc3 := 17) rfl dX12_init_17 (pc4 := 20) rfl h0 hv hok (by omega) (fun hok => ?_)
  rw [mdl_s (k := 1) (by decide) rfl] at hok ⊢
  refine CX_arrI (A := A) (k := 4) (N := 40) (m := 2) (v := 40) (b := 87) (s' := 23938) (mdl_tk (k := 2) (by decide)) ac_I ⟨by decide, by decide, by decide⟩ ⟨gfRX12_16, rfl, fun _ => rfl, fun _ => rfl, rfl, Or.inr ⟨rfl, rfl⟩⟩ rfl dX12_init_20 (pc1 := 21) rfl (fun st σ bc bs h => EC_bipush (pc2 := 23) (v := 40) rfl dX12_init_21 (by decide) h) dX12_init_23 (pc3 := 25) rfl dX12_init_25 (pc4 := 28) rfl h0 hv hok (by omega) (fun hok => ?_)
  rw [mdl_s (k := 2) (by decide) rfl] at hok ⊢
  refine CX_arrI (A := A) (k := 5) (N := 160) (m := 3) (v := 160) (b := 86) (s' := 23778) (mdl_tk (k := 3) (by decide)) ac_I ⟨by decide, by decide, by decide⟩ ⟨gfRX12_19, rfl, fun _ => rfl, fun _ => rfl, rfl, Or.inr ⟨rfl, rfl⟩⟩ rfl dX12_init_28 (pc1 := 29) rfl (fun st σ bc bs h => EC_sipush (pc2 := 32) (v := 160) rfl dX12_init_29 (by decide) h) dX12_init_32 (pc3 := 34) rfl dX12_init_34 (pc4 := 37) rfl h0 hv hok (by omega) (fun hok => ?_)
  rw [mdl_s (k := 3) (by decide) rfl] at hok ⊢
  refine CX_arrI (A := A) (k := 6) (N := 400) (m := 4) (v := 400) (b := 85) (s' := 23378) (mdl_tk (k := 4) (by decide)) ac_I ⟨by decide, by decide, by decide⟩ ⟨gfRX12_22, rfl, fun _ => rfl, fun _ => rfl, rfl, Or.inr ⟨rfl, rfl⟩⟩ rfl dX12_init_37 (pc1 := 38) rfl (fun st σ bc bs h => EC_sipush (pc2 := 41) (v := 400) rfl dX12_init_38 (by decide) h) dX12_init_41 (pc3 := 43) rfl dX12_init_43 (pc4 := 46) rfl h0 hv hok (by omega) (fun hok => ?_)
  rw [mdl_s (k := 4) (by decide) rfl] at hok ⊢
  refine CX_arrZ (A := A) (k := 7) (N := 40) (m := 5) (v := 40) (b := 84) (s' := 23338) (mdl_tk (k := 5) (by decide)) ac_Z ⟨by decide, by decide, by decide⟩ ⟨gfRX12_25, rfl, fun _ => rfl, fun _ => rfl, rfl, Or.inr ⟨rfl, rfl⟩⟩ rfl dX12_init_46 (pc1 := 47) rfl (fun st σ bc bs h => EC_bipush (pc2 := 49) (v := 40) rfl dX12_init_47 (by decide) h) dX12_init_49 (pc3 := 51) rfl dX12_init_51 (pc4 := 54) rfl h0 hv hok (by omega) (fun hok => ?_)
  rw [mdl_s (k := 5) (by decide) rfl] at hok ⊢
  refine CX_arrZ (A := A) (k := 8) (N := 12020) (m := 6) (v := 12020) (b := 83) (s' := 11318) (mdl_tk (k := 6) (by decide)) ac_Z ⟨by decide, by decide, by decide⟩ ⟨gfRX12_29, rfl, fun _ => rfl, fun _ => rfl, rfl, Or.inr ⟨rfl, rfl⟩⟩ rfl dX12_init_54 (pc1 := 55) rfl (fun st σ bc bs h => EC_sipush (pc2 := 58) (v := 12020) rfl dX12_init_55 (by decide) h) dX12_init_58 (pc3 := 60) rfl dX12_init_60 (pc4 := 63) rfl h0 hv hok (by omega) (fun hok => ?_)
  rw [mdl_s (k := 6) (by decide) rfl] at hok ⊢
  refine CX_arrI (A := A) (k := 10) (N := 12) (m := 7) (v := 12) (b := 82) (s' := 11306) (mdl_tk (k := 7) (by decide)) ac_I ⟨by decide, by decide, by decide⟩ ⟨gfRX12_32, rfl, fun _ => rfl, fun _ => rfl, rfl, Or.inr ⟨rfl, rfl⟩⟩ rfl dX12_init_63 (pc1 := 64) rfl (fun st σ bc bs h => EC_bipush (pc2 := 66) (v := 12) rfl dX12_init_64 (by decide) h) dX12_init_66 (pc3 := 68) rfl dX12_init_68 (pc4 := 71) rfl h0 hv hok (by omega) (fun hok => ?_)
  rw [mdl_s (k := 7) (by decide) rfl] at hok ⊢
  refine CX_arrI (A := A) (k := 11) (N := 12) (m := 8) (v := 12) (b := 81) (s' := 11294) (mdl_tk (k := 8) (by decide)) ac_I ⟨by decide, by decide, by decide⟩ ⟨gfRX12_35, rfl, fun _ => rfl, fun _ => rfl, rfl, Or.inr ⟨rfl, rfl⟩⟩ rfl dX12_init_71 (pc1 := 72) rfl (fun st σ bc bs h => EC_bipush (pc2 := 74) (v := 12) rfl dX12_init_72 (by decide) h) dX12_init_74 (pc3 := 76) rfl dX12_init_76 (pc4 := 79) rfl h0 hv hok (by omega) (fun hok => ?_)
  rw [mdl_s (k := 8) (by decide) rfl] at hok ⊢
  refine CX_arrI (A := A) (k := 12) (N := 12) (m := 9) (v := 12) (b := 80) (s' := 11282) (mdl_tk (k := 9) (by decide)) ac_I ⟨by decide, by decide, by decide⟩ ⟨gfRX12_38, rfl, fun _ => rfl, fun _ => rfl, rfl, Or.inr ⟨rfl, rfl⟩⟩ rfl dX12_init_79 (pc1 := 80) rfl (fun st σ bc bs h => EC_bipush (pc2 := 82) (v := 12) rfl dX12_init_80 (by decide) h) dX12_init_82 (pc3 := 84) rfl dX12_init_84 (pc4 := 87) rfl h0 hv hok (by omega) (fun hok => ?_)
  rw [mdl_s (k := 9) (by decide) rfl] at hok ⊢
  refine CX_arrI (A := A) (k := 13) (N := 12) (m := 10) (v := 12) (b := 79) (s' := 11270) (mdl_tk (k := 10) (by decide)) ac_I ⟨by decide, by decide, by decide⟩ ⟨gfRX12_41, rfl, fun _ => rfl, fun _ => rfl, rfl, Or.inr ⟨rfl, rfl⟩⟩ rfl dX12_init_87 (pc1 := 88) rfl (fun st σ bc bs h => EC_bipush (pc2 := 90) (v := 12) rfl dX12_init_88 (by decide) h) dX12_init_90 (pc3 := 92) rfl dX12_init_92 (pc4 := 95) rfl h0 hv hok (by omega) (fun hok => ?_)
  rw [mdl_s (k := 10) (by decide) rfl] at hok ⊢
  refine CX_arrI (A := A) (k := 14) (N := 12) (m := 11) (v := 12) (b := 78) (s' := 11258) (mdl_tk (k := 11) (by decide)) ac_I ⟨by decide, by decide, by decide⟩ ⟨gfRX12_44, rfl, fun _ => rfl, fun _ => rfl, rfl, Or.inr ⟨rfl, rfl⟩⟩ rfl dX12_init_95 (pc1 := 96) rfl (fun st σ bc bs h => EC_bipush (pc2 := 98) (v := 12) rfl dX12_init_96 (by decide) h) dX12_init_98 (pc3 := 100) rfl dX12_init_100 (pc4 := 103) rfl h0 hv hok (by omega) (fun hok => ?_)
  rw [mdl_s (k := 11) (by decide) rfl] at hok ⊢
  refine CX_arrI (A := A) (k := 15) (N := 12) (m := 12) (v := 12) (b := 77) (s' := 11246) (mdl_tk (k := 12) (by decide)) ac_I ⟨by decide, by decide, by decide⟩ ⟨gfRX12_47, rfl, fun _ => rfl, fun _ => rfl, rfl, Or.inr ⟨rfl, rfl⟩⟩ rfl dX12_init_103 (pc1 := 104) rfl (fun st σ bc bs h => EC_bipush (pc2 := 106) (v := 12) rfl dX12_init_104 (by decide) h) dX12_init_106 (pc3 := 108) rfl dX12_init_108 (pc4 := 111) rfl h0 hv hok (by omega) (fun hok => ?_)
  rw [mdl_s (k := 12) (by decide) rfl] at hok ⊢
  refine CX_arrI (A := A) (k := 16) (N := 12) (m := 13) (v := 12) (b := 76) (s' := 11234) (mdl_tk (k := 13) (by decide)) ac_I ⟨by decide, by decide, by decide⟩ ⟨gfRX12_50, rfl, fun _ => rfl, fun _ => rfl, rfl, Or.inr ⟨rfl, rfl⟩⟩ rfl dX12_init_111 (pc1 := 112) rfl (fun st σ bc bs h => EC_bipush (pc2 := 114) (v := 12) rfl dX12_init_112 (by decide) h) dX12_init_114 (pc3 := 116) rfl dX12_init_116 (pc4 := 119) rfl h0 hv hok (by omega) (fun hok => ?_)
  rw [mdl_s (k := 13) (by decide) rfl] at hok ⊢
  refine CX_arrI (A := A) (k := 17) (N := 12) (m := 14) (v := 12) (b := 75) (s' := 11222) (mdl_tk (k := 14) (by decide)) ac_I ⟨by decide, by decide, by decide⟩ ⟨gfRX12_53, rfl, fun _ => rfl, fun _ => rfl, rfl, Or.inr ⟨rfl, rfl⟩⟩ rfl dX12_init_119 (pc1 := 120) rfl (fun st σ bc bs h => EC_bipush (pc2 := 122) (v := 12) rfl dX12_init_120 (by decide) h) dX12_init_122 (pc3 := 124) rfl dX12_init_124 (pc4 := 127) rfl h0 hv hok (by omega) (fun hok => ?_)
  rw [mdl_s (k := 14) (by decide) rfl] at hok ⊢
  refine CX_arrI (A := A) (k := 18) (N := 12) (m := 15) (v := 12) (b := 74) (s' := 11210) (mdl_tk (k := 15) (by decide)) ac_I ⟨by decide, by decide, by decide⟩ ⟨gfRX12_56, rfl, fun _ => rfl, fun _ => rfl, rfl, Or.inr ⟨rfl, rfl⟩⟩ rfl dX12_init_127 (pc1 := 128) rfl (fun st σ bc bs h => EC_bipush (pc2 := 130) (v := 12) rfl dX12_init_128 (by decide) h) dX12_init_130 (pc3 := 132) rfl dX12_init_132 (pc4 := 135) rfl h0 hv hok (by omega) (fun hok => ?_)
  rw [mdl_s (k := 15) (by decide) rfl] at hok ⊢
  refine CX_arrI (A := A) (k := 19) (N := 12) (m := 16) (v := 12) (b := 73) (s' := 11198) (mdl_tk (k := 16) (by decide)) ac_I ⟨by decide, by decide, by decide⟩ ⟨gfRX12_59, rfl, fun _ => rfl, fun _ => rfl, rfl, Or.inr ⟨rfl, rfl⟩⟩ rfl dX12_init_135 (pc1 := 136) rfl (fun st σ bc bs h => EC_bipush (pc2 := 138) (v := 12) rfl dX12_init_136 (by decide) h) dX12_init_138 (pc3 := 140) rfl dX12_init_140 (pc4 := 143) rfl h0 hv hok (by omega) (fun hok => ?_)
  rw [mdl_s (k := 16) (by decide) rfl] at hok ⊢
  refine CX_arrI (A := A) (k := 20) (N := 12) (m := 17) (v := 12) (b := 72) (s' := 11186) (mdl_tk (k := 17) (by decide)) ac_I ⟨by decide, by decide, by decide⟩ ⟨gfRX12_62, rfl, fun _ => rfl, fun _ => rfl, rfl, Or.inr ⟨rfl, rfl⟩⟩ rfl dX12_init_143 (pc1 := 144) rfl (fun st σ bc bs h => EC_bipush (pc2 := 146) (v := 12) rfl dX12_init_144 (by decide) h) dX12_init_146 (pc3 := 148) rfl dX12_init_148 (pc4 := 151) rfl h0 hv hok (by omega) (fun hok => ?_)
  rw [mdl_s (k := 17) (by decide) rfl] at hok ⊢
  refine CX_arrZ (A := A) (k := 21) (N := 12) (m := 18) (v := 12) (b := 71) (s' := 11174) (mdl_tk (k := 18) (by decide)) ac_Z ⟨by decide, by decide, by decide⟩ ⟨gfRX12_65, rfl, fun _ => rfl, fun _ => rfl, rfl, Or.inr ⟨rfl, rfl⟩⟩ rfl dX12_init_151 (pc1 := 152) rfl (fun st σ bc bs h => EC_bipush (pc2 := 154) (v := 12) rfl dX12_init_152 (by decide) h) dX12_init_154 (pc3 := 156) rfl dX12_init_156 (pc4 := 159) rfl h0 hv hok (by omega) (fun hok => ?_)
  rw [mdl_s (k := 18) (by decide) rfl] at hok ⊢
  refine CX_arrI (A := A) (k := 22) (N := 288) (m := 19) (v := 288) (b := 70) (s' := 10886) (mdl_tk (k := 19) (by decide)) ac_I ⟨by decide, by decide, by decide⟩ ⟨gfRX12_68, rfl, fun _ => rfl, fun _ => rfl, rfl, Or.inr ⟨rfl, rfl⟩⟩ rfl dX12_init_159 (pc1 := 160) rfl (fun st σ bc bs h => EC_sipush (pc2 := 163) (v := 288) rfl dX12_init_160 (by decide) h) dX12_init_163 (pc3 := 165) rfl dX12_init_165 (pc4 := 168) rfl h0 hv hok (by omega) (fun hok => ?_)
  rw [mdl_s (k := 19) (by decide) rfl] at hok ⊢
  refine CX_arrI (A := A) (k := 23) (N := 288) (m := 20) (v := 288) (b := 69) (s' := 10598) (mdl_tk (k := 20) (by decide)) ac_I ⟨by decide, by decide, by decide⟩ ⟨gfRX12_71, rfl, fun _ => rfl, fun _ => rfl, rfl, Or.inr ⟨rfl, rfl⟩⟩ rfl dX12_init_168 (pc1 := 169) rfl (fun st σ bc bs h => EC_sipush (pc2 := 172) (v := 288) rfl dX12_init_169 (by decide) h) dX12_init_172 (pc3 := 174) rfl dX12_init_174 (pc4 := 177) rfl h0 hv hok (by omega) (fun hok => ?_)
  rw [mdl_s (k := 20) (by decide) rfl] at hok ⊢
  refine CX_arrI (A := A) (k := 24) (N := 288) (m := 21) (v := 288) (b := 68) (s' := 10310) (mdl_tk (k := 21) (by decide)) ac_I ⟨by decide, by decide, by decide⟩ ⟨gfRX12_74, rfl, fun _ => rfl, fun _ => rfl, rfl, Or.inr ⟨rfl, rfl⟩⟩ rfl dX12_init_177 (pc1 := 178) rfl (fun st σ bc bs h => EC_sipush (pc2 := 181) (v := 288) rfl dX12_init_178 (by decide) h) dX12_init_181 (pc3 := 183) rfl dX12_init_183 (pc4 := 186) rfl h0 hv hok (by omega) (fun hok => ?_)
  rw [mdl_s (k := 21) (by decide) rfl] at hok ⊢
  refine CX_arrI (A := A) (k := 25) (N := 288) (m := 22) (v := 288) (b := 67) (s' := 10022) (mdl_tk (k := 22) (by decide)) ac_I ⟨by decide, by decide, by decide⟩ ⟨gfRX12_77, rfl, fun _ => rfl, fun _ => rfl, rfl, Or.inr ⟨rfl, rfl⟩⟩ rfl dX12_init_186 (pc1 := 187) rfl (fun st σ bc bs h => EC_sipush (pc2 := 190) (v := 288) rfl dX12_init_187 (by decide) h) dX12_init_190 (pc3 := 192) rfl dX12_init_192 (pc4 := 195) rfl h0 hv hok (by omega) (fun hok => ?_)
  rw [mdl_s (k := 22) (by decide) rfl] at hok ⊢
  refine CX_arrI (A := A) (k := 26) (N := 288) (m := 23) (v := 288) (b := 66) (s' := 9734) (mdl_tk (k := 23) (by decide)) ac_I ⟨by decide, by decide, by decide⟩ ⟨gfRX12_80, rfl, fun _ => rfl, fun _ => rfl, rfl, Or.inr ⟨rfl, rfl⟩⟩ rfl dX12_init_195 (pc1 := 196) rfl (fun st σ bc bs h => EC_sipush (pc2 := 199) (v := 288) rfl dX12_init_196 (by decide) h) dX12_init_199 (pc3 := 201) rfl dX12_init_201 (pc4 := 204) rfl h0 hv hok (by omega) (fun hok => ?_)
  rw [mdl_s (k := 23) (by decide) rfl] at hok ⊢
  refine CX_arrI (A := A) (k := 27) (N := 72) (m := 24) (v := 72) (b := 65) (s' := 9662) (mdl_tk (k := 24) (by decide)) ac_I ⟨by decide, by decide, by decide⟩ ⟨gfRX12_83, rfl, fun _ => rfl, fun _ => rfl, rfl, Or.inr ⟨rfl, rfl⟩⟩ rfl dX12_init_204 (pc1 := 205) rfl (fun st σ bc bs h => EC_bipush (pc2 := 207) (v := 72) rfl dX12_init_205 (by decide) h) dX12_init_207 (pc3 := 209) rfl dX12_init_209 (pc4 := 212) rfl h0 hv hok (by omega) (fun hok => ?_)
  rw [mdl_s (k := 24) (by decide) rfl] at hok ⊢
  refine CX_arrI (A := A) (k := 28) (N := 72) (m := 25) (v := 72) (b := 64) (s' := 9590) (mdl_tk (k := 25) (by decide)) ac_I ⟨by decide, by decide, by decide⟩ ⟨gfRX12_86, rfl, fun _ => rfl, fun _ => rfl, rfl, Or.inr ⟨rfl, rfl⟩⟩ rfl dX12_init_212 (pc1 := 213) rfl (fun st σ bc bs h => EC_bipush (pc2 := 215) (v := 72) rfl dX12_init_213 (by decide) h) dX12_init_215 (pc3 := 217) rfl dX12_init_217 (pc4 := 220) rfl h0 hv hok (by omega) (fun hok => ?_)
  rw [mdl_s (k := 25) (by decide) rfl] at hok ⊢
  refine CX_arrI (A := A) (k := 29) (N := 72) (m := 26) (v := 72) (b := 63) (s' := 9518) (mdl_tk (k := 26) (by decide)) ac_I ⟨by decide, by decide, by decide⟩ ⟨gfRX12_89, rfl, fun _ => rfl, fun _ => rfl, rfl, Or.inr ⟨rfl, rfl⟩⟩ rfl dX12_init_220 (pc1 := 221) rfl (fun st σ bc bs h => EC_bipush (pc2 := 223) (v := 72) rfl dX12_init_221 (by decide) h) dX12_init_223 (pc3 := 225) rfl dX12_init_225 (pc4 := 228) rfl h0 hv hok (by omega) (fun hok => ?_)
  rw [mdl_s (k := 26) (by decide) rfl] at hok ⊢
  refine CX_arrZ (A := A) (k := 30) (N := 72) (m := 27) (v := 72) (b := 62) (s' := 9446) (mdl_tk (k := 27) (by decide)) ac_Z ⟨by decide, by decide, by decide⟩ ⟨gfRX12_92, rfl, fun _ => rfl, fun _ => rfl, rfl, Or.inr ⟨rfl, rfl⟩⟩ rfl dX12_init_228 (pc1 := 229) rfl (fun st σ bc bs h => EC_bipush (pc2 := 231) (v := 72) rfl dX12_init_229 (by decide) h) dX12_init_231 (pc3 := 233) rfl dX12_init_233 (pc4 := 236) rfl h0 hv hok (by omega) (fun hok => ?_)
  rw [mdl_s (k := 27) (by decide) rfl] at hok ⊢
  refine CX_arrI (A := A) (k := 32) (N := 6) (m := 28) (v := 6) (b := 61) (s' := 9440) (mdl_tk (k := 28) (by decide)) ac_I ⟨by decide, by decide, by decide⟩ ⟨gfRX12_95, rfl, fun _ => rfl, fun _ => rfl, rfl, Or.inr ⟨rfl, rfl⟩⟩ rfl dX12_init_236 (pc1 := 237) rfl (fun st σ bc bs h => EC_bipush (pc2 := 239) (v := 6) rfl dX12_init_237 (by decide) h) dX12_init_239 (pc3 := 241) rfl dX12_init_241 (pc4 := 244) rfl h0 hv hok (by omega) (fun hok => ?_)
  rw [mdl_s (k := 28) (by decide) rfl] at hok ⊢
  refine CX_arrI (A := A) (k := 33) (N := 20) (m := 29) (v := 20) (b := 60) (s' := 9420) (mdl_tk (k := 29) (by decide)) ac_I ⟨by decide, by decide, by decide⟩ ⟨gfRX12_98, rfl, fun _ => rfl, fun _ => rfl, rfl, Or.inr ⟨rfl, rfl⟩⟩ rfl dX12_init_244 (pc1 := 245) rfl (fun st σ bc bs h => EC_bipush (pc2 := 247) (v := 20) rfl dX12_init_245 (by decide) h) dX12_init_247 (pc3 := 249) rfl dX12_init_249 (pc4 := 252) rfl h0 hv hok (by omega) (fun hok => ?_)
  rw [mdl_s (k := 29) (by decide) rfl] at hok ⊢
  refine CX_arrI (A := A) (k := 34) (N := 20) (m := 30) (v := 20) (b := 59) (s' := 9400) (mdl_tk (k := 30) (by decide)) ac_I ⟨by decide, by decide, by decide⟩ ⟨gfRX12_101, rfl, fun _ => rfl, fun _ => rfl, rfl, Or.inr ⟨rfl, rfl⟩⟩ rfl dX12_init_252 (pc1 := 253) rfl (fun st σ bc bs h => EC_bipush (pc2 := 255) (v := 20) rfl dX12_init_253 (by decide) h) dX12_init_255 (pc3 := 257) rfl dX12_init_257 (pc4 := 260) rfl h0 hv hok (by omega) (fun hok => ?_)
  rw [mdl_s (k := 30) (by decide) rfl] at hok ⊢
  refine CX_arrI (A := A) (k := 35) (N := 6) (m := 31) (v := 6) (b := 58) (s' := 9394) (mdl_tk (k := 31) (by decide)) ac_I ⟨by decide, by decide, by decide⟩ ⟨gfRX12_104, rfl, fun _ => rfl, fun _ => rfl, rfl, Or.inr ⟨rfl, rfl⟩⟩ rfl dX12_init_260 (pc1 := 261) rfl (fun st σ bc bs h => EC_bipush (pc2 := 263) (v := 6) rfl dX12_init_261 (by decide) h) dX12_init_263 (pc3 := 265) rfl dX12_init_265 (pc4 := 268) rfl h0 hv hok (by omega) (fun hok => ?_)
  rw [mdl_s (k := 31) (by decide) rfl] at hok ⊢
  refine CX_arrI (A := A) (k := 36) (N := 16) (m := 32) (v := 16) (b := 57) (s' := 9378) (mdl_tk (k := 32) (by decide)) ac_I ⟨by decide, by decide, by decide⟩ ⟨gfRX12_107, rfl, fun _ => rfl, fun _ => rfl, rfl, Or.inr ⟨rfl, rfl⟩⟩ rfl dX12_init_268 (pc1 := 269) rfl (fun st σ bc bs h => EC_bipush (pc2 := 271) (v := 16) rfl dX12_init_269 (by decide) h) dX12_init_271 (pc3 := 273) rfl dX12_init_273 (pc4 := 276) rfl h0 hv hok (by omega) (fun hok => ?_)
  rw [mdl_s (k := 32) (by decide) rfl] at hok ⊢
  refine CX_arrI (A := A) (k := 37) (N := 16) (m := 33) (v := 16) (b := 56) (s' := 9362) (mdl_tk (k := 33) (by decide)) ac_I ⟨by decide, by decide, by decide⟩ ⟨gfRX12_110, rfl, fun _ => rfl, fun _ => rfl, rfl, Or.inr ⟨rfl, rfl⟩⟩ rfl dX12_init_276 (pc1 := 277) rfl (fun st σ bc bs h => EC_bipush (pc2 := 279) (v := 16) rfl dX12_init_277 (by decide) h) dX12_init_279 (pc3 := 281) rfl dX12_init_281 (pc4 := 284) rfl h0 hv hok (by omega) (fun hok => ?_)
  rw [mdl_s (k := 33) (by decide) rfl] at hok ⊢
  refine CX_arrI (A := A) (k := 38) (N := 16) (m := 34) (v := 16) (b := 55) (s' := 9346) (mdl_tk (k := 34) (by decide)) ac_I ⟨by decide, by decide, by decide⟩ ⟨gfRX12_113, rfl, fun _ => rfl, fun _ => rfl, rfl, Or.inr ⟨rfl, rfl⟩⟩ rfl dX12_init_284 (pc1 := 285) rfl (fun st σ bc bs h => EC_bipush (pc2 := 287) (v := 16) rfl dX12_init_285 (by decide) h) dX12_init_287 (pc3 := 289) rfl dX12_init_289 (pc4 := 292) rfl h0 hv hok (by omega) (fun hok => ?_)
  rw [mdl_s (k := 34) (by decide) rfl] at hok ⊢
  refine CX_arrI (A := A) (k := 39) (N := 16) (m := 35) (v := 16) (b := 54) (s' := 9330) (mdl_tk (k := 35) (by decide)) ac_I ⟨by decide, by decide, by decide⟩ ⟨gfRX12_116, rfl, fun _ => rfl, fun _ => rfl, rfl, Or.inr ⟨rfl, rfl⟩⟩ rfl dX12_init_292 (pc1 := 293) rfl (fun st σ bc bs h => EC_bipush (pc2 := 295) (v := 16) rfl dX12_init_293 (by decide) h) dX12_init_295 (pc3 := 297) rfl dX12_init_297 (pc4 := 300) rfl h0 hv hok (by omega) (fun hok => ?_)
  rw [mdl_s (k := 35) (by decide) rfl] at hok ⊢
  refine CX_arrI (A := A) (k := 40) (N := 16) (m := 36) (v := 16) (b := 53) (s' := 9314) (mdl_tk (k := 36) (by decide)) ac_I ⟨by decide, by decide, by decide⟩ ⟨gfRX12_119, rfl, fun _ => rfl, fun _ => rfl, rfl, Or.inr ⟨rfl, rfl⟩⟩ rfl dX12_init_300 (pc1 := 301) rfl (fun st σ bc bs h => EC_bipush (pc2 := 303) (v := 16) rfl dX12_init_301 (by decide) h) dX12_init_303 (pc3 := 305) rfl dX12_init_305 (pc4 := 308) rfl h0 hv hok (by omega) (fun hok => ?_)
  rw [mdl_s (k := 36) (by decide) rfl] at hok ⊢
  refine CX_arrI (A := A) (k := 41) (N := 16) (m := 37) (v := 16) (b := 52) (s' := 9298) (mdl_tk (k := 37) (by decide)) ac_I ⟨by decide, by decide, by decide⟩ ⟨gfRX12_122, rfl, fun _ => rfl, fun _ => rfl, rfl, Or.inr ⟨rfl, rfl⟩⟩ rfl dX12_init_308 (pc1 := 309) rfl (fun st σ bc bs h => EC_bipush (pc2 := 311) (v := 16) rfl dX12_init_309 (by decide) h) dX12_init_311 (pc3 := 313) rfl dX12_init_313 (pc4 := 316) rfl h0 hv hok (by omega) (fun hok => ?_)
  rw [mdl_s (k := 37) (by decide) rfl] at hok ⊢
  refine CX_arrI (A := A) (k := 42) (N := 16) (m := 38) (v := 16) (b := 51) (s' := 9282) (mdl_tk (k := 38) (by decide)) ac_I ⟨by decide, by decide, by decide⟩ ⟨gfRX12_125, rfl, fun _ => rfl, fun _ => rfl, rfl, Or.inr ⟨rfl, rfl⟩⟩ rfl dX12_init_316 (pc1 := 317) rfl (fun st σ bc bs h => EC_bipush (pc2 := 319) (v := 16) rfl dX12_init_317 (by decide) h) dX12_init_319 (pc3 := 321) rfl dX12_init_321 (pc4 := 324) rfl h0 hv hok (by omega) (fun hok => ?_)
  rw [mdl_s (k := 38) (by decide) rfl] at hok ⊢
  refine CX_arrI (A := A) (k := 43) (N := 16) (m := 39) (v := 16) (b := 50) (s' := 9266) (mdl_tk (k := 39) (by decide)) ac_I ⟨by decide, by decide, by decide⟩ ⟨gfRX12_128, rfl, fun _ => rfl, fun _ => rfl, rfl, Or.inr ⟨rfl, rfl⟩⟩ rfl dX12_init_324 (pc1 := 325) rfl (fun st σ bc bs h => EC_bipush (pc2 := 327) (v := 16) rfl dX12_init_325 (by decide) h) dX12_init_327 (pc3 := 329) rfl dX12_init_329 (pc4 := 332) rfl h0 hv hok (by omega) (fun hok => ?_)
  rw [mdl_s (k := 39) (by decide) rfl] at hok ⊢
  refine CX_arrI (A := A) (k := 44) (N := 16) (m := 40) (v := 16) (b := 49) (s' := 9250) (mdl_tk (k := 40) (by decide)) ac_I ⟨by decide, by decide, by decide⟩ ⟨gfRX12_131, rfl, fun _ => rfl, fun _ => rfl, rfl, Or.inr ⟨rfl, rfl⟩⟩ rfl dX12_init_332 (pc1 := 333) rfl (fun st σ bc bs h => EC_bipush (pc2 := 335) (v := 16) rfl dX12_init_333 (by decide) h) dX12_init_335 (pc3 := 337) rfl dX12_init_337 (pc4 := 340) rfl h0 hv hok (by omega) (fun hok => ?_)
  rw [mdl_s (k := 40) (by decide) rfl] at hok ⊢
  refine CX_arrI (A := A) (k := 45) (N := 16) (m := 41) (v := 16) (b := 48) (s' := 9234) (mdl_tk (k := 41) (by decide)) ac_I ⟨by decide, by decide, by decide⟩ ⟨gfRX12_134, rfl, fun _ => rfl, fun _ => rfl, rfl, Or.inr ⟨rfl, rfl⟩⟩ rfl dX12_init_340 (pc1 := 341) rfl (fun st σ bc bs h => EC_bipush (pc2 := 343) (v := 16) rfl dX12_init_341 (by decide) h) dX12_init_343 (pc3 := 345) rfl dX12_init_345 (pc4 := 348) rfl h0 hv hok (by omega) (fun hok => ?_)
  rw [mdl_s (k := 41) (by decide) rfl] at hok ⊢
  refine CX_arrI (A := A) (k := 46) (N := 16) (m := 42) (v := 16) (b := 47) (s' := 9218) (mdl_tk (k := 42) (by decide)) ac_I ⟨by decide, by decide, by decide⟩ ⟨gfRX12_137, rfl, fun _ => rfl, fun _ => rfl, rfl, Or.inr ⟨rfl, rfl⟩⟩ rfl dX12_init_348 (pc1 := 349) rfl (fun st σ bc bs h => EC_bipush (pc2 := 351) (v := 16) rfl dX12_init_349 (by decide) h) dX12_init_351 (pc3 := 353) rfl dX12_init_353 (pc4 := 356) rfl h0 hv hok (by omega) (fun hok => ?_)
  rw [mdl_s (k := 42) (by decide) rfl] at hok ⊢
  refine CX_arrI (A := A) (k := 47) (N := 16) (m := 43) (v := 16) (b := 46) (s' := 9202) (mdl_tk (k := 43) (by decide)) ac_I ⟨by decide, by decide, by decide⟩ ⟨gfRX12_140, rfl, fun _ => rfl, fun _ => rfl, rfl, Or.inr ⟨rfl, rfl⟩⟩ rfl dX12_init_356 (pc1 := 357) rfl (fun st σ bc bs h => EC_bipush (pc2 := 359) (v := 16) rfl dX12_init_357 (by decide) h) dX12_init_359 (pc3 := 361) rfl dX12_init_361 (pc4 := 364) rfl h0 hv hok (by omega) (fun hok => ?_)
  rw [mdl_s (k := 43) (by decide) rfl] at hok ⊢
  refine CX_arrI (A := A) (k := 48) (N := 16) (m := 44) (v := 16) (b := 45) (s' := 9186) (mdl_tk (k := 44) (by decide)) ac_I ⟨by decide, by decide, by decide⟩ ⟨gfRX12_143, rfl, fun _ => rfl, fun _ => rfl, rfl, Or.inr ⟨rfl, rfl⟩⟩ rfl dX12_init_364 (pc1 := 365) rfl (fun st σ bc bs h => EC_bipush (pc2 := 367) (v := 16) rfl dX12_init_365 (by decide) h) dX12_init_367 (pc3 := 369) rfl dX12_init_369 (pc4 := 372) rfl h0 hv hok (by omega) (fun hok => ?_)
  rw [mdl_s (k := 44) (by decide) rfl] at hok ⊢
  refine CX_arrI (A := A) (k := 49) (N := 16) (m := 45) (v := 16) (b := 44) (s' := 9170) (mdl_tk (k := 45) (by decide)) ac_I ⟨by decide, by decide, by decide⟩ ⟨gfRX12_146, rfl, fun _ => rfl, fun _ => rfl, rfl, Or.inr ⟨rfl, rfl⟩⟩ rfl dX12_init_372 (pc1 := 373) rfl (fun st σ bc bs h => EC_bipush (pc2 := 375) (v := 16) rfl dX12_init_373 (by decide) h) dX12_init_375 (pc3 := 377) rfl dX12_init_377 (pc4 := 380) rfl h0 hv hok (by omega) (fun hok => ?_)
  rw [mdl_s (k := 45) (by decide) rfl] at hok ⊢
  refine CX_arrI (A := A) (k := 50) (N := 16) (m := 46) (v := 16) (b := 43) (s' := 9154) (mdl_tk (k := 46) (by decide)) ac_I ⟨by decide, by decide, by decide⟩ ⟨gfRX12_149, rfl, fun _ => rfl, fun _ => rfl, rfl, Or.inr ⟨rfl, rfl⟩⟩ rfl dX12_init_380 (pc1 := 381) rfl (fun st σ bc bs h => EC_bipush (pc2 := 383) (v := 16) rfl dX12_init_381 (by decide) h) dX12_init_383 (pc3 := 385) rfl dX12_init_385 (pc4 := 388) rfl h0 hv hok (by omega) (fun hok => ?_)
  rw [mdl_s (k := 46) (by decide) rfl] at hok ⊢
  refine CX_arrI (A := A) (k := 51) (N := 16) (m := 47) (v := 16) (b := 42) (s' := 9138) (mdl_tk (k := 47) (by decide)) ac_I ⟨by decide, by decide, by decide⟩ ⟨gfRX12_152, rfl, fun _ => rfl, fun _ => rfl, rfl, Or.inr ⟨rfl, rfl⟩⟩ rfl dX12_init_388 (pc1 := 389) rfl (fun st σ bc bs h => EC_bipush (pc2 := 391) (v := 16) rfl dX12_init_389 (by decide) h) dX12_init_391 (pc3 := 393) rfl dX12_init_393 (pc4 := 396) rfl h0 hv hok (by omega) (fun hok => ?_)
  rw [mdl_s (k := 47) (by decide) rfl] at hok ⊢
  refine CX_arrI (A := A) (k := 52) (N := 16) (m := 48) (v := 16) (b := 41) (s' := 9122) (mdl_tk (k := 48) (by decide)) ac_I ⟨by decide, by decide, by decide⟩ ⟨gfRX12_155, rfl, fun _ => rfl, fun _ => rfl, rfl, Or.inr ⟨rfl, rfl⟩⟩ rfl dX12_init_396 (pc1 := 397) rfl (fun st σ bc bs h => EC_bipush (pc2 := 399) (v := 16) rfl dX12_init_397 (by decide) h) dX12_init_399 (pc3 := 401) rfl dX12_init_401 (pc4 := 404) rfl h0 hv hok (by omega) (fun hok => ?_)
  rw [mdl_s (k := 48) (by decide) rfl] at hok ⊢
  refine CX_arrI (A := A) (k := 53) (N := 16) (m := 49) (v := 16) (b := 40) (s' := 9106) (mdl_tk (k := 49) (by decide)) ac_I ⟨by decide, by decide, by decide⟩ ⟨gfRX12_158, rfl, fun _ => rfl, fun _ => rfl, rfl, Or.inr ⟨rfl, rfl⟩⟩ rfl dX12_init_404 (pc1 := 405) rfl (fun st σ bc bs h => EC_bipush (pc2 := 407) (v := 16) rfl dX12_init_405 (by decide) h) dX12_init_407 (pc3 := 409) rfl dX12_init_409 (pc4 := 412) rfl h0 hv hok (by omega) (fun hok => ?_)
  rw [mdl_s (k := 49) (by decide) rfl] at hok ⊢
  refine CX_arrI (A := A) (k := 54) (N := 16) (m := 50) (v := 16) (b := 39) (s' := 9090) (mdl_tk (k := 50) (by decide)) ac_I ⟨by decide, by decide, by decide⟩ ⟨gfRX12_161, rfl, fun _ => rfl, fun _ => rfl, rfl, Or.inr ⟨rfl, rfl⟩⟩ rfl dX12_init_412 (pc1 := 413) rfl (fun st σ bc bs h => EC_bipush (pc2 := 415) (v := 16) rfl dX12_init_413 (by decide) h) dX12_init_415 (pc3 := 417) rfl dX12_init_417 (pc4 := 420) rfl h0 hv hok (by omega) (fun hok => ?_)
  rw [mdl_s (k := 50) (by decide) rfl] at hok ⊢
  refine CX_arrZ (A := A) (k := 55) (N := 16) (m := 51) (v := 16) (b := 38) (s' := 9074) (mdl_tk (k := 51) (by decide)) ac_Z ⟨by decide, by decide, by decide⟩ ⟨gfRX12_164, rfl, fun _ => rfl, fun _ => rfl, rfl, Or.inr ⟨rfl, rfl⟩⟩ rfl dX12_init_420 (pc1 := 421) rfl (fun st σ bc bs h => EC_bipush (pc2 := 423) (v := 16) rfl dX12_init_421 (by decide) h) dX12_init_423 (pc3 := 425) rfl dX12_init_425 (pc4 := 428) rfl h0 hv hok (by omega) (fun hok => ?_)
  rw [mdl_s (k := 51) (by decide) rfl] at hok ⊢
  refine CX_arrY (A := A) (k := 59) (N := 200) (m := 52) (v := 200) (b := 37) (s' := 8874) (mdl_tk (k := 52) (by decide)) ac_Y ⟨by decide, by decide, by decide⟩ ⟨gfRX12_167, rfl, fun _ => rfl, fun _ => rfl, rfl, Or.inr ⟨rfl, rfl⟩⟩ rfl dX12_init_428 (pc1 := 429) rfl (fun st σ bc bs h => EC_sipush (pc2 := 432) (v := 200) rfl dX12_init_429 (by decide) h) dX12_init_432 (pc3 := 434) rfl dX12_init_434 (pc4 := 437) rfl h0 hv hok (by omega) (fun hok => ?_)
  rw [mdl_s (k := 52) (by decide) rfl] at hok ⊢
  refine CX_arrY (A := A) (k := 60) (N := 4000) (m := 53) (v := 4000) (b := 36) (s' := 4874) (mdl_tk (k := 53) (by decide)) ac_Y ⟨by decide, by decide, by decide⟩ ⟨gfRX12_171, rfl, fun _ => rfl, fun _ => rfl, rfl, Or.inr ⟨rfl, rfl⟩⟩ rfl dX12_init_437 (pc1 := 438) rfl (fun st σ bc bs h => EC_sipush (pc2 := 441) (v := 4000) rfl dX12_init_438 (by decide) h) dX12_init_441 (pc3 := 443) rfl dX12_init_443 (pc4 := 446) rfl h0 hv hok (by omega) (fun hok => ?_)
  rw [mdl_s (k := 53) (by decide) rfl] at hok ⊢
  refine CX_arrY (A := A) (k := 61) (N := 2400) (m := 54) (v := 2400) (b := 35) (s' := 2474) (mdl_tk (k := 54) (by decide)) ac_Y ⟨by decide, by decide, by decide⟩ ⟨gfRX12_174, rfl, fun _ => rfl, fun _ => rfl, rfl, Or.inr ⟨rfl, rfl⟩⟩ rfl dX12_init_446 (pc1 := 447) rfl (fun st σ bc bs h => EC_sipush (pc2 := 450) (v := 2400) rfl dX12_init_447 (by decide) h) dX12_init_450 (pc3 := 452) rfl dX12_init_452 (pc4 := 455) rfl h0 hv hok (by omega) (fun hok => ?_)
  rw [mdl_s (k := 54) (by decide) rfl] at hok ⊢
  refine CX_arrY (A := A) (k := 62) (N := 200) (m := 55) (v := 200) (b := 34) (s' := 2274) (mdl_tk (k := 55) (by decide)) ac_Y ⟨by decide, by decide, by decide⟩ ⟨gfRX12_177, rfl, fun _ => rfl, fun _ => rfl, rfl, Or.inr ⟨rfl, rfl⟩⟩ rfl dX12_init_455 (pc1 := 456) rfl (fun st σ bc bs h => EC_sipush (pc2 := 459) (v := 200) rfl dX12_init_456 (by decide) h) dX12_init_459 (pc3 := 461) rfl dX12_init_461 (pc4 := 464) rfl h0 hv hok (by omega) (fun hok => ?_)
  rw [mdl_s (k := 55) (by decide) rfl] at hok ⊢
  refine CX_arrI (A := A) (k := 63) (N := 20) (m := 56) (v := 20) (b := 33) (s' := 2254) (mdl_tk (k := 56) (by decide)) ac_I ⟨by decide, by decide, by decide⟩ ⟨gfRX12_180, rfl, fun _ => rfl, fun _ => rfl, rfl, Or.inr ⟨rfl, rfl⟩⟩ rfl dX12_init_464 (pc1 := 465) rfl (fun st σ bc bs h => EC_bipush (pc2 := 467) (v := 20) rfl dX12_init_465 (by decide) h) dX12_init_467 (pc3 := 469) rfl dX12_init_469 (pc4 := 472) rfl h0 hv hok (by omega) (fun hok => ?_)
  rw [mdl_s (k := 56) (by decide) rfl] at hok ⊢
  refine CX_arrI (A := A) (k := 64) (N := 12) (m := 57) (v := 12) (b := 32) (s' := 2242) (mdl_tk (k := 57) (by decide)) ac_I ⟨by decide, by decide, by decide⟩ ⟨gfRX12_183, rfl, fun _ => rfl, fun _ => rfl, rfl, Or.inr ⟨rfl, rfl⟩⟩ rfl dX12_init_472 (pc1 := 473) rfl (fun st σ bc bs h => EC_bipush (pc2 := 475) (v := 12) rfl dX12_init_473 (by decide) h) dX12_init_475 (pc3 := 477) rfl dX12_init_477 (pc4 := 480) rfl h0 hv hok (by omega) (fun hok => ?_)
  rw [mdl_s (k := 57) (by decide) rfl] at hok ⊢
  refine CX_arrI (A := A) (k := 65) (N := 12) (m := 58) (v := 12) (b := 31) (s' := 2230) (mdl_tk (k := 58) (by decide)) ac_I ⟨by decide, by decide, by decide⟩ ⟨gfRX12_186, rfl, fun _ => rfl, fun _ => rfl, rfl, Or.inr ⟨rfl, rfl⟩⟩ rfl dX12_init_480 (pc1 := 481) rfl (fun st σ bc bs h => EC_bipush (pc2 := 483) (v := 12) rfl dX12_init_481 (by decide) h) dX12_init_483 (pc3 := 485) rfl dX12_init_485 (pc4 := 488) rfl h0 hv hok (by omega) (fun hok => ?_)
  rw [mdl_s (k := 58) (by decide) rfl] at hok ⊢
  refine CX_arrI (A := A) (k := 66) (N := 12) (m := 59) (v := 12) (b := 30) (s' := 2218) (mdl_tk (k := 59) (by decide)) ac_I ⟨by decide, by decide, by decide⟩ ⟨gfRX12_189, rfl, fun _ => rfl, fun _ => rfl, rfl, Or.inr ⟨rfl, rfl⟩⟩ rfl dX12_init_488 (pc1 := 489) rfl (fun st σ bc bs h => EC_bipush (pc2 := 491) (v := 12) rfl dX12_init_489 (by decide) h) dX12_init_491 (pc3 := 493) rfl dX12_init_493 (pc4 := 496) rfl h0 hv hok (by omega) (fun hok => ?_)
  rw [mdl_s (k := 59) (by decide) rfl] at hok ⊢
  refine CX_arrI (A := A) (k := 67) (N := 128) (m := 60) (v := 128) (b := 29) (s' := 2090) (mdl_tk (k := 60) (by decide)) ac_I ⟨by decide, by decide, by decide⟩ ⟨gfRX12_192, rfl, fun _ => rfl, fun _ => rfl, rfl, Or.inr ⟨rfl, rfl⟩⟩ rfl dX12_init_496 (pc1 := 497) rfl (fun st σ bc bs h => EC_sipush (pc2 := 500) (v := 128) rfl dX12_init_497 (by decide) h) dX12_init_500 (pc3 := 502) rfl dX12_init_502 (pc4 := 505) rfl h0 hv hok (by omega) (fun hok => ?_)
  rw [mdl_s (k := 60) (by decide) rfl] at hok ⊢
  refine CX_arrI (A := A) (k := 68) (N := 5) (m := 61) (v := 5) (b := 28) (s' := 2085) (mdl_tk (k := 61) (by decide)) ac_I ⟨by decide, by decide, by decide⟩ ⟨gfRX12_195, rfl, fun _ => rfl, fun _ => rfl, rfl, Or.inr ⟨rfl, rfl⟩⟩ rfl dX12_init_505 (pc1 := 506) rfl (fun st σ bc bs h => EC_iconst (pc2 := 507) (v := 5) rfl dX12_init_506 (by decide) h) dX12_init_507 (pc3 := 509) rfl dX12_init_509 (pc4 := 512) rfl h0 hv hok (by omega) (fun hok => ?_)
  rw [mdl_s (k := 61) (by decide) rfl] at hok ⊢
  refine CX_arrI (A := A) (k := 69) (N := 200) (m := 62) (v := 200) (b := 27) (s' := 1885) (mdl_tk (k := 62) (by decide)) ac_I ⟨by decide, by decide, by decide⟩ ⟨gfRX12_198, rfl, fun _ => rfl, fun _ => rfl, rfl, Or.inr ⟨rfl, rfl⟩⟩ rfl dX12_init_512 (pc1 := 513) rfl (fun st σ bc bs h => EC_sipush (pc2 := 516) (v := 200) rfl dX12_init_513 (by decide) h) dX12_init_516 (pc3 := 518) rfl dX12_init_518 (pc4 := 521) rfl h0 hv hok (by omega) (fun hok => ?_)
  rw [mdl_s (k := 62) (by decide) rfl] at hok ⊢
  refine EC_aload_n (pc2 := 522) rfl dX12_init_521 0 h0 ?_
  refine EC_iconst (pc2 := 523) (v := (-1)) rfl dX12_init_522 (by decide) ?_
  refine CW_puti (A := A) (k := 73) (v := (-1)) ⟨gfRX12_201, rfl, rfl, Or.inl rfl⟩ rfl rfl dX12_init_523 (pc2 := 526) rfl rfl ?_
  replace hok := okC_sI (k := 73) (v := (-1)) hok
  refine EC_aload_n (pc2 := 527) rfl dX12_init_526 0 h0 ?_
  refine EC_aload_n (pc2 := 528) rfl dX12_init_527 0 h0 ?_
  refine CW_getr (A := A) (k := 59) (r := A.length + 1 + 52) ⟨gfRX12_167, rfl⟩ rfl dX12_init_528 (pc2 := 531) rfl rfl ?_
  refine CW_putr (A := A) (k := 76) (r := A.length + 1 + 52) ⟨gfRX12_205, rfl, fun _ => rfl, fun _ => rfl, rfl, Or.inl rfl⟩ dX12_init_531 (pc2 := 534) rfl rfl ?_
  replace hok := okC_sR (k := 76) (r := A.length + 1 + 52) hok (Or.inl (by rw [mdl_tk (k := 63) (by decide)]; omega))
  refine EC_aload_n (pc2 := 535) rfl dX12_init_534 0 h0 ?_
  refine EC_str_M208 rfl (pc2 := 537) rfl dX12_init_535 ?_
  refine CW_putr (A := A) (k := 77) (r := 1000004) ⟨gfRX12_210, rfl, fun _ => rfl, fun _ => rfl, rfl, Or.inl rfl⟩ dX12_init_537 (pc2 := 540) rfl rfl ?_
  replace hok := okC_sR (k := 77) (r := 1000004) hok (Or.inr (by decide))
  refine CX_arrI (A := A) (k := 83) (N := 60) (m := 63) (v := 60) (b := 26) (s' := 1825) (mdl_tk (k := 63) (by decide)) ac_I ⟨by decide, by decide, by decide⟩ ⟨gfRX12_214, rfl, fun _ => rfl, fun _ => rfl, rfl, Or.inr ⟨rfl, rfl⟩⟩ rfl dX12_init_540 (pc1 := 541) rfl (fun st σ bc bs h => EC_bipush (pc2 := 543) (v := 60) rfl dX12_init_541 (by decide) h) dX12_init_543 (pc3 := 545) rfl dX12_init_545 (pc4 := 548) rfl h0 hv hok (by omega) (fun hok => ?_)
  rw [mdl_s (k := 63) (by decide) rfl] at hok ⊢
  refine CX_arrI (A := A) (k := 84) (N := 60) (m := 64) (v := 60) (b := 25) (s' := 1765) (mdl_tk (k := 64) (by decide)) ac_I ⟨by decide, by decide, by decide⟩ ⟨gfRX12_217, rfl, fun _ => rfl, fun _ => rfl, rfl, Or.inr ⟨rfl, rfl⟩⟩ rfl dX12_init_548 (pc1 := 549) rfl (fun st σ bc bs h => EC_bipush (pc2 := 551) (v := 60) rfl dX12_init_549 (by decide) h) dX12_init_551 (pc3 := 553) rfl dX12_init_553 (pc4 := 556) rfl h0 hv hok (by omega) (fun hok => ?_)
  rw [mdl_s (k := 64) (by decide) rfl] at hok ⊢
  refine CX_arrI (A := A) (k := 85) (N := 60) (m := 65) (v := 60) (b := 24) (s' := 1705) (mdl_tk (k := 65) (by decide)) ac_I ⟨by decide, by decide, by decide⟩ ⟨gfRX12_220, rfl, fun _ => rfl, fun _ => rfl, rfl, Or.inr ⟨rfl, rfl⟩⟩ rfl dX12_init_556 (pc1 := 557) rfl (fun st σ bc bs h => EC_bipush (pc2 := 559) (v := 60) rfl dX12_init_557 (by decide) h) dX12_init_559 (pc3 := 561) rfl dX12_init_561 (pc4 := 564) rfl h0 hv hok (by omega) (fun hok => ?_)
  rw [mdl_s (k := 65) (by decide) rfl] at hok ⊢
  refine CX_arrI (A := A) (k := 86) (N := 60) (m := 66) (v := 60) (b := 23) (s' := 1645) (mdl_tk (k := 66) (by decide)) ac_I ⟨by decide, by decide, by decide⟩ ⟨gfRX12_223, rfl, fun _ => rfl, fun _ => rfl, rfl, Or.inr ⟨rfl, rfl⟩⟩ rfl dX12_init_564 (pc1 := 565) rfl (fun st σ bc bs h => EC_bipush (pc2 := 567) (v := 60) rfl dX12_init_565 (by decide) h) dX12_init_567 (pc3 := 569) rfl dX12_init_569 (pc4 := 572) rfl h0 hv hok (by omega) (fun hok => ?_)
  rw [mdl_s (k := 66) (by decide) rfl] at hok ⊢
  refine CX_arrI (A := A) (k := 87) (N := 60) (m := 67) (v := 60) (b := 22) (s' := 1585) (mdl_tk (k := 67) (by decide)) ac_I ⟨by decide, by decide, by decide⟩ ⟨gfRX12_226, rfl, fun _ => rfl, fun _ => rfl, rfl, Or.inr ⟨rfl, rfl⟩⟩ rfl dX12_init_572 (pc1 := 573) rfl (fun st σ bc bs h => EC_bipush (pc2 := 575) (v := 60) rfl dX12_init_573 (by decide) h) dX12_init_575 (pc3 := 577) rfl dX12_init_577 (pc4 := 580) rfl h0 hv hok (by omega) (fun hok => ?_)
  rw [mdl_s (k := 67) (by decide) rfl] at hok ⊢
  refine CX_arrI (A := A) (k := 88) (N := 60) (m := 68) (v := 60) (b := 21) (s' := 1525) (mdl_tk (k := 68) (by decide)) ac_I ⟨by decide, by decide, by decide⟩ ⟨gfRX12_229, rfl, fun _ => rfl, fun _ => rfl, rfl, Or.inr ⟨rfl, rfl⟩⟩ rfl dX12_init_580 (pc1 := 581) rfl (fun st σ bc bs h => EC_bipush (pc2 := 583) (v := 60) rfl dX12_init_581 (by decide) h) dX12_init_583 (pc3 := 585) rfl dX12_init_585 (pc4 := 588) rfl h0 hv hok (by omega) (fun hok => ?_)
  rw [mdl_s (k := 68) (by decide) rfl] at hok ⊢
  refine CX_arrI (A := A) (k := 89) (N := 60) (m := 69) (v := 60) (b := 20) (s' := 1465) (mdl_tk (k := 69) (by decide)) ac_I ⟨by decide, by decide, by decide⟩ ⟨gfRX12_232, rfl, fun _ => rfl, fun _ => rfl, rfl, Or.inr ⟨rfl, rfl⟩⟩ rfl dX12_init_588 (pc1 := 589) rfl (fun st σ bc bs h => EC_bipush (pc2 := 591) (v := 60) rfl dX12_init_589 (by decide) h) dX12_init_591 (pc3 := 593) rfl dX12_init_593 (pc4 := 596) rfl h0 hv hok (by omega) (fun hok => ?_)
  rw [mdl_s (k := 69) (by decide) rfl] at hok ⊢
  refine CX_arrI (A := A) (k := 90) (N := 60) (m := 70) (v := 60) (b := 19) (s' := 1405) (mdl_tk (k := 70) (by decide)) ac_I ⟨by decide, by decide, by decide⟩ ⟨gfRX12_235, rfl, fun _ => rfl, fun _ => rfl, rfl, Or.inr ⟨rfl, rfl⟩⟩ rfl dX12_init_596 (pc1 := 597) rfl (fun st σ bc bs h => EC_bipush (pc2 := 599) (v := 60) rfl dX12_init_597 (by decide) h) dX12_init_599 (pc3 := 601) rfl dX12_init_601 (pc4 := 604) rfl h0 hv hok (by omega) (fun hok => ?_)
  rw [mdl_s (k := 70) (by decide) rfl] at hok ⊢
  refine CX_arrZ (A := A) (k := 91) (N := 60) (m := 71) (v := 60) (b := 18) (s' := 1345) (mdl_tk (k := 71) (by decide)) ac_Z ⟨by decide, by decide, by decide⟩ ⟨gfRX12_238, rfl, fun _ => rfl, fun _ => rfl, rfl, Or.inr ⟨rfl, rfl⟩⟩ rfl dX12_init_604 (pc1 := 605) rfl (fun st σ bc bs h => EC_bipush (pc2 := 607) (v := 60) rfl dX12_init_605 (by decide) h) dX12_init_607 (pc3 := 609) rfl dX12_init_609 (pc4 := 612) rfl h0 hv hok (by omega) (fun hok => ?_)
  rw [mdl_s (k := 71) (by decide) rfl] at hok ⊢
  refine CX_arrI (A := A) (k := 94) (N := 5) (m := 72) (v := 5) (b := 17) (s' := 1340) (mdl_tk (k := 72) (by decide)) ac_I ⟨by decide, by decide, by decide⟩ ⟨gfRX12_241, rfl, fun _ => rfl, fun _ => rfl, rfl, Or.inr ⟨rfl, rfl⟩⟩ rfl dX12_init_612 (pc1 := 613) rfl (fun st σ bc bs h => EC_iconst (pc2 := 614) (v := 5) rfl dX12_init_613 (by decide) h) dX12_init_614 (pc3 := 616) rfl dX12_init_616 (pc4 := 619) rfl h0 hv hok (by omega) (fun hok => ?_)
  rw [mdl_s (k := 72) (by decide) rfl] at hok ⊢
  refine CX_arrI (A := A) (k := 95) (N := 100) (m := 73) (v := 100) (b := 16) (s' := 1240) (mdl_tk (k := 73) (by decide)) ac_I ⟨by decide, by decide, by decide⟩ ⟨gfRX12_244, rfl, fun _ => rfl, fun _ => rfl, rfl, Or.inr ⟨rfl, rfl⟩⟩ rfl dX12_init_619 (pc1 := 620) rfl (fun st σ bc bs h => EC_bipush (pc2 := 622) (v := 100) rfl dX12_init_620 (by decide) h) dX12_init_622 (pc3 := 624) rfl dX12_init_624 (pc4 := 627) rfl h0 hv hok (by omega) (fun hok => ?_)
  rw [mdl_s (k := 73) (by decide) rfl] at hok ⊢
  refine CX_arrI (A := A) (k := 96) (N := 100) (m := 74) (v := 100) (b := 15) (s' := 1140) (mdl_tk (k := 74) (by decide)) ac_I ⟨by decide, by decide, by decide⟩ ⟨gfRX12_247, rfl, fun _ => rfl, fun _ => rfl, rfl, Or.inr ⟨rfl, rfl⟩⟩ rfl dX12_init_627 (pc1 := 628) rfl (fun st σ bc bs h => EC_bipush (pc2 := 630) (v := 100) rfl dX12_init_628 (by decide) h) dX12_init_630 (pc3 := 632) rfl dX12_init_632 (pc4 := 635) rfl h0 hv hok (by omega) (fun hok => ?_)
  rw [mdl_s (k := 74) (by decide) rfl] at hok ⊢
  refine CX_arrI (A := A) (k := 97) (N := 100) (m := 75) (v := 100) (b := 14) (s' := 1040) (mdl_tk (k := 75) (by decide)) ac_I ⟨by decide, by decide, by decide⟩ ⟨gfRX12_250, rfl, fun _ => rfl, fun _ => rfl, rfl, Or.inr ⟨rfl, rfl⟩⟩ rfl dX12_init_635 (pc1 := 636) rfl (fun st σ bc bs h => EC_bipush (pc2 := 638) (v := 100) rfl dX12_init_636 (by decide) h) dX12_init_638 (pc3 := 640) rfl dX12_init_640 (pc4 := 643) rfl h0 hv hok (by omega) (fun hok => ?_)
  rw [mdl_s (k := 75) (by decide) rfl] at hok ⊢
  refine CX_arrI (A := A) (k := 98) (N := 100) (m := 76) (v := 100) (b := 13) (s' := 940) (mdl_tk (k := 76) (by decide)) ac_I ⟨by decide, by decide, by decide⟩ ⟨gfRX12_253, rfl, fun _ => rfl, fun _ => rfl, rfl, Or.inr ⟨rfl, rfl⟩⟩ rfl dX12_init_643 (pc1 := 644) rfl (fun st σ bc bs h => EC_bipush (pc2 := 646) (v := 100) rfl dX12_init_644 (by decide) h) dX12_init_646 (pc3 := 648) rfl dX12_init_648 (pc4 := 651) rfl h0 hv hok (by omega) (fun hok => ?_)
  rw [mdl_s (k := 76) (by decide) rfl] at hok ⊢
  refine CX_arrI (A := A) (k := 100) (N := 12) (m := 77) (v := 12) (b := 12) (s' := 928) (mdl_tk (k := 77) (by decide)) ac_I ⟨by decide, by decide, by decide⟩ ⟨gfRX12_256, rfl, fun _ => rfl, fun _ => rfl, rfl, Or.inr ⟨rfl, rfl⟩⟩ rfl dX12_init_651 (pc1 := 652) rfl (fun st σ bc bs h => EC_bipush (pc2 := 654) (v := 12) rfl dX12_init_652 (by decide) h) dX12_init_654 (pc3 := 656) rfl dX12_init_656 (pc4 := 659) rfl h0 hv hok (by omega) (fun hok => ?_)
  rw [mdl_s (k := 77) (by decide) rfl] at hok ⊢
  refine CX_arrI (A := A) (k := 101) (N := 12) (m := 78) (v := 12) (b := 11) (s' := 916) (mdl_tk (k := 78) (by decide)) ac_I ⟨by decide, by decide, by decide⟩ ⟨gfRX12_259, rfl, fun _ => rfl, fun _ => rfl, rfl, Or.inr ⟨rfl, rfl⟩⟩ rfl dX12_init_659 (pc1 := 660) rfl (fun st σ bc bs h => EC_bipush (pc2 := 662) (v := 12) rfl dX12_init_660 (by decide) h) dX12_init_662 (pc3 := 664) rfl dX12_init_664 (pc4 := 667) rfl h0 hv hok (by omega) (fun hok => ?_)
  rw [mdl_s (k := 78) (by decide) rfl] at hok ⊢
  refine CX_arrI (A := A) (k := 102) (N := 12) (m := 79) (v := 12) (b := 10) (s' := 904) (mdl_tk (k := 79) (by decide)) ac_I ⟨by decide, by decide, by decide⟩ ⟨gfRX12_262, rfl, fun _ => rfl, fun _ => rfl, rfl, Or.inr ⟨rfl, rfl⟩⟩ rfl dX12_init_667 (pc1 := 668) rfl (fun st σ bc bs h => EC_bipush (pc2 := 670) (v := 12) rfl dX12_init_668 (by decide) h) dX12_init_670 (pc3 := 672) rfl dX12_init_672 (pc4 := 675) rfl h0 hv hok (by omega) (fun hok => ?_)
  rw [mdl_s (k := 79) (by decide) rfl] at hok ⊢
  refine CX_arrZ (A := A) (k := 103) (N := 12) (m := 80) (v := 12) (b := 9) (s' := 892) (mdl_tk (k := 80) (by decide)) ac_Z ⟨by decide, by decide, by decide⟩ ⟨gfRX12_265, rfl, fun _ => rfl, fun _ => rfl, rfl, Or.inr ⟨rfl, rfl⟩⟩ rfl dX12_init_675 (pc1 := 676) rfl (fun st σ bc bs h => EC_bipush (pc2 := 678) (v := 12) rfl dX12_init_676 (by decide) h) dX12_init_678 (pc3 := 680) rfl dX12_init_680 (pc4 := 683) rfl h0 hv hok (by omega) (fun hok => ?_)
  rw [mdl_s (k := 80) (by decide) rfl] at hok ⊢
  refine CX_arrI (A := A) (k := 111) (N := 20) (m := 81) (v := 20) (b := 8) (s' := 872) (mdl_tk (k := 81) (by decide)) ac_I ⟨by decide, by decide, by decide⟩ ⟨gfRX12_268, rfl, fun _ => rfl, fun _ => rfl, rfl, Or.inr ⟨rfl, rfl⟩⟩ rfl dX12_init_683 (pc1 := 684) rfl (fun st σ bc bs h => EC_bipush (pc2 := 686) (v := 20) rfl dX12_init_684 (by decide) h) dX12_init_686 (pc3 := 688) rfl dX12_init_688 (pc4 := 691) rfl h0 hv hok (by omega) (fun hok => ?_)
  rw [mdl_s (k := 81) (by decide) rfl] at hok ⊢
  refine CX_arrD (A := A) (k := 112) (N := 120) (m := 82) (v := 120) (b := 7) (s' := 752) (mdl_tk (k := 82) (by decide)) ac_D ⟨by decide, by decide, by decide⟩ ⟨gfRX12_271, rfl, fun _ => rfl, fun _ => rfl, rfl, Or.inr ⟨rfl, rfl⟩⟩ rfl dX12_init_691 (pc1 := 692) rfl (fun st σ bc bs h => EC_bipush (pc2 := 694) (v := 120) rfl dX12_init_692 (by decide) h) dX12_init_694 (pc3 := 696) rfl dX12_init_696 (pc4 := 699) rfl h0 hv hok (by omega) (fun hok => ?_)
  rw [mdl_s (k := 82) (by decide) rfl] at hok ⊢
  refine CX_arrD (A := A) (k := 113) (N := 20) (m := 83) (v := 20) (b := 6) (s' := 732) (mdl_tk (k := 83) (by decide)) ac_D ⟨by decide, by decide, by decide⟩ ⟨gfRX12_275, rfl, fun _ => rfl, fun _ => rfl, rfl, Or.inr ⟨rfl, rfl⟩⟩ rfl dX12_init_699 (pc1 := 700) rfl (fun st σ bc bs h => EC_bipush (pc2 := 702) (v := 20) rfl dX12_init_700 (by decide) h) dX12_init_702 (pc3 := 704) rfl dX12_init_704 (pc4 := 707) rfl h0 hv hok (by omega) (fun hok => ?_)
  rw [mdl_s (k := 83) (by decide) rfl] at hok ⊢
  refine CX_arrI (A := A) (k := 114) (N := 6) (m := 84) (v := 6) (b := 5) (s' := 726) (mdl_tk (k := 84) (by decide)) ac_I ⟨by decide, by decide, by decide⟩ ⟨gfRX12_278, rfl, fun _ => rfl, fun _ => rfl, rfl, Or.inr ⟨rfl, rfl⟩⟩ rfl dX12_init_707 (pc1 := 708) rfl (fun st σ bc bs h => EC_bipush (pc2 := 710) (v := 6) rfl dX12_init_708 (by decide) h) dX12_init_710 (pc3 := 712) rfl dX12_init_712 (pc4 := 715) rfl h0 hv hok (by omega) (fun hok => ?_)
  rw [mdl_s (k := 84) (by decide) rfl] at hok ⊢
  refine CX_arrZ (A := A) (k := 115) (N := 6) (m := 85) (v := 6) (b := 4) (s' := 720) (mdl_tk (k := 85) (by decide)) ac_Z ⟨by decide, by decide, by decide⟩ ⟨gfRX12_281, rfl, fun _ => rfl, fun _ => rfl, rfl, Or.inr ⟨rfl, rfl⟩⟩ rfl dX12_init_715 (pc1 := 716) rfl (fun st σ bc bs h => EC_bipush (pc2 := 718) (v := 6) rfl dX12_init_716 (by decide) h) dX12_init_718 (pc3 := 720) rfl dX12_init_720 (pc4 := 723) rfl h0 hv hok (by omega) (fun hok => ?_)
  rw [mdl_s (k := 85) (by decide) rfl] at hok ⊢
  refine CX_arrI (A := A) (k := 117) (N := 288) (m := 86) (v := 288) (b := 3) (s' := 432) (mdl_tk (k := 86) (by decide)) ac_I ⟨by decide, by decide, by decide⟩ ⟨gfRX12_284, rfl, fun _ => rfl, fun _ => rfl, rfl, Or.inr ⟨rfl, rfl⟩⟩ rfl dX12_init_723 (pc1 := 724) rfl (fun st σ bc bs h => EC_sipush (pc2 := 727) (v := 288) rfl dX12_init_724 (by decide) h) dX12_init_727 (pc3 := 729) rfl dX12_init_729 (pc4 := 732) rfl h0 hv hok (by omega) (fun hok => ?_)
  rw [mdl_s (k := 86) (by decide) rfl] at hok ⊢
  refine CX_arrI (A := A) (k := 118) (N := 288) (m := 87) (v := 288) (b := 2) (s' := 144) (mdl_tk (k := 87) (by decide)) ac_I ⟨by decide, by decide, by decide⟩ ⟨gfRX12_287, rfl, fun _ => rfl, fun _ => rfl, rfl, Or.inr ⟨rfl, rfl⟩⟩ rfl dX12_init_732 (pc1 := 733) rfl (fun st σ bc bs h => EC_sipush (pc2 := 736) (v := 288) rfl dX12_init_733 (by decide) h) dX12_init_736 (pc3 := 738) rfl dX12_init_738 (pc4 := 741) rfl h0 hv hok (by omega) (fun hok => ?_)
  rw [mdl_s (k := 87) (by decide) rfl] at hok ⊢
  refine CX_arrI (A := A) (k := 119) (N := 72) (m := 88) (v := 72) (b := 1) (s' := 72) (mdl_tk (k := 88) (by decide)) ac_I ⟨by decide, by decide, by decide⟩ ⟨gfRX12_290, rfl, fun _ => rfl, fun _ => rfl, rfl, Or.inr ⟨rfl, rfl⟩⟩ rfl dX12_init_741 (pc1 := 742) rfl (fun st σ bc bs h => EC_bipush (pc2 := 744) (v := 72) rfl dX12_init_742 (by decide) h) dX12_init_744 (pc3 := 746) rfl dX12_init_746 (pc4 := 749) rfl h0 hv hok (by omega) (fun hok => ?_)
  rw [mdl_s (k := 88) (by decide) rfl] at hok ⊢
  refine CX_arrZ (A := A) (k := 120) (N := 72) (m := 89) (v := 72) (b := 0) (s' := 0) (mdl_tk (k := 89) (by decide)) ac_Z ⟨by decide, by decide, by decide⟩ ⟨gfRX12_293, rfl, fun _ => rfl, fun _ => rfl, rfl, Or.inr ⟨rfl, rfl⟩⟩ rfl dX12_init_749 (pc1 := 750) rfl (fun st σ bc bs h => EC_bipush (pc2 := 752) (v := 72) rfl dX12_init_750 (by decide) h) dX12_init_752 (pc3 := 754) rfl dX12_init_754 (pc4 := 757) rfl h0 hv hok (by omega) (fun hok => ?_)
  rw [mdl_s (k := 89) (by decide) rfl] at hok ⊢
  have etk : mdl.take 90 = mdl := rfl
  rw [etk] at hok ⊢
  change okC (A ++ ob12 A.length :: mdl) at hok
  change EC MX12_init 757 [(0, .ref A.length)] [] (cLs (A ++ ob12 A.length :: mdl)) d 0 0 K
  have hok2 : okC (A ++ mk12 A.length) := okC_setj (j := 5) (x := wkM 400) hok (by show 5 < 91; decide) (fun k r e => by cases e)
  rw [← wkM_0]
  refine EC_iconst (pc2 := 758) (v := 0) rfl dX12_init_757 (by decide) ?_
  refine EC_istore_n (pc2 := 759) rfl dX12_init_758 (by decide) [1, 0] [(0, .ref A.length), (1, .int 0)] rfl ?_
  exact iX12_out (k hok2) 20 0 rfl
