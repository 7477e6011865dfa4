theorem oiRX6 : Cond.methodLink RX6 3 objectInit ∈ ab_G ∧ Cond.instanceMethod objectInit ∈ ab_G ∧ Cond.code objectInit ⟨#[0xb1]⟩ 1 none ∈ ab_G := ⟨ab_in 126 (by decide +kernel) (by decide +kernel), ab_in 119 (by decide +kernel) (by decide +kernel), ab_in 120 (by decide +kernel) (by decide +kernel)⟩
theorem cw6_40 : Cond.constant RX6 40 1000000 ∈ ab_G := ab_in 130 (by decide +kernel) (by decide +kernel)
theorem oiRX8 : Cond.methodLink RX8 3 objectInit ∈ ab_G ∧ Cond.instanceMethod objectInit ∈ ab_G ∧ Cond.code objectInit ⟨#[0xb1]⟩ 1 none ∈ ab_G := ⟨ab_in 597 (by decide +kernel) (by decide +kernel), ab_in 119 (by decide +kernel) (by decide +kernel), ab_in 120 (by decide +kernel) (by decide +kernel)⟩
theorem ilRX8_23 : Cond.methodLinkNest RX8 23 yX9_init "CityBrigade" ∈ tables_1.filter ab_isN ∧ Cond.instanceMethod yX9_init ∈ ab_G := ⟨List.mem_filter.mpr ⟨List.mem_of_getElem? (i := 515) (by decide +kernel), rfl⟩, ab_in 364 (by decide +kernel) (by decide +kernel)⟩
theorem cnRX8_21 : Cond.classLink RX8 21 (ab_RX 9) ∈ ab_G ∧ Cond.instantiable (ab_RX 9) (ab_N 9) ∈ ab_G ∧ Cond.initialized (ab_RX 9) ∈ ab_G := ⟨ab_in 599 (by decide +kernel) (by decide +kernel), ab_in 362 (by decide +kernel) (by decide +kernel), ab_in 93 (by decide +kernel) (by decide +kernel)⟩
theorem oiRX10 : Cond.methodLink RX10 3 objectInit ∈ ab_G ∧ Cond.instanceMethod objectInit ∈ ab_G ∧ Cond.code objectInit ⟨#[0xb1]⟩ 1 none ∈ ab_G := ⟨ab_in 166 (by decide +kernel) (by decide +kernel), ab_in 119 (by decide +kernel) (by decide +kernel), ab_in 120 (by decide +kernel) (by decide +kernel)⟩
theorem caRX10_9 : Cond.classLink RX10 9 "CityBrigade$House" ∈ ab_G := ab_in 167 (by decide +kernel) (by decide +kernel)
theorem ilRX10_19 : Cond.methodLinkNest RX10 19 yX3_init "CityBrigade" ∈ tables_1.filter ab_isN ∧ Cond.instanceMethod yX3_init ∈ ab_G := ⟨List.mem_filter.mpr ⟨List.mem_of_getElem? (i := 86) (by decide +kernel), rfl⟩, ab_in 172 (by decide +kernel) (by decide +kernel)⟩
theorem cnRX10_17 : Cond.classLink RX10 17 (ab_RX 3) ∈ ab_G ∧ Cond.instantiable (ab_RX 3) (ab_N 3) ∈ ab_G ∧ Cond.initialized (ab_RX 3) ∈ ab_G := ⟨ab_in 169 (by decide +kernel) (by decide +kernel), ab_in 170 (by decide +kernel) (by decide +kernel), ab_in 90 (by decide +kernel) (by decide +kernel)⟩
theorem ilRX10_41 : Cond.methodLink RX10 41 yX4_init ∈ ab_G ∧ Cond.instanceMethod yX4_init ∈ ab_G := ⟨ab_in 209 (by decide +kernel) (by decide +kernel), ab_in 210 (by decide +kernel) (by decide +kernel)⟩
theorem cnRX10_9 : Cond.classLink RX10 9 (ab_RX 4) ∈ ab_G ∧ Cond.instantiable (ab_RX 4) (ab_N 4) ∈ ab_G ∧ Cond.initialized (ab_RX 4) ∈ ab_G := ⟨ab_in 167 (by decide +kernel) (by decide +kernel), ab_in 208 (by decide +kernel) (by decide +kernel), ab_in 91 (by decide +kernel) (by decide +kernel)⟩
theorem oiRX0 : Cond.methodLink RX0 3 objectInit ∈ ab_G ∧ Cond.instanceMethod objectInit ∈ ab_G ∧ Cond.code objectInit ⟨#[0xb1]⟩ 1 none ∈ ab_G := ⟨ab_in 356 (by decide +kernel) (by decide +kernel), ab_in 119 (by decide +kernel) (by decide +kernel), ab_in 120 (by decide +kernel) (by decide +kernel)⟩
theorem caRX0_9 : Cond.classLink RX0 9 "CityBrigade$Crew" ∈ ab_G := ab_in 357 (by decide +kernel) (by decide +kernel)
theorem caRX0_17 : Cond.classLink RX0 17 "CityBrigade$Call" ∈ ab_G := ab_in 359 (by decide +kernel) (by decide +kernel)
theorem ilRX0_25 : Cond.methodLinkNest RX0 25 yX9_init "CityBrigade" ∈ tables_1.filter ab_isN ∧ Cond.instanceMethod yX9_init ∈ ab_G := ⟨List.mem_filter.mpr ⟨List.mem_of_getElem? (i := 278) (by decide +kernel), rfl⟩, ab_in 364 (by decide +kernel) (by decide +kernel)⟩
theorem cnRX0_23 : Cond.classLink RX0 23 (ab_RX 9) ∈ ab_G ∧ Cond.instantiable (ab_RX 9) (ab_N 9) ∈ ab_G ∧ Cond.initialized (ab_RX 9) ∈ ab_G := ⟨ab_in 361 (by decide +kernel) (by decide +kernel), ab_in 362 (by decide +kernel) (by decide +kernel), ab_in 93 (by decide +kernel) (by decide +kernel)⟩
theorem ilRX0_53 : Cond.methodLinkNest RX0 53 yX2_init "CityBrigade" ∈ tables_1.filter ab_isN ∧ Cond.instanceMethod yX2_init ∈ ab_G := ⟨List.mem_filter.mpr ⟨List.mem_of_getElem? (i := 320) (by decide +kernel), rfl⟩, ab_in 406 (by decide +kernel) (by decide +kernel)⟩
theorem cnRX0_9 : Cond.classLink RX0 9 (ab_RX 2) ∈ ab_G ∧ Cond.instantiable (ab_RX 2) (ab_N 2) ∈ ab_G ∧ Cond.initialized (ab_RX 2) ∈ ab_G := ⟨ab_in 357 (by decide +kernel) (by decide +kernel), ab_in 404 (by decide +kernel) (by decide +kernel), ab_in 94 (by decide +kernel) (by decide +kernel)⟩
theorem ilRX0_54 : Cond.methodLinkNest RX0 54 yX1_init "CityBrigade" ∈ tables_1.filter ab_isN ∧ Cond.instanceMethod yX1_init ∈ ab_G := ⟨List.mem_filter.mpr ⟨List.mem_of_getElem? (i := 416) (by decide +kernel), rfl⟩, ab_in 502 (by decide +kernel) (by decide +kernel)⟩
theorem cnRX0_17 : Cond.classLink RX0 17 (ab_RX 1) ∈ ab_G ∧ Cond.instantiable (ab_RX 1) (ab_N 1) ∈ ab_G ∧ Cond.initialized (ab_RX 1) ∈ ab_G := ⟨ab_in 359 (by decide +kernel) (by decide +kernel), ab_in 500 (by decide +kernel) (by decide +kernel), ab_in 95 (by decide +kernel) (by decide +kernel)⟩
theorem oiRX5 : Cond.methodLink RX5 3 objectInit ∈ ab_G ∧ Cond.instanceMethod objectInit ∈ ab_G ∧ Cond.code objectInit ⟨#[0xb1]⟩ 1 none ∈ ab_G := ⟨ab_in 625 (by decide +kernel) (by decide +kernel), ab_in 119 (by decide +kernel) (by decide +kernel), ab_in 120 (by decide +kernel) (by decide +kernel)⟩
theorem caRX5_9 : Cond.classLink RX5 9 "CityBrigade$Text" ∈ ab_G := ab_in 626 (by decide +kernel) (by decide +kernel)
theorem ilRX5_45 : Cond.methodLinkNest RX5 45 yX9_init "CityBrigade" ∈ tables_1.filter ab_isN ∧ Cond.instanceMethod yX9_init ∈ ab_G := ⟨List.mem_filter.mpr ⟨List.mem_of_getElem? (i := 543) (by decide +kernel), rfl⟩, ab_in 364 (by decide +kernel) (by decide +kernel)⟩
theorem cnRX5_9 : Cond.classLink RX5 9 (ab_RX 9) ∈ ab_G ∧ Cond.instantiable (ab_RX 9) (ab_N 9) ∈ ab_G ∧ Cond.initialized (ab_RX 9) ∈ ab_G := ⟨ab_in 626 (by decide +kernel) (by decide +kernel), ab_in 362 (by decide +kernel) (by decide +kernel), ab_in 93 (by decide +kernel) (by decide +kernel)⟩
def flC (c : CellD) (N : Nat) (v : Int32) : CellD := (c.1, (fun k => if k < N then v else c.2.1 k), c.2.2)
theorem flC_0 {c : CellD} {v : Int32} : flC c 0 v = c := by
  refine Prod.ext rfl (Prod.ext (funext fun k => ?_) rfl)
  show (if k < 0 then v else c.2.1 k) = c.2.1 k
  rw [if_neg (Nat.not_lt_zero k)]
theorem flC_s {c : CellD} {i : Nat} {v : Int32} : sI (flC c i v) i v = flC c (i + 1) v := by
  refine Prod.ext rfl (Prod.ext (funext fun k => ?_) rfl)
  show (if k = i then v else if k < i then v else c.2.1 k) = if k < i + 1 then v else c.2.1 k
  by_cases e : k = i
  · rw [if_pos e, if_pos (by omega)]
  · rw [if_neg e]
    by_cases e2 : k < i
    · rw [if_pos e2, if_pos (by omega)]
    · rw [if_neg e2, if_neg (by omega)]
theorem gD_set {Y : List CellD} {j : Nat} {x : CellD} (hj : j < Y.length) : (Y.set j x).getD j cd0 = x := by rw [cgD_set hj, if_pos rfl]
theorem eFill_5 {A Y : List CellD} {j N d bc bs : Nat} {v : Int32} {K : Option Value → ab_St → Prop} (hj : j < Y.length) (hs : (Y.getD j cd0).1 = .inr (0, N)) (hN : N ≤ 100000) (k : K none (cLs (A ++ Y.set j (flC (Y.getD j cd0) N v)))) : ∀ m i, i + m = N → EC MJ7_fill_53178 5 [(0, .ref (A.length + j)), (1, .int v), (2, .int (nI i)), (3, .int (nI N))] [] (cLs (A ++ Y.set j (flC (Y.getD j cd0) i v))) d bc bs K := by
  intro m
  induction m with
  | zero =>
    intro i hi
    have e : i = N := by omega
    subst e
    refine EC_iload_n (pc2 := 6) rfl dJ7_fill_53178_5 2 rfl ?_
    refine EC_iload_n (pc2 := 7) rfl dJ7_fill_53178_6 3 rfl ?_
    refine EC_icmp_ge (tgt := 20) (pc2 := 10) rfl dJ7_fill_53178_7 (by decide) (fun q => ?_) (fun q => absurd (Int32.le_refl _) q)
    exact EC_vret rfl dJ7_fill_53178_20 k
  | succ m ih =>
    intro i hi
    refine EC_iload_n (pc2 := 6) rfl dJ7_fill_53178_5 2 rfl ?_
    refine EC_iload_n (pc2 := 7) rfl dJ7_fill_53178_6 3 rfl ?_
    refine EC_icmp_ge (tgt := 20) (pc2 := 10) rfl dJ7_fill_53178_7 (by decide) (fun q => absurd q ?_) (fun q => ?_)
    · rw [nI_leI (by omega) (by omega)]; omega
    refine EC_aload_n (pc2 := 11) rfl dJ7_fill_53178_10 0 rfl ?_
    refine EC_iload_n (pc2 := 12) rfl dJ7_fill_53178_11 2 rfl ?_
    refine EC_iload_n (pc2 := 13) rfl dJ7_fill_53178_12 1 rfl ?_
    have hb : A.length + j < (A ++ Y.set j (flC (Y.getD j cd0) i v)).length := by rw [List.length_append, List.length_set]; omega
    refine EC_iast (n := N) (pc2 := 14) rfl dJ7_fill_53178_13 hb ?_ (vp_in_nI (by omega) (by omega)) ?_
    · show ((A ++ Y.set j (flC (Y.getD j cd0) i v)).getD (A.length + j) cd0).1 = _
      rw [cgD_j, gD_set hj]; exact hs
    rw [nI_clamp (by omega), cLs_ui hb, cgD_j, gD_set hj, cset_j, List.set_set, flC_s]
    refine EC_iinc (nI (i + 1)) (pc2 := 17) rfl dJ7_fill_53178_14 2 rfl (nI_add i 1) (by decide) [1, 2, 0, 3] [(0, .ref (A.length + j)), (1, .int v), (2, .int (nI (i + 1))), (3, .int (nI N))] rfl ?_
    refine EC_goto (tgt := 5) dJ7_fill_53178_17 (by decide) ?_
    exact ih (i + 1) (by omega)
theorem eFill {A Y : List CellD} {j N d bc bs : Nat} {v : Int32} {K : Option Value → ab_St → Prop} (hj : j < Y.length) (hs : (Y.getD j cd0).1 = .inr (0, N)) (hN : N ≤ 100000) (k : K none (cLs (A ++ Y.set j (flC (Y.getD j cd0) N v)))) : EC MJ7_fill_53178 0 [(0, .ref (A.length + j)), (1, .int v)] [] (cLs (A ++ Y)) d bc bs K := by
  refine EC_iconst (pc2 := 1) (v := 0) rfl dJ7_fill_53178_0 (by decide) ?_
  refine EC_istore_n (pc2 := 2) rfl dJ7_fill_53178_1 (by decide) [1, 2, 0] [(0, .ref (A.length + j)), (1, .int v), (2, .int 0)] rfl ?_
  refine EC_aload_n (pc2 := 3) rfl dJ7_fill_53178_2 0 rfl ?_
  refine EC_alen (t := 0) (c := A.length + j) (n := N) (pc2 := 4) rfl dJ7_fill_53178_3 (by show A.length + j < (A ++ Y).length; rw [List.length_append]; omega) (by decide) (by show ((A ++ Y).getD (A.length + j) cd0).1 = _; rw [cgD_j]; exact hs) (v := nI N) rfl ?_
  refine EC_istore_n (pc2 := 5) rfl dJ7_fill_53178_4 (by decide) [1, 2, 3, 0] [(0, .ref (A.length + j)), (1, .int v), (2, .int 0), (3, .int (nI N))] rfl ?_
  have := eFill_5 (A := A) (v := v) (d := d) (bc := bc) (bs := bs) hj hs hN k N 0 (by omega)
  have e : Y.set j (flC (Y.getD j cd0) 0 v) = Y := by
    rw [flC_0]
    apply List.ext_getElem?
    intro q
    rw [List.getElem?_set]
    by_cases e : j = q
    · subst e
      rw [if_pos rfl, if_pos hj, List.getD_eq_getElem?_getD, List.getElem?_eq_getElem hj]; rfl
    · rw [if_neg e]
  rw [e] at this
  exact this
/-- walks: the diagonal up to i -/
def wkA (i : Nat) : CellD := (.inr (0, 400), (fun k => if k < 400 then (if k % 21 = 0 ∧ k < 21 * i then nI 0 else nI 1000000) else 0), (fun _ => none))
theorem wkA_0 : flC (cA 0 400) 400 (nI 1000000) = wkA 0 := by
  refine Prod.ext rfl (Prod.ext (funext fun k => ?_) rfl)
  show (if k < 400 then nI 1000000 else 0) = (if k < 400 then (if k % 21 = 0 ∧ k < 21 * 0 then nI 0 else nI 1000000) else 0)
  rw [if_neg (show ¬ (k % 21 = 0 ∧ k < 21 * 0) by omega)]
theorem wkA_s {i : Nat} (hi : i < 20) : sI (wkA i) (i * 20 + i) (nI 0) = wkA (i + 1) := by
  refine Prod.ext rfl (Prod.ext (funext fun k => ?_) rfl)
  show (if k = i * 20 + i then nI 0 else if k < 400 then (if k % 21 = 0 ∧ k < 21 * i then nI 0 else nI 1000000) else 0) = (if k < 400 then (if k % 21 = 0 ∧ k < 21 * (i + 1) then nI 0 else nI 1000000) else 0)
  by_cases e : k = i * 20 + i
  · rw [if_pos e, if_pos (by omega), if_pos (by omega)]
  · rw [if_neg e]
    by_cases e2 : k < 400
    · rw [if_pos e2, if_pos e2]
      by_cases e3 : k % 21 = 0 ∧ k < 21 * i
      · rw [if_pos e3, if_pos (by omega)]
      · rw [if_neg e3, if_neg (by omega)]
    · rw [if_neg e2, if_neg e2]
abbrev MX6_init : ab_M := (yX6_init, cX6_init, 2, none)
theorem dX6_init_0 : decode cX6_init 0 = .ok (.aload_n 0, 1) := by decide +kernel
theorem dX6_init_1 : decode cX6_init 1 = .ok (.invokespecial 3, 3) := by decide +kernel
theorem dX6_init_4 : decode cX6_init 4 = .ok (.aload_n 0, 1) := by decide +kernel
theorem dX6_init_5 : decode cX6_init 5 = .ok (.bipush 40, 2) := by decide +kernel
theorem dX6_init_7 : decode cX6_init 7 = .ok (.newarray .int, 2) := by decide +kernel
theorem dX6_init_9 : decode cX6_init 9 = .ok (.putfield 9, 3) := by decide +kernel
theorem dX6_init_12 : decode cX6_init 12 = .ok (.aload_n 0, 1) := by decide +kernel
theorem dX6_init_13 : decode cX6_init 13 = .ok (.bipush 40, 2) := by decide +kernel
theorem dX6_init_15 : decode cX6_init 15 = .ok (.newarray .int, 2) := by decide +kernel
theorem dX6_init_17 : decode cX6_init 17 = .ok (.putfield 15, 3) := by decide +kernel
theorem dX6_init_20 : decode cX6_init 20 = .ok (.aload_n 0, 1) := by decide +kernel
theorem dX6_init_21 : decode cX6_init 21 = .ok (.bipush 40, 2) := by decide +kernel
theorem dX6_init_23 : decode cX6_init 23 = .ok (.newarray .int, 2) := by decide +kernel
theorem dX6_init_25 : decode cX6_init 25 = .ok (.putfield 18, 3) := by decide +kernel
theorem dX6_init_28 : decode cX6_init 28 = .ok (.aload_n 0, 1) := by decide +kernel
theorem dX6_init_29 : decode cX6_init 29 = .ok (.bipush 40, 2) := by decide +kernel
theorem dX6_init_31 : decode cX6_init 31 = .ok (.newarray .boolean, 2) := by decide +kernel
theorem dX6_init_33 : decode cX6_init 33 = .ok (.putfield 21, 3) := by decide +kernel
theorem dX6_init_36 : decode cX6_init 36 = .ok (.aload_n 0, 1) := by decide +kernel
theorem dX6_init_37 : decode cX6_init 37 = .ok (.sipush 160, 3) := by decide +kernel
theorem dX6_init_40 : decode cX6_init 40 = .ok (.newarray .int, 2) := by decide +kernel
theorem dX6_init_42 : decode cX6_init 42 = .ok (.putfield 25, 3) := by decide +kernel
theorem dX6_init_45 : decode cX6_init 45 = .ok (.aload_n 0, 1) := by decide +kernel
theorem dX6_init_46 : decode cX6_init 46 = .ok (.sipush 400, 3) := by decide +kernel
theorem dX6_init_49 : decode cX6_init 49 = .ok (.newarray .int, 2) := by decide +kernel
theorem dX6_init_51 : decode cX6_init 51 = .ok (.putfield 28, 3) := by decide +kernel
theorem dX6_init_54 : decode cX6_init 54 = .ok (.aload_n 0, 1) := by decide +kernel
theorem dX6_init_55 : decode cX6_init 55 = .ok (.sipush 601, 3) := by decide +kernel
theorem dX6_init_58 : decode cX6_init 58 = .ok (.newarray .int, 2) := by decide +kernel
theorem dX6_init_60 : decode cX6_init 60 = .ok (.putfield 31, 3) := by decide +kernel
theorem dX6_init_63 : decode cX6_init 63 = .ok (.aload_n 0, 1) := by decide +kernel
theorem dX6_init_64 : decode cX6_init 64 = .ok (.getfield 25, 3) := by decide +kernel
theorem dX6_init_67 : decode cX6_init 67 = .ok (.bipush 100, 2) := by decide +kernel
theorem dX6_init_69 : decode cX6_init 69 = .ok (.invokestatic 34, 3) := by decide +kernel
theorem dX6_init_72 : decode cX6_init 72 = .ok (.aload_n 0, 1) := by decide +kernel
theorem dX6_init_73 : decode cX6_init 73 = .ok (.getfield 28, 3) := by decide +kernel
theorem dX6_init_76 : decode cX6_init 76 = .ok (.ldc 40, 2) := by decide +kernel
theorem dX6_init_78 : decode cX6_init 78 = .ok (.invokestatic 34, 3) := by decide +kernel
theorem dX6_init_81 : decode cX6_init 81 = .ok (.iconst 0, 1) := by decide +kernel
theorem dX6_init_82 : decode cX6_init 82 = .ok (.istore_n 1, 1) := by decide +kernel
theorem dX6_init_83 : decode cX6_init 83 = .ok (.iload_n 1, 1) := by decide +kernel
theorem dX6_init_84 : decode cX6_init 84 = .ok (.bipush 20, 2) := by decide +kernel
theorem dX6_init_86 : decode cX6_init 86 = .ok (.if_icmp .ge 21, 3) := by decide +kernel
theorem dX6_init_89 : decode cX6_init 89 = .ok (.aload_n 0, 1) := by decide +kernel
theorem dX6_init_90 : decode cX6_init 90 = .ok (.getfield 28, 3) := by decide +kernel
theorem dX6_init_93 : decode cX6_init 93 = .ok (.iload_n 1, 1) := by decide +kernel
theorem dX6_init_94 : decode cX6_init 94 = .ok (.bipush 20, 2) := by decide +kernel
theorem dX6_init_96 : decode cX6_init 96 = .ok (.imul, 1) := by decide +kernel
theorem dX6_init_97 : decode cX6_init 97 = .ok (.iload_n 1, 1) := by decide +kernel
theorem dX6_init_98 : decode cX6_init 98 = .ok (.iadd, 1) := by decide +kernel
theorem dX6_init_99 : decode cX6_init 99 = .ok (.iconst 0, 1) := by decide +kernel
theorem dX6_init_100 : decode cX6_init 100 = .ok (.iastore, 1) := by decide +kernel
theorem dX6_init_101 : decode cX6_init 101 = .ok (.iinc 1 1, 3) := by decide +kernel
theorem dX6_init_104 : decode cX6_init 104 = .ok (.goto (-21), 3) := by decide +kernel
theorem dX6_init_107 : decode cX6_init 107 = .ok (.return_, 1) := by decide +kernel
theorem okX6_init : ab_okM MX6_init 0 := ⟨by decide, ⟨by decide, by decide⟩, ab_in 125 (by decide +kernel) (by decide +kernel), ab_in 87 (by decide +kernel) (by decide +kernel), by decide +kernel, by decide⟩
def ob6 (n : Nat) : CellD := sR (sR (sR (sR (sR (sR (sR (cO 6) 0 (n + 1 + 0)) 1 (n + 1 + 1)) 2 (n + 1 + 2)) 3 (n + 1 + 3)) 4 (n + 1 + 4)) 5 (n + 1 + 5)) 6 (n + 1 + 6)
def mk6 (n : Nat) : List CellD := ob6 n :: [cA 0 40, cA 0 40, cA 0 40, cA 1 40, flC (cA 0 160) 160 (nI 100), wkA 20, cA 0 601]
theorem mk6_pos (n : Nat) : 1 ≤ (mk6 n).length := by show 1 ≤ 8; decide
set_option maxHeartbeats 4000000 in
theorem iX6_init (A : List CellD) {n : Nat} (hn : A.length = n) (hA : n < 800000) (hok : okC (A ++ [cO 6])) (d : Nat) (hd : 1 ≤ d) (K : Option Value → ab_St → Prop) (k : okC (A ++ mk6 n) → K none (cLs (A ++ mk6 n))) : EC MX6_init 0 [(0, .ref n)] [] (cLs (A ++ [cO 6])) d 7 1321 K := by
  subst hn
  have h0 : ([(0, .ref A.length)] : List (Nat × Value))[0]? = some (0, .ref A.length) := rfl
  have hv : lvO A.length [(0, .ref A.length)] := lvO_r (Nat.le_refl _) lvO_n
  refine EC_aload_n (pc2 := 1) rfl dX6_init_0 0 h0 ?_
  refine EC_objInit oiRX6 (pc2 := 4) rfl dX6_init_1 (by decide) (by omega) ?_
  refine EC_aload_n (pc2 := 5) rfl dX6_init_4 0 h0 ?_
  refine EC_bipush (pc2 := 7) (v := 40) rfl dX6_init_5 (by decide) ?_
  refine CW_arrI (A := A) (N := 40) (b := 6) (s' := 1281) ac_I ⟨by decide, by decide, by decide⟩ dX6_init_7 (pc2 := 9) rfl hv (nr1 (by omega)) hok (by show A.length + 0 < 900000; omega) (fun hok => ?_)
  refine CW_putr (A := A) (k := 0) ⟨gfRX6_9, rfl, fun _ => rfl, fun _ => rfl, rfl, Or.inr ⟨rfl, rfl⟩⟩ dX6_init_9 (pc2 := 12) rfl rfl ?_
  replace hok := okC_sR (k := 0) (r := A.length + 1 + 0) hok (Or.inl (by show A.length + 1 + 0 < A.length + 1 + 1; omega))
  refine EC_aload_n (pc2 := 13) rfl dX6_init_12 0 h0 ?_
  refine EC_bipush (pc2 := 15) (v := 40) rfl dX6_init_13 (by decide) ?_
  refine CW_arrI (A := A) (N := 40) (b := 5) (s' := 1241) ac_I ⟨by decide, by decide, by decide⟩ dX6_init_15 (pc2 := 17) rfl hv (nr1 (by omega)) hok (by show A.length + 1 < 900000; omega) (fun hok => ?_)
  refine CW_putr (A := A) (k := 1) ⟨gfRX6_15, rfl, fun _ => rfl, fun _ => rfl, rfl, Or.inr ⟨rfl, rfl⟩⟩ dX6_init_17 (pc2 := 20) rfl rfl ?_
  replace hok := okC_sR (k := 1) (r := A.length + 1 + 1) hok (Or.inl (by show A.length + 1 + 1 < A.length + 1 + 2; omega))
  refine EC_aload_n (pc2 := 21) rfl dX6_init_20 0 h0 ?_
  refine EC_bipush (pc2 := 23) (v := 40) rfl dX6_init_21 (by decide) ?_
  refine CW_arrI (A := A) (N := 40) (b := 4) (s' := 1201) ac_I ⟨by decide, by decide, by decide⟩ dX6_init_23 (pc2 := 25) rfl hv (nr1 (by omega)) hok (by show A.length + 2 < 900000; omega) (fun hok => ?_)
  refine CW_putr (A := A) (k := 2) ⟨gfRX6_18, rfl, fun _ => rfl, fun _ => rfl, rfl, Or.inr ⟨rfl, rfl⟩⟩ dX6_init_25 (pc2 := 28) rfl rfl ?_
  replace hok := okC_sR (k := 2) (r := A.length + 1 + 2) hok (Or.inl (by show A.length + 1 + 2 < A.length + 1 + 3; omega))
  refine EC_aload_n (pc2 := 29) rfl dX6_init_28 0 h0 ?_
  refine EC_bipush (pc2 := 31) (v := 40) rfl dX6_init_29 (by decide) ?_
  refine CW_arrZ (A := A) (N := 40) (b := 3) (s' := 1161) ac_Z ⟨by decide, by decide, by decide⟩ dX6_init_31 (pc2 := 33) rfl hv (nr1 (by omega)) hok (by show A.length + 3 < 900000; omega) (fun hok => ?_)
  refine CW_putr (A := A) (k := 3) ⟨gfRX6_21, rfl, fun _ => rfl, fun _ => rfl, rfl, Or.inr ⟨rfl, rfl⟩⟩ dX6_init_33 (pc2 := 36) rfl rfl ?_
  replace hok := okC_sR (k := 3) (r := A.length + 1 + 3) hok (Or.inl (by show A.length + 1 + 3 < A.length + 1 + 4; omega))
  refine EC_aload_n (pc2 := 37) rfl dX6_init_36 0 h0 ?_
  refine EC_sipush (pc2 := 40) (v := 160) rfl dX6_init_37 (by decide) ?_
  refine CW_arrI (A := A) (N := 160) (b := 2) (s' := 1001) ac_I ⟨by decide, by decide, by decide⟩ dX6_init_40 (pc2 := 42) rfl hv (nr1 (by omega)) hok (by show A.length + 4 < 900000; omega) (fun hok => ?_)
  refine CW_putr (A := A) (k := 4) ⟨gfRX6_25, rfl, fun _ => rfl, fun _ => rfl, rfl, Or.inr ⟨rfl, rfl⟩⟩ dX6_init_42 (pc2 := 45) rfl rfl ?_
  replace hok := okC_sR (k := 4) (r := A.length + 1 + 4) hok (Or.inl (by show A.length + 1 + 4 < A.length + 1 + 5; omega))
  refine EC_aload_n (pc2 := 46) rfl dX6_init_45 0 h0 ?_
  refine EC_sipush (pc2 := 49) (v := 400) rfl dX6_init_46 (by decide) ?_
  refine CW_arrI (A := A) (N := 400) (b := 1) (s' := 601) ac_I ⟨by decide, by decide, by decide⟩ dX6_init_49 (pc2 := 51) rfl hv (nr1 (by omega)) hok (by show A.length + 5 < 900000; omega) (fun hok => ?_)
  refine CW_putr (A := A) (k := 5) ⟨gfRX6_28, rfl, fun _ => rfl, fun _ => rfl, rfl, Or.inr ⟨rfl, rfl⟩⟩ dX6_init_51 (pc2 := 54) rfl rfl ?_
  replace hok := okC_sR (k := 5) (r := A.length + 1 + 5) hok (Or.inl (by show A.length + 1 + 5 < A.length + 1 + 6; omega))
  refine EC_aload_n (pc2 := 55) rfl dX6_init_54 0 h0 ?_
  refine EC_sipush (pc2 := 58) (v := 601) rfl dX6_init_55 (by decide) ?_
  refine CW_arrI (A := A) (N := 601) (b := 0) (s' := 0) ac_I ⟨by decide, by decide, by decide⟩ dX6_init_58 (pc2 := 60) rfl hv (nr1 (by omega)) hok (by show A.length + 6 < 900000; omega) (fun hok => ?_)
  refine CW_putr (A := A) (k := 6) ⟨gfRX6_31, rfl, fun _ => rfl, fun _ => rfl, rfl, Or.inr ⟨rfl, rfl⟩⟩ dX6_init_60 (pc2 := 63) rfl rfl ?_
  replace hok := okC_sR (k := 6) (r := A.length + 1 + 6) hok (Or.inl (by show A.length + 1 + 6 < A.length + 1 + 7; omega))
  have st0 : A ++ (ob6 A.length :: [cA 0 40, cA 0 40, cA 0 40, cA 1 40, cA 0 160, cA 0 400, cA 0 601]) = A ++ (ob6 A.length :: [cA 0 40, cA 0 40, cA 0 40, cA 1 40, cA 0 160, cA 0 400, cA 0 601]) := rfl
  change okC (A ++ (ob6 A.length :: [cA 0 40, cA 0 40, cA 0 40, cA 1 40, cA 0 160, cA 0 400, cA 0 601])) at hok
  change EC MX6_init 63 [(0, .ref A.length)] [] (cLs (A ++ (ob6 A.length :: [cA 0 40, cA 0 40, cA 0 40, cA 1 40, cA 0 160, cA 0 400, cA 0 601]))) d 0 0 K
  refine EC_aload_n (pc2 := 64) rfl dX6_init_63 0 h0 ?_
  refine CW_getr (A := A) (k := 4) (r := A.length + 5) ⟨gfRX6_25, rfl⟩ rfl dX6_init_64 (pc2 := 67) rfl rfl ?_
  refine EC_bipush (pc2 := 69) (v := 100) rfl dX6_init_67 (by decide) ?_
  refine EC_invS (M' := MJ7_fill_53178) (As := [.ref (A.length + 5), .int 100]) (rest := []) mlRX6_34.1 mlRX6_34.2 (pc2 := 72) rfl okJ7_fill_53178 dX6_init_69 rfl rfl (Nat.le_of_ble_eq_true rfl) (Nat.le_of_ble_eq_true rfl) (d' := 0) (by omega) (bc1 := 0) (bs1 := 0) (Nat.zero_add _) (Nat.zero_add _) (Or.inl rfl) ?_
  refine eFill (A := A) (Y := ob6 A.length :: [cA 0 40, cA 0 40, cA 0 40, cA 1 40, cA 0 160, cA 0 400, cA 0 601]) (j := 5) (N := 160) (v := nI 100) (by show 5 < 8; decide) rfl (by decide) ?_
  change EC MX6_init 72 [(0, .ref A.length)] [] (cLs (A ++ (ob6 A.length :: [cA 0 40, cA 0 40, cA 0 40, cA 1 40, flC (cA 0 160) 160 (nI 100), cA 0 400, cA 0 601]))) d 0 0 K
  refine EC_aload_n (pc2 := 73) rfl dX6_init_72 0 h0 ?_
  refine CW_getr (A := A) (k := 5) (r := A.length + 6) ⟨gfRX6_28, rfl⟩ rfl dX6_init_73 (pc2 := 76) rfl rfl ?_
  refine EC_ldc cw6_40 (pc2 := 78) rfl dX6_init_76 ?_
  refine EC_invS (M' := MJ7_fill_53178) (As := [.ref (A.length + 6), .int 1000000]) (rest := []) mlRX6_34.1 mlRX6_34.2 (pc2 := 81) rfl okJ7_fill_53178 dX6_init_78 rfl rfl (Nat.le_of_ble_eq_true rfl) (Nat.le_of_ble_eq_true rfl) (d' := 0) (by omega) (bc1 := 0) (bs1 := 0) (Nat.zero_add _) (Nat.zero_add _) (Or.inl rfl) ?_
  refine eFill (A := A) (Y := ob6 A.length :: [cA 0 40, cA 0 40, cA 0 40, cA 1 40, flC (cA 0 160) 160 (nI 100), cA 0 400, cA 0 601]) (j := 6) (N := 400) (v := nI 1000000) (by show 6 < 8; decide) rfl (by decide) ?_
  change EC MX6_init 81 [(0, .ref A.length)] [] (cLs (A ++ (ob6 A.length :: [cA 0 40, cA 0 40, cA 0 40, cA 1 40, flC (cA 0 160) 160 (nI 100), flC (cA 0 400) 400 (nI 1000000), cA 0 601]))) d 0 0 K
  rw [wkA_0]
  refine EC_iconst (pc2 := 82) (v := 0) rfl dX6_init_81 (by decide) ?_
  refine EC_istore_n (pc2 := 83) rfl dX6_init_82 (by decide) [1, 0] [(0, .ref A.length), (1, .int 0)] rfl ?_
  have hfin : okC (A ++ mk6 A.length) := by
    have h1 := okC_setj (j := 5) (x := flC (cA 0 160) 160 (nI 100)) hok (by show 5 < 8; decide) (fun k r e => by cases e)
    have h2 := okC_setj (j := 6) (x := wkA 20) h1 (by show 6 < 8; decide) (fun k r e => by cases e)
    exact h2
  have lp : ∀ m i, i + m = 20 → EC MX6_init 83 [(0, .ref A.length), (1, .int (nI i))] [] (cLs (A ++ (ob6 A.length :: [cA 0 40, cA 0 40, cA 0 40, cA 1 40, flC (cA 0 160) 160 (nI 100), wkA i, cA 0 601]))) d 0 0 K := by
    intro m
    induction m with
    | zero =>
      intro i hi
      have e : i = 20 := by omega
      subst e
      refine EC_iload_n (pc2 := 84) rfl dX6_init_83 1 rfl ?_
      refine EC_bipush (pc2 := 86) (v := 20) rfl dX6_init_84 (by decide) ?_
      refine EC_icmp_ge (tgt := 107) (pc2 := 89) rfl dX6_init_86 (by decide) (fun _ => ?_) (fun q => absurd (by decide) q)
      exact EC_vret rfl dX6_init_107 (k hfin)
    | succ m ih =>
      intro i hi
      refine EC_iload_n (pc2 := 84) rfl dX6_init_83 1 rfl ?_
      refine EC_bipush (pc2 := 86) (v := 20) rfl dX6_init_84 (by decide) ?_
      refine EC_icmp_ge (tgt := 107) (pc2 := 89) rfl dX6_init_86 (by decide) (fun q => absurd q ?_) (fun _ => ?_)
      · show ¬ nI 20 ≤ nI i
        rw [nI_leI (by omega) (by omega)]; omega
      refine EC_aload_n (pc2 := 90) rfl dX6_init_89 0 rfl ?_
      refine CW_getr (A := A) (k := 5) (r := A.length + 6) ⟨gfRX6_28, rfl⟩ rfl dX6_init_90 (pc2 := 93) rfl rfl ?_
      refine EC_iload_n (pc2 := 94) rfl dX6_init_93 1 rfl ?_
      refine EC_bipush (pc2 := 96) (v := 20) rfl dX6_init_94 (by decide) ?_
      refine EC_imul (pc2 := 97) rfl dX6_init_96 ?_
      refine EC_iload_n (pc2 := 98) rfl dX6_init_97 1 rfl ?_
      refine EC_iadd (pc2 := 99) rfl dX6_init_98 ?_
      refine EC_iconst (pc2 := 100) (v := 0) rfl dX6_init_99 (by decide) ?_
      have ei : nI i * 20 + nI i = nI (i * 20 + i) := by
        show nI i * nI 20 + nI i = _
        rw [pk_mul, nI_add]
      rw [ei]
      have hb : A.length + 6 < (A ++ (ob6 A.length :: [cA 0 40, cA 0 40, cA 0 40, cA 1 40, flC (cA 0 160) 160 (nI 100), wkA i, cA 0 601])).length := by rw [List.length_append]; show A.length + 6 < A.length + 8; omega
      refine EC_iast (n := 400) (pc2 := 101) rfl dX6_init_100 hb ?_ (vp_in_nI (by omega) (by omega)) ?_
      · show ((A ++ (ob6 A.length :: [cA 0 40, cA 0 40, cA 0 40, cA 1 40, flC (cA 0 160) 160 (nI 100), wkA i, cA 0 601])).getD (A.length + 6) cd0).1 = _
        rw [cgD_j]; rfl
      rw [nI_clamp (by omega), cLs_ui hb, cgD_j, cset_j]
      refine EC_iinc (nI (i + 1)) (pc2 := 104) rfl dX6_init_101 1 rfl (nI_add i 1) (by decide) [1, 0] [(0, .ref A.length), (1, .int (nI (i + 1)))] rfl ?_
      refine EC_goto (tgt := 83) dX6_init_104 (by decide) ?_
      have ew := wkA_s (i := i) (by omega)
      have := ih (i + 1) (by omega)
      rw [← ew] at this
      exact this
  exact lp 20 0 rfl
abbrev MX8_init : ab_M := (yX8_init, cX8_init, 1, none)
theorem dX8_init_0 : decode cX8_init 0 = .ok (.aload_n 0, 1) := by decide +kernel
theorem dX8_init_1 : decode cX8_init 1 = .ok (.invokespecial 3, 3) := by decide +kernel
theorem dX8_init_4 : decode cX8_init 4 = .ok (.aload_n 0, 1) := by decide +kernel
theorem dX8_init_5 : decode cX8_init 5 = .ok (.sipush 200, 3) := by decide +kernel
theorem dX8_init_8 : decode cX8_init 8 = .ok (.newarray .int, 2) := by decide +kernel
theorem dX8_init_10 : decode cX8_init 10 = .ok (.putfield 9, 3) := by decide +kernel
theorem dX8_init_13 : decode cX8_init 13 = .ok (.aload_n 0, 1) := by decide +kernel
theorem dX8_init_14 : decode cX8_init 14 = .ok (.ldc 15, 2) := by decide +kernel
theorem dX8_init_16 : decode cX8_init 16 = .ok (.putfield 17, 3) := by decide +kernel
theorem dX8_init_19 : decode cX8_init 19 = .ok (.aload_n 0, 1) := by decide +kernel
theorem dX8_init_20 : decode cX8_init 20 = .ok (.new 21, 3) := by decide +kernel
theorem dX8_init_23 : decode cX8_init 23 = .ok (.dup, 1) := by decide +kernel
theorem dX8_init_24 : decode cX8_init 24 = .ok (.invokespecial 23, 3) := by decide +kernel
theorem dX8_init_27 : decode cX8_init 27 = .ok (.putfield 24, 3) := by decide +kernel
theorem dX8_init_30 : decode cX8_init 30 = .ok (.return_, 1) := by decide +kernel
theorem okX8_init : ab_okM MX8_init 0 := ⟨by decide, ⟨by decide, by decide⟩, ab_in 596 (by decide +kernel) (by decide +kernel), ab_in 96 (by decide +kernel) (by decide +kernel), by decide +kernel, by decide⟩
def mk8 (n : Nat) : List CellD := (sR (sR (sR (cO 8) 0 (n + 1 + 0)) 3 1000000) 4 (n + 1 + 1)) :: ((([] ++ [cA 0 200]) ++ mk9 (n + 1 + 1)))
theorem mk8_pos (n : Nat) : 1 ≤ (mk8 n).length := by show 1 ≤ 7; decide
set_option maxHeartbeats 4000000 in
theorem iX8_init (A : List CellD) {n : Nat} (hn : A.length = n) (hA : n < 500000) (hok : okC (A ++ [cO 8])) (d : Nat) (hd : 2 ≤ d) (K : Option Value → ab_St → Prop) (k : okC (A ++ mk8 n) → K none (cLs (A ++ mk8 n))) : EC MX8_init 0 [(0, .ref n)] [] (cLs (A ++ [cO 8])) d 6 495 K := by
  subst hn
  have h0 : ([(0, .ref A.length)] : List (Nat × Value))[0]? = some (0, .ref A.length) := rfl
  have hv : lvO A.length [(0, .ref A.length)] := lvO_r (Nat.le_refl _) lvO_n
  refine EC_aload_n (pc2 := 1) rfl dX8_init_0 0 h0 ?_
  refine EC_objInit oiRX8 (pc2 := 4) rfl dX8_init_1 (by decide) (by omega) ?_
  refine EC_aload_n (pc2 := 5) rfl dX8_init_4 0 h0 ?_
  refine EC_sipush (pc2 := 8) (v := 200) rfl dX8_init_5 (by decide) ?_
  refine CW_arrI (A := A) (N := 200) (b := 5) (s' := 295) ac_I ⟨by decide, by decide, by decide⟩ dX8_init_8 (pc2 := 10) rfl hv (nr1 (by omega)) hok (by show A.length + 0 < 900000; omega) (fun hok => ?_)
  refine CW_putr (A := A) (k := 0) ⟨gfRX8_9, rfl, fun _ => rfl, fun _ => rfl, rfl, Or.inr ⟨rfl, rfl⟩⟩ dX8_init_10 (pc2 := 13) rfl rfl ?_
  replace hok := okC_sR (k := 0) (r := A.length + 1 + 0) hok (Or.inl (by show A.length + 1 + 0 < A.length + 1 + 1; omega))
  refine EC_aload_n (pc2 := 14) rfl dX8_init_13 0 h0 ?_
  refine EC_str_T15 rfl (pc2 := 16) rfl dX8_init_14 ?_
  refine CW_putr (A := A) (k := 3) ⟨gfRX8_17, rfl, fun _ => rfl, fun _ => rfl, rfl, Or.inl rfl⟩ dX8_init_16 (pc2 := 19) rfl rfl ?_
  replace hok := okC_sR (k := 3) (r := 1000000) hok (Or.inr (Nat.le_refl _))
  refine CW_subN (A := A) (Mj := MX9_init) (mk := mk9) (k := 4) (ci := 8) (cj := 9) (bcj := 4) (bsj := 285) (dj := 1) (b := 0) (s' := 0) (m := 1) rfl mk9_pos (fun A' n' K' a1 a2 a3 a4 => iX9_init A' a1 a2 a3 1 (by decide) K' a4) (by decide) cnRX8_21 ilRX8_23.1 ilRX8_23.2 rfl rfl okX9_init (by decide) (by omega) ⟨gfRX8_24, rfl, fun _ => rfl, fun _ => rfl, rfl, Or.inr ⟨rfl, rfl⟩⟩ dX8_init_19 rfl dX8_init_20 rfl dX8_init_23 rfl dX8_init_24 rfl dX8_init_27 rfl h0 hv rfl hok (by omega) (fun hok => ?_)
  exact EC_vret rfl dX8_init_30 (k hok)
def ob10 (n : Nat) (a1 : Nat) : CellD := sR (sR (sR (sR (sR (sR (sR (cO 10) 1 (n + 1 + 0)) 3 (n + 1 + 1)) 4 (n + 1 + 9)) 5 (n + 1 + 17)) 7 (n + 1 + 18)) 8 (n + 1 + 19)) 0 a1
def po10 (n : Nat) : List CellD := (mk3 (n + 1 + 1) ++ mk3 (n + 1 + 9) ++ [cA 0 6] ++ [cA 0 20] ++ [cA 0 20])
def mk10 (n : Nat) (a1 : Nat) : List CellD := ob10 n a1 :: ([] ++ rwA 5 12 (n + 21) 3 12 :: (po10 n ++ flL (fun a b => mk4 a (nI b)) (n + 21) 3 12))
abbrev MX10_init : ab_M := (yX10_init, cX10_init, 3, none)
theorem dX10_init_0 : decode cX10_init 0 = .ok (.aload_n 0, 1) := by decide +kernel
theorem dX10_init_1 : decode cX10_init 1 = .ok (.invokespecial 3, 3) := by decide +kernel
theorem dX10_init_4 : decode cX10_init 4 = .ok (.aload_n 0, 1) := by decide +kernel
theorem dX10_init_5 : decode cX10_init 5 = .ok (.bipush 12, 2) := by decide +kernel
theorem dX10_init_7 : decode cX10_init 7 = .ok (.anewarray 9, 3) := by decide +kernel
theorem dX10_init_10 : decode cX10_init 10 = .ok (.putfield 11, 3) := by decide +kernel
theorem dX10_init_13 : decode cX10_init 13 = .ok (.aload_n 0, 1) := by decide +kernel
theorem dX10_init_14 : decode cX10_init 14 = .ok (.new 17, 3) := by decide +kernel
theorem dX10_init_17 : decode cX10_init 17 = .ok (.dup, 1) := by decide +kernel
theorem dX10_init_18 : decode cX10_init 18 = .ok (.invokespecial 19, 3) := by decide +kernel
theorem dX10_init_21 : decode cX10_init 21 = .ok (.putfield 20, 3) := by decide +kernel
theorem dX10_init_24 : decode cX10_init 24 = .ok (.aload_n 0, 1) := by decide +kernel
theorem dX10_init_25 : decode cX10_init 25 = .ok (.new 17, 3) := by decide +kernel
theorem dX10_init_28 : decode cX10_init 28 = .ok (.dup, 1) := by decide +kernel
theorem dX10_init_29 : decode cX10_init 29 = .ok (.invokespecial 19, 3) := by decide +kernel
theorem dX10_init_32 : decode cX10_init 32 = .ok (.putfield 24, 3) := by decide +kernel
theorem dX10_init_35 : decode cX10_init 35 = .ok (.aload_n 0, 1) := by decide +kernel
theorem dX10_init_36 : decode cX10_init 36 = .ok (.bipush 6, 2) := by decide +kernel
theorem dX10_init_38 : decode cX10_init 38 = .ok (.newarray .int, 2) := by decide +kernel
theorem dX10_init_40 : decode cX10_init 40 = .ok (.putfield 27, 3) := by decide +kernel
theorem dX10_init_43 : decode cX10_init 43 = .ok (.aload_n 0, 1) := by decide +kernel
theorem dX10_init_44 : decode cX10_init 44 = .ok (.bipush 20, 2) := by decide +kernel
theorem dX10_init_46 : decode cX10_init 46 = .ok (.newarray .int, 2) := by decide +kernel
theorem dX10_init_48 : decode cX10_init 48 = .ok (.putfield 31, 3) := by decide +kernel
theorem dX10_init_51 : decode cX10_init 51 = .ok (.aload_n 0, 1) := by decide +kernel
theorem dX10_init_52 : decode cX10_init 52 = .ok (.bipush 20, 2) := by decide +kernel
theorem dX10_init_54 : decode cX10_init 54 = .ok (.newarray .int, 2) := by decide +kernel
theorem dX10_init_56 : decode cX10_init 56 = .ok (.putfield 34, 3) := by decide +kernel
theorem dX10_init_59 : decode cX10_init 59 = .ok (.aload_n 0, 1) := by decide +kernel
theorem dX10_init_60 : decode cX10_init 60 = .ok (.aload_n 1, 1) := by decide +kernel
theorem dX10_init_61 : decode cX10_init 61 = .ok (.putfield 37, 3) := by decide +kernel
theorem dX10_init_64 : decode cX10_init 64 = .ok (.iconst 0, 1) := by decide +kernel
theorem dX10_init_65 : decode cX10_init 65 = .ok (.istore_n 2, 1) := by decide +kernel
theorem dX10_init_66 : decode cX10_init 66 = .ok (.iload_n 2, 1) := by decide +kernel
theorem dX10_init_67 : decode cX10_init 67 = .ok (.bipush 12, 2) := by decide +kernel
theorem dX10_init_69 : decode cX10_init 69 = .ok (.if_icmp .ge 23, 3) := by decide +kernel
theorem dX10_init_72 : decode cX10_init 72 = .ok (.aload_n 0, 1) := by decide +kernel
theorem dX10_init_73 : decode cX10_init 73 = .ok (.getfield 11, 3) := by decide +kernel
theorem dX10_init_76 : decode cX10_init 76 = .ok (.iload_n 2, 1) := by decide +kernel
theorem dX10_init_77 : decode cX10_init 77 = .ok (.new 9, 3) := by decide +kernel
theorem dX10_init_80 : decode cX10_init 80 = .ok (.dup, 1) := by decide +kernel
theorem dX10_init_81 : decode cX10_init 81 = .ok (.iload_n 2, 1) := by decide +kernel
theorem dX10_init_82 : decode cX10_init 82 = .ok (.invokespecial 41, 3) := by decide +kernel
theorem dX10_init_85 : decode cX10_init 85 = .ok (.aastore, 1) := by decide +kernel
theorem dX10_init_86 : decode cX10_init 86 = .ok (.iinc 2 1, 3) := by decide +kernel
theorem dX10_init_89 : decode cX10_init 89 = .ok (.goto (-23), 3) := by decide +kernel
theorem dX10_init_92 : decode cX10_init 92 = .ok (.return_, 1) := by decide +kernel
theorem okX10_init : ab_okM MX10_init 1 := ⟨by decide, ⟨by decide, by decide⟩, ab_in 165 (by decide +kernel) (by decide +kernel), ab_in 89 (by decide +kernel) (by decide +kernel), by decide +kernel, by decide⟩
theorem mk10_pos (n : Nat) (a1 : Nat) : 1 ≤ (mk10 n a1).length := Nat.succ_le_succ (Nat.zero_le _)
set_option maxHeartbeats 8000000 in
theorem iX10_init (A : List CellD) {n : Nat} (a1 : Nat) (hn : A.length = n) (hr1 : a1 < n) (hA : n < 500000) (hok : okC (A ++ [cO 10])) (d : Nat) (hd : 2 ≤ d) (K : Option Value → ab_St → Prop) (k : okC (A ++ mk10 n a1) → K none (cLs (A ++ mk10 n a1))) : EC MX10_init 0 [(0, .ref n), (1, .ref a1)] [] (cLs (A ++ [cO 10])) d 56 3158 K := by
  subst hn
  have h0 : ([(0, .ref A.length), (1, .ref a1)] : List (Nat × Value))[0]? = some (0, .ref A.length) := rfl
  have hv : lvO A.length [(0, .ref A.length), (1, .ref a1)] := lvO_r (Nat.le_refl _) (lvO_r (by omega) lvO_n)
  refine EC_aload_n (pc2 := 1) rfl dX10_init_0 0 h0 ?_
  refine EC_objInit oiRX10 (pc2 := 4) rfl dX10_init_1 (by decide) (by omega) ?_
  refine EC_aload_n (pc2 := 5) rfl dX10_init_4 0 h0 ?_
  refine EC_bipush (pc2 := 7) (v := 12) rfl dX10_init_5 (by decide) ?_
  refine CW_anew5 (A := A) (N := 12) (b := 55) (s' := 3146) caRX10_9 ⟨by decide, by decide, by decide⟩ dX10_init_7 (pc2 := 10) rfl hv (nr1 (by omega)) hok (by show A.length + 0 < 900000; omega) (fun hok => ?_)
  refine CW_putr (A := A) (k := 1) ⟨gfRX10_11, rfl, fun _ => rfl, fun _ => rfl, rfl, Or.inr ⟨rfl, rfl⟩⟩ dX10_init_10 (pc2 := 13) rfl rfl ?_
  replace hok := okC_sR (k := 1) (r := A.length + 1 + 0) hok (Or.inl (by show A.length + 1 + 0 < A.length + 1 + 1; omega))
  refine CW_subN (A := A) (Mj := MX3_init) (mk := mk3) (k := 3) (ci := 10) (cj := 3) (bcj := 7) (bsj := 1368) (dj := 1) (b := 47) (s' := 1770) (m := 1) rfl mk3_pos (fun A' n' K' a1 a2 a3 a4 => iX3_init A' a1 a2 a3 1 (by decide) K' a4) (by decide) cnRX10_17 ilRX10_19.1 ilRX10_19.2 rfl rfl okX3_init (by decide) (by omega) ⟨gfRX10_20, rfl, fun _ => rfl, fun _ => rfl, rfl, Or.inr ⟨rfl, rfl⟩⟩ dX10_init_13 rfl dX10_init_14 rfl dX10_init_17 rfl dX10_init_18 rfl dX10_init_21 rfl h0 hv rfl hok (by omega) (fun hok => ?_)
  refine CW_subN (A := A) (Mj := MX3_init) (mk := mk3) (k := 4) (ci := 10) (cj := 3) (bcj := 7) (bsj := 1368) (dj := 1) (b := 39) (s' := 394) (m := 9) rfl mk3_pos (fun A' n' K' a1 a2 a3 a4 => iX3_init A' a1 a2 a3 1 (by decide) K' a4) (by decide) cnRX10_17 ilRX10_19.1 ilRX10_19.2 rfl rfl okX3_init (by decide) (by omega) ⟨gfRX10_24, rfl, fun _ => rfl, fun _ => rfl, rfl, Or.inr ⟨rfl, rfl⟩⟩ dX10_init_24 rfl dX10_init_25 rfl dX10_init_28 rfl dX10_init_29 rfl dX10_init_32 rfl h0 hv rfl hok (by omega) (fun hok => ?_)
  refine EC_aload_n (pc2 := 36) rfl dX10_init_35 0 h0 ?_
  refine EC_bipush (pc2 := 38) (v := 6) rfl dX10_init_36 (by decide) ?_
  refine CW_arrI (A := A) (N := 6) (b := 38) (s' := 388) ac_I ⟨by decide, by decide, by decide⟩ dX10_init_38 (pc2 := 40) rfl hv (nr1 (by omega)) hok (by show A.length + 17 < 900000; omega) (fun hok => ?_)
  refine CW_putr (A := A) (k := 5) ⟨gfRX10_27, rfl, fun _ => rfl, fun _ => rfl, rfl, Or.inr ⟨rfl, rfl⟩⟩ dX10_init_40 (pc2 := 43) rfl rfl ?_
  replace hok := okC_sR (k := 5) (r := A.length + 1 + 17) hok (Or.inl (by show A.length + 1 + 17 < A.length + 1 + 18; omega))
  refine EC_aload_n (pc2 := 44) rfl dX10_init_43 0 h0 ?_
  refine EC_bipush (pc2 := 46) (v := 20) rfl dX10_init_44 (by decide) ?_
  refine CW_arrI (A := A) (N := 20) (b := 37) (s' := 368) ac_I ⟨by decide, by decide, by decide⟩ dX10_init_46 (pc2 := 48) rfl hv (nr1 (by omega)) hok (by show A.length + 18 < 900000; omega) (fun hok => ?_)
  refine CW_putr (A := A) (k := 7) ⟨gfRX10_31, rfl, fun _ => rfl, fun _ => rfl, rfl, Or.inr ⟨rfl, rfl⟩⟩ dX10_init_48 (pc2 := 51) rfl rfl ?_
  replace hok := okC_sR (k := 7) (r := A.length + 1 + 18) hok (Or.inl (by show A.length + 1 + 18 < A.length + 1 + 19; omega))
  refine EC_aload_n (pc2 := 52) rfl dX10_init_51 0 h0 ?_
  refine EC_bipush (pc2 := 54) (v := 20) rfl dX10_init_52 (by decide) ?_
  refine CW_arrI (A := A) (N := 20) (b := 36) (s' := 348) ac_I ⟨by decide, by decide, by decide⟩ dX10_init_54 (pc2 := 56) rfl hv (nr1 (by omega)) hok (by show A.length + 19 < 900000; omega) (fun hok => ?_)
  refine CW_putr (A := A) (k := 8) ⟨gfRX10_34, rfl, fun _ => rfl, fun _ => rfl, rfl, Or.inr ⟨rfl, rfl⟩⟩ dX10_init_56 (pc2 := 59) rfl rfl ?_
  replace hok := okC_sR (k := 8) (r := A.length + 1 + 19) hok (Or.inl (by show A.length + 1 + 19 < A.length + 1 + 20; omega))
  refine EC_aload_n (pc2 := 60) rfl dX10_init_59 0 h0 ?_
  refine EC_aload_n (pc2 := 61) rfl dX10_init_60 1 rfl ?_
  refine CW_putr (A := A) (k := 0) ⟨gfRX10_37, rfl, fun _ => rfl, fun _ => rfl, rfl, Or.inr ⟨rfl, rfl⟩⟩ dX10_init_61 (pc2 := 64) rfl rfl ?_
  replace hok := okC_sR (k := 0) (r := a1) hok (Or.inl (by omega))
  change okC (A ++ ob10 A.length a1 :: ([] ++ cA 5 12 :: (po10 A.length ++ []))) at hok
  change EC MX10_init 64 [(0, .ref A.length), (1, .ref a1)] [] (cLs (A ++ ob10 A.length a1 :: ([] ++ cA 5 12 :: (po10 A.length ++ [])))) d _ _ K
  rw [← rwA_0 (h0 := A.length + 21) (w := 3)] at hok ⊢
  refine EC_iconst (pc2 := 65) (v := 0) rfl dX10_init_64 (by decide) ?_
  refine EC_istore_n (pc2 := 66) rfl dX10_init_65 (by decide) [1, 2, 0] [(0, .ref A.length), (1, .ref a1), (2, .int 0)] rfl ?_
  refine CW_loop (M := MX10_init) (A := A) (d := d) (K := K) (kk := 2) (q := 2) (N := 12) (t := 5) (w := 3) (bcj := 2) (bsj := 12) (j := 0) (h0 := A.length + 21) (p9 := 85) (p12 := 92) (b := 0) (s' := 0) (vN := 12) (o := ob10 A.length a1) (pre := ([] : List CellD)) (post := (po10 A.length)) (lvf := (fun v => [(0, .ref A.length), (1, .ref a1), (2, .int v)])) (mkf := (fun a b => mk4 a (nI b)))
    rfl (by show A.length + 1 + 0 + 1 + 19 = _; omega) (fun _ _ => rfl) (by decide) (fun _ _ => rfl) rfl (by decide) (by show A.length + 0 + 19 + 3 * 12 < 600000; omega)
    (fun _ => rfl) (fun _ => rfl) (fun _ => lvO_r (Nat.le_refl _) (lvO_r (by omega) (lvO_i lvO_n))) dX10_init_66 (p1 := 67) rfl (fun v st σ bc bs h => EC_bipush (pc2 := 69) (v := 12) rfl dX10_init_67 (by decide) h) dX10_init_69 (p3 := 72) rfl (by decide)
    dX10_init_72 (p4 := 73) rfl dX10_init_73 (p5 := 76) rfl ⟨gfRX10_11, rfl⟩ rfl rfl
    dX10_init_76 (p6 := 77) rfl (by decide) cnRX10_9 dX10_init_77 (p7 := 80) rfl dX10_init_80 (p8 := 81) rfl
    (fun A' n' i rest bc bs a1 a2 a3 a4 a5 a6 a7 a8 => by
      refine EC_iload_n (pc2 := 82) rfl dX10_init_81 2 rfl ?_
      refine EC_invI (M' := MX4_init) (As := [.int (nI i)]) (rest := rest) (b := n') ilRX10_41.1 ilRX10_41.2 rfl rfl (pc2 := 85) rfl okX4_init dX10_init_82 rfl rfl (Nat.le_of_ble_eq_true rfl) a7 (d' := 1) (by omega) rfl rfl (Or.inr ⟨by show ab_refs (A' ++ [cO 4]).length rest; rw [List.length_append, a1]; exact a6, by show ab_refs (A' ++ [cO 4]).length _; rw [List.length_append, a1]; exact lvO_rf (lvO_r (Nat.le_refl _) (lvO_r (by omega) (lvO_i lvO_n))) (by show A.length < n' + 1; omega)⟩) ?_
      exact iX4_init A' (nI i) a1 a2 a5 1 (by decide) _ a8)
    (fun a b c d e h => EC_aast5 (pc2 := 86) rfl dX10_init_85 a b c d e h)
    (fun v σ bc bs h => EC_iinc (v + 1) (pc2 := 89) rfl dX10_init_86 2 rfl rfl (by decide) [1, 2, 0] [(0, .ref A.length), (1, .ref a1), (2, .int (v + 1))] rfl h) dX10_init_89 (by decide)
    (fun hok => ?_) 12 0 rfl hok
  exact EC_vret rfl dX10_init_92 (k hok)
def ob0 (n : Nat) (a1 a2 : Nat) : CellD := sR (sR (sR (sR (sR (sR (sR (sR (sR (cO 0) 2 (n + 1 + 0)) 4 (n + 1 + 1)) 6 (n + 1 + 2)) 8 (n + 1 + 7)) 9 (n + 1 + 12)) 10 (n + 1 + 13)) 11 (n + 1 + 14)) 0 a1) 1 a2
def po0 (n : Nat) : List CellD := (mk9 (n + 1 + 2) ++ mk9 (n + 1 + 7) ++ [cA 0 11] ++ [cA 0 16] ++ [cA 0 6])
def mk0 (n : Nat) (a1 a2 : Nat) : List CellD := ob0 n a1 a2 :: ([rwA 6 16 (n + 16) 1 16] ++ rwA 7 60 (n + 32) 1 60 :: ((po0 n ++ flL (fun a _ => mk2 a) (n + 16) 1 16) ++ flL (fun a _ => mk1 a) (n + 32) 1 60))
abbrev MX0_init : ab_M := (yX0_init, cX0_init, 4, none)
theorem dX0_init_0 : decode cX0_init 0 = .ok (.aload_n 0, 1) := by decide +kernel
theorem dX0_init_1 : decode cX0_init 1 = .ok (.invokespecial 3, 3) := by decide +kernel
theorem dX0_init_4 : decode cX0_init 4 = .ok (.aload_n 0, 1) := by decide +kernel
theorem dX0_init_5 : decode cX0_init 5 = .ok (.bipush 16, 2) := by decide +kernel
theorem dX0_init_7 : decode cX0_init 7 = .ok (.anewarray 9, 3) := by decide +kernel
theorem dX0_init_10 : decode cX0_init 10 = .ok (.putfield 11, 3) := by decide +kernel
theorem dX0_init_13 : decode cX0_init 13 = .ok (.aload_n 0, 1) := by decide +kernel
theorem dX0_init_14 : decode cX0_init 14 = .ok (.bipush 60, 2) := by decide +kernel
theorem dX0_init_16 : decode cX0_init 16 = .ok (.anewarray 17, 3) := by decide +kernel
theorem dX0_init_19 : decode cX0_init 19 = .ok (.putfield 19, 3) := by decide +kernel
theorem dX0_init_22 : decode cX0_init 22 = .ok (.aload_n 0, 1) := by decide +kernel
theorem dX0_init_23 : decode cX0_init 23 = .ok (.new 23, 3) := by decide +kernel
theorem dX0_init_26 : decode cX0_init 26 = .ok (.dup, 1) := by decide +kernel
theorem dX0_init_27 : decode cX0_init 27 = .ok (.invokespecial 25, 3) := by decide +kernel
theorem dX0_init_30 : decode cX0_init 30 = .ok (.putfield 26, 3) := by decide +kernel
theorem dX0_init_33 : decode cX0_init 33 = .ok (.aload_n 0, 1) := by decide +kernel
theorem dX0_init_34 : decode cX0_init 34 = .ok (.new 23, 3) := by decide +kernel
theorem dX0_init_37 : decode cX0_init 37 = .ok (.dup, 1) := by decide +kernel
theorem dX0_init_38 : decode cX0_init 38 = .ok (.invokespecial 25, 3) := by decide +kernel
theorem dX0_init_41 : decode cX0_init 41 = .ok (.putfield 30, 3) := by decide +kernel
theorem dX0_init_44 : decode cX0_init 44 = .ok (.aload_n 0, 1) := by decide +kernel
theorem dX0_init_45 : decode cX0_init 45 = .ok (.bipush 11, 2) := by decide +kernel
theorem dX0_init_47 : decode cX0_init 47 = .ok (.newarray .int, 2) := by decide +kernel
theorem dX0_init_49 : decode cX0_init 49 = .ok (.putfield 35, 3) := by decide +kernel
theorem dX0_init_52 : decode cX0_init 52 = .ok (.aload_n 0, 1) := by decide +kernel
theorem dX0_init_53 : decode cX0_init 53 = .ok (.bipush 16, 2) := by decide +kernel
theorem dX0_init_55 : decode cX0_init 55 = .ok (.newarray .int, 2) := by decide +kernel
theorem dX0_init_57 : decode cX0_init 57 = .ok (.putfield 39, 3) := by decide +kernel
theorem dX0_init_60 : decode cX0_init 60 = .ok (.aload_n 0, 1) := by decide +kernel
theorem dX0_init_61 : decode cX0_init 61 = .ok (.bipush 6, 2) := by decide +kernel
theorem dX0_init_63 : decode cX0_init 63 = .ok (.newarray .int, 2) := by decide +kernel
theorem dX0_init_65 : decode cX0_init 65 = .ok (.putfield 42, 3) := by decide +kernel
theorem dX0_init_68 : decode cX0_init 68 = .ok (.aload_n 0, 1) := by decide +kernel
theorem dX0_init_69 : decode cX0_init 69 = .ok (.aload_n 1, 1) := by decide +kernel
theorem dX0_init_70 : decode cX0_init 70 = .ok (.putfield 45, 3) := by decide +kernel
theorem dX0_init_73 : decode cX0_init 73 = .ok (.aload_n 0, 1) := by decide +kernel
theorem dX0_init_74 : decode cX0_init 74 = .ok (.aload_n 2, 1) := by decide +kernel
theorem dX0_init_75 : decode cX0_init 75 = .ok (.putfield 49, 3) := by decide +kernel
theorem dX0_init_78 : decode cX0_init 78 = .ok (.iconst 0, 1) := by decide +kernel
theorem dX0_init_79 : decode cX0_init 79 = .ok (.istore_n 3, 1) := by decide +kernel
theorem dX0_init_80 : decode cX0_init 80 = .ok (.iload_n 3, 1) := by decide +kernel
theorem dX0_init_81 : decode cX0_init 81 = .ok (.bipush 16, 2) := by decide +kernel
theorem dX0_init_83 : decode cX0_init 83 = .ok (.if_icmp .ge 22, 3) := by decide +kernel
theorem dX0_init_86 : decode cX0_init 86 = .ok (.aload_n 0, 1) := by decide +kernel
theorem dX0_init_87 : decode cX0_init 87 = .ok (.getfield 11, 3) := by decide +kernel
theorem dX0_init_90 : decode cX0_init 90 = .ok (.iload_n 3, 1) := by decide +kernel
theorem dX0_init_91 : decode cX0_init 91 = .ok (.new 9, 3) := by decide +kernel
theorem dX0_init_94 : decode cX0_init 94 = .ok (.dup, 1) := by decide +kernel
theorem dX0_init_95 : decode cX0_init 95 = .ok (.invokespecial 53, 3) := by decide +kernel
theorem dX0_init_98 : decode cX0_init 98 = .ok (.aastore, 1) := by decide +kernel
theorem dX0_init_99 : decode cX0_init 99 = .ok (.iinc 3 1, 3) := by decide +kernel
theorem dX0_init_102 : decode cX0_init 102 = .ok (.goto (-22), 3) := by decide +kernel
theorem dX0_init_105 : decode cX0_init 105 = .ok (.iconst 0, 1) := by decide +kernel
theorem dX0_init_106 : decode cX0_init 106 = .ok (.istore_n 3, 1) := by decide +kernel
theorem dX0_init_107 : decode cX0_init 107 = .ok (.iload_n 3, 1) := by decide +kernel
theorem dX0_init_108 : decode cX0_init 108 = .ok (.bipush 60, 2) := by decide +kernel
theorem dX0_init_110 : decode cX0_init 110 = .ok (.if_icmp .ge 22, 3) := by decide +kernel
theorem dX0_init_113 : decode cX0_init 113 = .ok (.aload_n 0, 1) := by decide +kernel
theorem dX0_init_114 : decode cX0_init 114 = .ok (.getfield 19, 3) := by decide +kernel
theorem dX0_init_117 : decode cX0_init 117 = .ok (.iload_n 3, 1) := by decide +kernel
theorem dX0_init_118 : decode cX0_init 118 = .ok (.new 17, 3) := by decide +kernel
theorem dX0_init_121 : decode cX0_init 121 = .ok (.dup, 1) := by decide +kernel
theorem dX0_init_122 : decode cX0_init 122 = .ok (.invokespecial 54, 3) := by decide +kernel
theorem dX0_init_125 : decode cX0_init 125 = .ok (.aastore, 1) := by decide +kernel
theorem dX0_init_126 : decode cX0_init 126 = .ok (.iinc 3 1, 3) := by decide +kernel
theorem dX0_init_129 : decode cX0_init 129 = .ok (.goto (-22), 3) := by decide +kernel
theorem dX0_init_132 : decode cX0_init 132 = .ok (.return_, 1) := by decide +kernel
theorem okX0_init : ab_okM MX0_init 2 := ⟨by decide, ⟨by decide, by decide⟩, ab_in 355 (by decide +kernel) (by decide +kernel), ab_in 92 (by decide +kernel) (by decide +kernel), by decide +kernel, by decide⟩
theorem mk0_pos (n : Nat) (a1 a2 : Nat) : 1 ≤ (mk0 n a1 a2).length := Nat.succ_le_succ (Nat.zero_le _)
set_option maxHeartbeats 8000000 in
theorem iX0_init (A : List CellD) {n : Nat} (a1 : Nat) (a2 : Nat) (hn : A.length = n) (hr1 : a1 < n) (hr2 : a2 < n) (hA : n < 500000) (hok : okC (A ++ [cO 0])) (d : Nat) (hd : 2 ≤ d) (K : Option Value → ab_St → Prop) (k : okC (A ++ mk0 n a1 a2) → K none (cLs (A ++ mk0 n a1 a2))) : EC MX0_init 0 [(0, .ref n), (1, .ref a1), (2, .ref a2)] [] (cLs (A ++ [cO 0])) d 91 1559 K := by
  subst hn
  have h0 : ([(0, .ref A.length), (1, .ref a1), (2, .ref a2)] : List (Nat × Value))[0]? = some (0, .ref A.length) := rfl
  have hv : lvO A.length [(0, .ref A.length), (1, .ref a1), (2, .ref a2)] := lvO_r (Nat.le_refl _) (lvO_r (by omega) (lvO_r (by omega) lvO_n))
  refine EC_aload_n (pc2 := 1) rfl dX0_init_0 0 h0 ?_
  refine EC_objInit oiRX0 (pc2 := 4) rfl dX0_init_1 (by decide) (by omega) ?_
  refine EC_aload_n (pc2 := 5) rfl dX0_init_4 0 h0 ?_
  refine EC_bipush (pc2 := 7) (v := 16) rfl dX0_init_5 (by decide) ?_
  refine CW_anew6 (A := A) (N := 16) (b := 90) (s' := 1543) caRX0_9 ⟨by decide, by decide, by decide⟩ dX0_init_7 (pc2 := 10) rfl hv (nr1 (by omega)) hok (by show A.length + 0 < 900000; omega) (fun hok => ?_)
  refine CW_putr (A := A) (k := 2) ⟨gfRX0_11, rfl, fun _ => rfl, fun _ => rfl, rfl, Or.inr ⟨rfl, rfl⟩⟩ dX0_init_10 (pc2 := 13) rfl rfl ?_
  replace hok := okC_sR (k := 2) (r := A.length + 1 + 0) hok (Or.inl (by show A.length + 1 + 0 < A.length + 1 + 1; omega))
  refine EC_aload_n (pc2 := 14) rfl dX0_init_13 0 h0 ?_
  refine EC_bipush (pc2 := 16) (v := 60) rfl dX0_init_14 (by decide) ?_
  refine CW_anew7 (A := A) (N := 60) (b := 89) (s' := 1483) caRX0_17 ⟨by decide, by decide, by decide⟩ dX0_init_16 (pc2 := 19) rfl hv (nr1 (by omega)) hok (by show A.length + 1 < 900000; omega) (fun hok => ?_)
  refine CW_putr (A := A) (k := 4) ⟨gfRX0_19, rfl, fun _ => rfl, fun _ => rfl, rfl, Or.inr ⟨rfl, rfl⟩⟩ dX0_init_19 (pc2 := 22) rfl rfl ?_
  replace hok := okC_sR (k := 4) (r := A.length + 1 + 1) hok (Or.inl (by show A.length + 1 + 1 < A.length + 1 + 2; omega))
  refine CW_subN (A := A) (Mj := MX9_init) (mk := mk9) (k := 6) (ci := 0) (cj := 9) (bcj := 4) (bsj := 285) (dj := 1) (b := 84) (s' := 1188) (m := 2) rfl mk9_pos (fun A' n' K' a1 a2 a3 a4 => iX9_init A' a1 a2 a3 1 (by decide) K' a4) (by decide) cnRX0_23 ilRX0_25.1 ilRX0_25.2 rfl rfl okX9_init (by decide) (by omega) ⟨gfRX0_26, rfl, fun _ => rfl, fun _ => rfl, rfl, Or.inr ⟨rfl, rfl⟩⟩ dX0_init_22 rfl dX0_init_23 rfl dX0_init_26 rfl dX0_init_27 rfl dX0_init_30 rfl h0 hv rfl hok (by omega) (fun hok => ?_)
  refine CW_subN (A := A) (Mj := MX9_init) (mk := mk9) (k := 8) (ci := 0) (cj := 9) (bcj := 4) (bsj := 285) (dj := 1) (b := 79) (s' := 893) (m := 7) rfl mk9_pos (fun A' n' K' a1 a2 a3 a4 => iX9_init A' a1 a2 a3 1 (by decide) K' a4) (by decide) cnRX0_23 ilRX0_25.1 ilRX0_25.2 rfl rfl okX9_init (by decide) (by omega) ⟨gfRX0_30, rfl, fun _ => rfl, fun _ => rfl, rfl, Or.inr ⟨rfl, rfl⟩⟩ dX0_init_33 rfl dX0_init_34 rfl dX0_init_37 rfl dX0_init_38 rfl dX0_init_41 rfl h0 hv rfl hok (by omega) (fun hok => ?_)
  refine EC_aload_n (pc2 := 45) rfl dX0_init_44 0 h0 ?_
  refine EC_bipush (pc2 := 47) (v := 11) rfl dX0_init_45 (by decide) ?_
  refine CW_arrI (A := A) (N := 11) (b := 78) (s' := 882) ac_I ⟨by decide, by decide, by decide⟩ dX0_init_47 (pc2 := 49) rfl hv (nr1 (by omega)) hok (by show A.length + 12 < 900000; omega) (fun hok => ?_)
  refine CW_putr (A := A) (k := 9) ⟨gfRX0_35, rfl, fun _ => rfl, fun _ => rfl, rfl, Or.inr ⟨rfl, rfl⟩⟩ dX0_init_49 (pc2 := 52) rfl rfl ?_
  replace hok := okC_sR (k := 9) (r := A.length + 1 + 12) hok (Or.inl (by show A.length + 1 + 12 < A.length + 1 + 13; omega))
  refine EC_aload_n (pc2 := 53) rfl dX0_init_52 0 h0 ?_
  refine EC_bipush (pc2 := 55) (v := 16) rfl dX0_init_53 (by decide) ?_
  refine CW_arrI (A := A) (N := 16) (b := 77) (s' := 866) ac_I ⟨by decide, by decide, by decide⟩ dX0_init_55 (pc2 := 57) rfl hv (nr1 (by omega)) hok (by show A.length + 13 < 900000; omega) (fun hok => ?_)
  refine CW_putr (A := A) (k := 10) ⟨gfRX0_39, rfl, fun _ => rfl, fun _ => rfl, rfl, Or.inr ⟨rfl, rfl⟩⟩ dX0_init_57 (pc2 := 60) rfl rfl ?_
  replace hok := okC_sR (k := 10) (r := A.length + 1 + 13) hok (Or.inl (by show A.length + 1 + 13 < A.length + 1 + 14; omega))
  refine EC_aload_n (pc2 := 61) rfl dX0_init_60 0 h0 ?_
  refine EC_bipush (pc2 := 63) (v := 6) rfl dX0_init_61 (by decide) ?_
  refine CW_arrI (A := A) (N := 6) (b := 76) (s' := 860) ac_I ⟨by decide, by decide, by decide⟩ dX0_init_63 (pc2 := 65) rfl hv (nr1 (by omega)) hok (by show A.length + 14 < 900000; omega) (fun hok => ?_)
  refine CW_putr (A := A) (k := 11) ⟨gfRX0_42, rfl, fun _ => rfl, fun _ => rfl, rfl, Or.inr ⟨rfl, rfl⟩⟩ dX0_init_65 (pc2 := 68) rfl rfl ?_
  replace hok := okC_sR (k := 11) (r := A.length + 1 + 14) hok (Or.inl (by show A.length + 1 + 14 < A.length + 1 + 15; omega))
  refine EC_aload_n (pc2 := 69) rfl dX0_init_68 0 h0 ?_
  refine EC_aload_n (pc2 := 70) rfl dX0_init_69 1 rfl ?_
  refine CW_putr (A := A) (k := 0) ⟨gfRX0_45, rfl, fun _ => rfl, fun _ => rfl, rfl, Or.inr ⟨rfl, rfl⟩⟩ dX0_init_70 (pc2 := 73) rfl rfl ?_
  replace hok := okC_sR (k := 0) (r := a1) hok (Or.inl (by omega))
  refine EC_aload_n (pc2 := 74) rfl dX0_init_73 0 h0 ?_
  refine EC_aload_n (pc2 := 75) rfl dX0_init_74 2 rfl ?_
  refine CW_putr (A := A) (k := 1) ⟨gfRX0_49, rfl, fun _ => rfl, fun _ => rfl, rfl, Or.inr ⟨rfl, rfl⟩⟩ dX0_init_75 (pc2 := 78) rfl rfl ?_
  replace hok := okC_sR (k := 1) (r := a2) hok (Or.inl (by omega))
  change okC (A ++ ob0 A.length a1 a2 :: ([] ++ cA 6 16 :: ((cA 7 60 :: po0 A.length) ++ []))) at hok
  change EC MX0_init 78 [(0, .ref A.length), (1, .ref a1), (2, .ref a2)] [] (cLs (A ++ ob0 A.length a1 a2 :: ([] ++ cA 6 16 :: ((cA 7 60 :: po0 A.length) ++ [])))) d _ _ K
  rw [← rwA_0 (t := 6) (h0 := A.length + 16) (w := 1)] at hok ⊢
  refine EC_iconst (pc2 := 79) (v := 0) rfl dX0_init_78 (by decide) ?_
  refine EC_istore_n (pc2 := 80) rfl dX0_init_79 (by decide) [1, 2, 3, 0] [(0, .ref A.length), (1, .ref a1), (2, .ref a2), (3, .int 0)] rfl ?_
  refine CW_loop (M := MX0_init) (A := A) (d := d) (K := K) (kk := 3) (q := 3) (N := 16) (t := 6) (w := 1) (bcj := 0) (bsj := 0) (j := 0) (h0 := A.length + 16) (p9 := 98) (p12 := 105) (b := 60) (s' := 540) (vN := 16) (o := ob0 A.length a1 a2) (pre := ([] : List CellD)) (post := (cA 7 60 :: po0 A.length)) (lvf := (fun v => [(0, .ref A.length), (1, .ref a1), (2, .ref a2), (3, .int v)])) (mkf := (fun a _ => mk2 a))
    rfl (by show A.length + 1 + 0 + 1 + 14 = _; omega) (fun _ _ => rfl) (by decide) (fun _ _ => rfl) rfl (by decide) (by show A.length + 0 + 14 + 1 * 16 < 600000; omega)
    (fun _ => rfl) (fun _ => rfl) (fun _ => lvO_r (Nat.le_refl _) (lvO_r (by omega) (lvO_r (by omega) (lvO_i lvO_n)))) dX0_init_80 (p1 := 81) rfl (fun v st σ bc bs h => EC_bipush (pc2 := 83) (v := 16) rfl dX0_init_81 (by decide) h) dX0_init_83 (p3 := 86) rfl (by decide)
    dX0_init_86 (p4 := 87) rfl dX0_init_87 (p5 := 90) rfl ⟨gfRX0_11, rfl⟩ rfl rfl
    dX0_init_90 (p6 := 91) rfl (by decide) cnRX0_9 dX0_init_91 (p7 := 94) rfl dX0_init_94 (p8 := 95) rfl
    (fun A' n' i rest bc bs a1 a2 a3 a4 a5 a6 a7 a8 => by
      refine EC_invIN (M' := MX2_init) (As := []) (rest := rest) (b := n') ilRX0_53.1 ilRX0_53.2 rfl rfl (pc2 := 98) rfl okX2_init dX0_init_95 rfl rfl (Nat.le_of_ble_eq_true rfl) a7 (d' := 1) (by omega) rfl rfl (Or.inl rfl) ?_
      exact iX2_init A' a1 a2 a5 1 (by decide) _ a8)
    (fun a b c d e h => EC_aast6 (pc2 := 99) rfl dX0_init_98 a b c d e h)
    (fun v σ bc bs h => EC_iinc (v + 1) (pc2 := 102) rfl dX0_init_99 3 rfl rfl (by decide) [1, 2, 3, 0] [(0, .ref A.length), (1, .ref a1), (2, .ref a2), (3, .int (v + 1))] rfl h) dX0_init_102 (by decide)
    (fun hok => ?_) 16 0 rfl hok
  have ee : A ++ ob0 A.length a1 a2 :: ([] ++ rwA 6 16 (A.length + 16) 1 16 :: ((cA 7 60 :: po0 A.length) ++ flL (fun a _ => mk2 a) (A.length + 16) 1 16)) = A ++ ob0 A.length a1 a2 :: ([rwA 6 16 (A.length + 16) 1 16] ++ rwA 7 60 (A.length + 32) 1 0 :: ((po0 A.length ++ flL (fun a _ => mk2 a) (A.length + 16) 1 16) ++ [])) := by rw [rwA_0, List.append_nil]; rfl
  rw [ee] at hok ⊢
  refine EC_iconst (pc2 := 106) (v := 0) rfl dX0_init_105 (by decide) ?_
  refine EC_istore_n (pc2 := 107) rfl dX0_init_106 (by decide) [1, 2, 3, 0] [(0, .ref A.length), (1, .ref a1), (2, .ref a2), (3, .int 0)] rfl ?_
  refine CW_loop (M := MX0_init) (A := A) (d := d) (K := K) (kk := 3) (q := 3) (N := 60) (t := 7) (w := 1) (bcj := 0) (bsj := 0) (j := 1) (h0 := A.length + 32) (p9 := 125) (p12 := 132) (b := 0) (s' := 0) (vN := 60) (o := ob0 A.length a1 a2) (pre := [rwA 6 16 (A.length + 16) 1 16]) (post := (po0 A.length ++ flL (fun a _ => mk2 a) (A.length + 16) 1 16)) (lvf := (fun v => [(0, .ref A.length), (1, .ref a1), (2, .ref a2), (3, .int v)])) (mkf := (fun a _ => mk1 a))
    rfl (by show A.length + 1 + 1 + 1 + 29 = _; omega) (fun _ _ => rfl) (by decide) (fun _ _ => rfl) rfl (by decide) (by show A.length + 1 + 29 + 1 * 60 < 600000; omega)
    (fun _ => rfl) (fun _ => rfl) (fun _ => lvO_r (Nat.le_refl _) (lvO_r (by omega) (lvO_r (by omega) (lvO_i lvO_n)))) dX0_init_107 (p1 := 108) rfl (fun v st σ bc bs h => EC_bipush (pc2 := 110) (v := 60) rfl dX0_init_108 (by decide) h) dX0_init_110 (p3 := 113) rfl (by decide)
    dX0_init_113 (p4 := 114) rfl dX0_init_114 (p5 := 117) rfl ⟨gfRX0_19, rfl⟩ rfl rfl
    dX0_init_117 (p6 := 118) rfl (by decide) cnRX0_17 dX0_init_118 (p7 := 121) rfl dX0_init_121 (p8 := 122) rfl
    (fun A' n' i rest bc bs a1 a2 a3 a4 a5 a6 a7 a8 => by
      refine EC_invIN (M' := MX1_init) (As := []) (rest := rest) (b := n') ilRX0_54.1 ilRX0_54.2 rfl rfl (pc2 := 125) rfl okX1_init dX0_init_122 rfl rfl (Nat.le_of_ble_eq_true rfl) a7 (d' := 1) (by omega) rfl rfl (Or.inl rfl) ?_
      exact iX1_init A' a1 a2 a5 1 (by decide) _ a8)
    (fun a b c d e h => EC_aast7 (pc2 := 126) rfl dX0_init_125 a b c d e h)
    (fun v σ bc bs h => EC_iinc (v + 1) (pc2 := 129) rfl dX0_init_126 3 rfl rfl (by decide) [1, 2, 3, 0] [(0, .ref A.length), (1, .ref a1), (2, .ref a2), (3, .int (v + 1))] rfl h) dX0_init_129 (by decide)
    (fun hok => ?_) 60 0 rfl hok
  exact EC_vret rfl dX0_init_132 (k hok)
def ob5 (n : Nat) (a1 : Nat) : CellD := sR (sR (sR (sR (sR (sR (sR (sR (sR (cO 5) 1 (n + 1 + 0)) 2 (n + 1 + 1)) 3 (n + 1 + 2)) 5 (n + 1 + 3)) 6 (n + 1 + 4)) 7 (n + 1 + 5)) 8 (n + 1 + 6)) 10 (n + 1 + 7)) 0 a1
def po5 : List CellD := [cA 0 12, cA 0 12, cA 0 100, cA 0 100, cA 0 100, cA 0 100, cA 0 11]
def mk5 (n : Nat) (a1 : Nat) : List CellD := ob5 n a1 :: ([] ++ rwA 8 12 (n + 9) 5 12 :: (po5 ++ flL (fun a _ => mk9 a) (n + 9) 5 12))
abbrev MX5_init : ab_M := (yX5_init, cX5_init, 3, none)
theorem dX5_init_0 : decode cX5_init 0 = .ok (.aload_n 0, 1) := by decide +kernel
theorem dX5_init_1 : decode cX5_init 1 = .ok (.invokespecial 3, 3) := by decide +kernel
theorem dX5_init_4 : decode cX5_init 4 = .ok (.aload_n 0, 1) := by decide +kernel
theorem dX5_init_5 : decode cX5_init 5 = .ok (.bipush 12, 2) := by decide +kernel
theorem dX5_init_7 : decode cX5_init 7 = .ok (.anewarray 9, 3) := by decide +kernel
theorem dX5_init_10 : decode cX5_init 10 = .ok (.putfield 11, 3) := by decide +kernel
theorem dX5_init_13 : decode cX5_init 13 = .ok (.aload_n 0, 1) := by decide +kernel
theorem dX5_init_14 : decode cX5_init 14 = .ok (.bipush 12, 2) := by decide +kernel
theorem dX5_init_16 : decode cX5_init 16 = .ok (.newarray .int, 2) := by decide +kernel
theorem dX5_init_18 : decode cX5_init 18 = .ok (.putfield 17, 3) := by decide +kernel
theorem dX5_init_21 : decode cX5_init 21 = .ok (.aload_n 0, 1) := by decide +kernel
theorem dX5_init_22 : decode cX5_init 22 = .ok (.bipush 12, 2) := by decide +kernel
theorem dX5_init_24 : decode cX5_init 24 = .ok (.newarray .int, 2) := by decide +kernel
theorem dX5_init_26 : decode cX5_init 26 = .ok (.putfield 21, 3) := by decide +kernel
theorem dX5_init_29 : decode cX5_init 29 = .ok (.aload_n 0, 1) := by decide +kernel
theorem dX5_init_30 : decode cX5_init 30 = .ok (.bipush 100, 2) := by decide +kernel
theorem dX5_init_32 : decode cX5_init 32 = .ok (.newarray .int, 2) := by decide +kernel
theorem dX5_init_34 : decode cX5_init 34 = .ok (.putfield 24, 3) := by decide +kernel
theorem dX5_init_37 : decode cX5_init 37 = .ok (.aload_n 0, 1) := by decide +kernel
theorem dX5_init_38 : decode cX5_init 38 = .ok (.bipush 100, 2) := by decide +kernel
theorem dX5_init_40 : decode cX5_init 40 = .ok (.newarray .int, 2) := by decide +kernel
theorem dX5_init_42 : decode cX5_init 42 = .ok (.putfield 27, 3) := by decide +kernel
theorem dX5_init_45 : decode cX5_init 45 = .ok (.aload_n 0, 1) := by decide +kernel
theorem dX5_init_46 : decode cX5_init 46 = .ok (.bipush 100, 2) := by decide +kernel
theorem dX5_init_48 : decode cX5_init 48 = .ok (.newarray .int, 2) := by decide +kernel
theorem dX5_init_50 : decode cX5_init 50 = .ok (.putfield 30, 3) := by decide +kernel
theorem dX5_init_53 : decode cX5_init 53 = .ok (.aload_n 0, 1) := by decide +kernel
theorem dX5_init_54 : decode cX5_init 54 = .ok (.bipush 100, 2) := by decide +kernel
theorem dX5_init_56 : decode cX5_init 56 = .ok (.newarray .int, 2) := by decide +kernel
theorem dX5_init_58 : decode cX5_init 58 = .ok (.putfield 33, 3) := by decide +kernel
theorem dX5_init_61 : decode cX5_init 61 = .ok (.aload_n 0, 1) := by decide +kernel
theorem dX5_init_62 : decode cX5_init 62 = .ok (.bipush 11, 2) := by decide +kernel
theorem dX5_init_64 : decode cX5_init 64 = .ok (.newarray .int, 2) := by decide +kernel
theorem dX5_init_66 : decode cX5_init 66 = .ok (.putfield 38, 3) := by decide +kernel
theorem dX5_init_69 : decode cX5_init 69 = .ok (.aload_n 0, 1) := by decide +kernel
theorem dX5_init_70 : decode cX5_init 70 = .ok (.aload_n 1, 1) := by decide +kernel
theorem dX5_init_71 : decode cX5_init 71 = .ok (.putfield 41, 3) := by decide +kernel
theorem dX5_init_74 : decode cX5_init 74 = .ok (.iconst 0, 1) := by decide +kernel
theorem dX5_init_75 : decode cX5_init 75 = .ok (.istore_n 2, 1) := by decide +kernel
theorem dX5_init_76 : decode cX5_init 76 = .ok (.iload_n 2, 1) := by decide +kernel
theorem dX5_init_77 : decode cX5_init 77 = .ok (.bipush 12, 2) := by decide +kernel
theorem dX5_init_79 : decode cX5_init 79 = .ok (.if_icmp .ge 22, 3) := by decide +kernel
theorem dX5_init_82 : decode cX5_init 82 = .ok (.aload_n 0, 1) := by decide +kernel
theorem dX5_init_83 : decode cX5_init 83 = .ok (.getfield 11, 3) := by decide +kernel
theorem dX5_init_86 : decode cX5_init 86 = .ok (.iload_n 2, 1) := by decide +kernel
theorem dX5_init_87 : decode cX5_init 87 = .ok (.new 9, 3) := by decide +kernel
theorem dX5_init_90 : decode cX5_init 90 = .ok (.dup, 1) := by decide +kernel
theorem dX5_init_91 : decode cX5_init 91 = .ok (.invokespecial 45, 3) := by decide +kernel
theorem dX5_init_94 : decode cX5_init 94 = .ok (.aastore, 1) := by decide +kernel
theorem dX5_init_95 : decode cX5_init 95 = .ok (.iinc 2 1, 3) := by decide +kernel
theorem dX5_init_98 : decode cX5_init 98 = .ok (.goto (-22), 3) := by decide +kernel
theorem dX5_init_101 : decode cX5_init 101 = .ok (.return_, 1) := by decide +kernel
theorem okX5_init : ab_okM MX5_init 1 := ⟨by decide, ⟨by decide, by decide⟩, ab_in 624 (by decide +kernel) (by decide +kernel), ab_in 97 (by decide +kernel) (by decide +kernel), by decide +kernel, by decide⟩
theorem mk5_pos (n : Nat) (a1 : Nat) : 1 ≤ (mk5 n a1).length := Nat.succ_le_succ (Nat.zero_le _)
set_option maxHeartbeats 8000000 in
theorem iX5_init (A : List CellD) {n : Nat} (a1 : Nat) (hn : A.length = n) (hr1 : a1 < n) (hA : n < 500000) (hok : okC (A ++ [cO 5])) (d : Nat) (hd : 2 ≤ d) (K : Option Value → ab_St → Prop) (k : okC (A ++ mk5 n a1) → K none (cLs (A ++ mk5 n a1))) : EC MX5_init 0 [(0, .ref n), (1, .ref a1)] [] (cLs (A ++ [cO 5])) d 68 3987 K := by
  subst hn
  have h0 : ([(0, .ref A.length), (1, .ref a1)] : List (Nat × Value))[0]? = some (0, .ref A.length) := rfl
  have hv : lvO A.length [(0, .ref A.length), (1, .ref a1)] := lvO_r (Nat.le_refl _) (lvO_r (by omega) lvO_n)
  refine EC_aload_n (pc2 := 1) rfl dX5_init_0 0 h0 ?_
  refine EC_objInit oiRX5 (pc2 := 4) rfl dX5_init_1 (by decide) (by omega) ?_
  refine EC_aload_n (pc2 := 5) rfl dX5_init_4 0 h0 ?_
  refine EC_bipush (pc2 := 7) (v := 12) rfl dX5_init_5 (by decide) ?_
  refine CW_anew8 (A := A) (N := 12) (b := 67) (s' := 3975) caRX5_9 ⟨by decide, by decide, by decide⟩ dX5_init_7 (pc2 := 10) rfl hv (nr1 (by omega)) hok (by show A.length + 0 < 900000; omega) (fun hok => ?_)
  refine CW_putr (A := A) (k := 1) ⟨gfRX5_11, rfl, fun _ => rfl, fun _ => rfl, rfl, Or.inr ⟨rfl, rfl⟩⟩ dX5_init_10 (pc2 := 13) rfl rfl ?_
  replace hok := okC_sR (k := 1) (r := A.length + 1 + 0) hok (Or.inl (by show A.length + 1 + 0 < A.length + 1 + 1; omega))
  refine EC_aload_n (pc2 := 14) rfl dX5_init_13 0 h0 ?_
  refine EC_bipush (pc2 := 16) (v := 12) rfl dX5_init_14 (by decide) ?_
  refine CW_arrI (A := A) (N := 12) (b := 66) (s' := 3963) ac_I ⟨by decide, by decide, by decide⟩ dX5_init_16 (pc2 := 18) rfl hv (nr1 (by omega)) hok (by show A.length + 1 < 900000; omega) (fun hok => ?_)
  refine CW_putr (A := A) (k := 2) ⟨gfRX5_17, rfl, fun _ => rfl, fun _ => rfl, rfl, Or.inr ⟨rfl, rfl⟩⟩ dX5_init_18 (pc2 := 21) rfl rfl ?_
  replace hok := okC_sR (k := 2) (r := A.length + 1 + 1) hok (Or.inl (by show A.length + 1 + 1 < A.length + 1 + 2; omega))
  refine EC_aload_n (pc2 := 22) rfl dX5_init_21 0 h0 ?_
  refine EC_bipush (pc2 := 24) (v := 12) rfl dX5_init_22 (by decide) ?_
  refine CW_arrI (A := A) (N := 12) (b := 65) (s' := 3951) ac_I ⟨by decide, by decide, by decide⟩ dX5_init_24 (pc2 := 26) rfl hv (nr1 (by omega)) hok (by show A.length + 2 < 900000; omega) (fun hok => ?_)
  refine CW_putr (A := A) (k := 3) ⟨gfRX5_21, rfl, fun _ => rfl, fun _ => rfl, rfl, Or.inr ⟨rfl, rfl⟩⟩ dX5_init_26 (pc2 := 29) rfl rfl ?_
  replace hok := okC_sR (k := 3) (r := A.length + 1 + 2) hok (Or.inl (by show A.length + 1 + 2 < A.length + 1 + 3; omega))
  refine EC_aload_n (pc2 := 30) rfl dX5_init_29 0 h0 ?_
  refine EC_bipush (pc2 := 32) (v := 100) rfl dX5_init_30 (by decide) ?_
  refine CW_arrI (A := A) (N := 100) (b := 64) (s' := 3851) ac_I ⟨by decide, by decide, by decide⟩ dX5_init_32 (pc2 := 34) rfl hv (nr1 (by omega)) hok (by show A.length + 3 < 900000; omega) (fun hok => ?_)
  refine CW_putr (A := A) (k := 5) ⟨gfRX5_24, rfl, fun _ => rfl, fun _ => rfl, rfl, Or.inr ⟨rfl, rfl⟩⟩ dX5_init_34 (pc2 := 37) rfl rfl ?_
  replace hok := okC_sR (k := 5) (r := A.length + 1 + 3) hok (Or.inl (by show A.length + 1 + 3 < A.length + 1 + 4; omega))
  refine EC_aload_n (pc2 := 38) rfl dX5_init_37 0 h0 ?_
  refine EC_bipush (pc2 := 40) (v := 100) rfl dX5_init_38 (by decide) ?_
  refine CW_arrI (A := A) (N := 100) (b := 63) (s' := 3751) ac_I ⟨by decide, by decide, by decide⟩ dX5_init_40 (pc2 := 42) rfl hv (nr1 (by omega)) hok (by show A.length + 4 < 900000; omega) (fun hok => ?_)
  refine CW_putr (A := A) (k := 6) ⟨gfRX5_27, rfl, fun _ => rfl, fun _ => rfl, rfl, Or.inr ⟨rfl, rfl⟩⟩ dX5_init_42 (pc2 := 45) rfl rfl ?_
  replace hok := okC_sR (k := 6) (r := A.length + 1 + 4) hok (Or.inl (by show A.length + 1 + 4 < A.length + 1 + 5; omega))
  refine EC_aload_n (pc2 := 46) rfl dX5_init_45 0 h0 ?_
  refine EC_bipush (pc2 := 48) (v := 100) rfl dX5_init_46 (by decide) ?_
  refine CW_arrI (A := A) (N := 100) (b := 62) (s' := 3651) ac_I ⟨by decide, by decide, by decide⟩ dX5_init_48 (pc2 := 50) rfl hv (nr1 (by omega)) hok (by show A.length + 5 < 900000; omega) (fun hok => ?_)
  refine CW_putr (A := A) (k := 7) ⟨gfRX5_30, rfl, fun _ => rfl, fun _ => rfl, rfl, Or.inr ⟨rfl, rfl⟩⟩ dX5_init_50 (pc2 := 53) rfl rfl ?_
  replace hok := okC_sR (k := 7) (r := A.length + 1 + 5) hok (Or.inl (by show A.length + 1 + 5 < A.length + 1 + 6; omega))
  refine EC_aload_n (pc2 := 54) rfl dX5_init_53 0 h0 ?_
  refine EC_bipush (pc2 := 56) (v := 100) rfl dX5_init_54 (by decide) ?_
  refine CW_arrI (A := A) (N := 100) (b := 61) (s' := 3551) ac_I ⟨by decide, by decide, by decide⟩ dX5_init_56 (pc2 := 58) rfl hv (nr1 (by omega)) hok (by show A.length + 6 < 900000; omega) (fun hok => ?_)
  refine CW_putr (A := A) (k := 8) ⟨gfRX5_33, rfl, fun _ => rfl, fun _ => rfl, rfl, Or.inr ⟨rfl, rfl⟩⟩ dX5_init_58 (pc2 := 61) rfl rfl ?_
  replace hok := okC_sR (k := 8) (r := A.length + 1 + 6) hok (Or.inl (by show A.length + 1 + 6 < A.length + 1 + 7; omega))
  refine EC_aload_n (pc2 := 62) rfl dX5_init_61 0 h0 ?_
  refine EC_bipush (pc2 := 64) (v := 11) rfl dX5_init_62 (by decide) ?_
  refine CW_arrI (A := A) (N := 11) (b := 60) (s' := 3540) ac_I ⟨by decide, by decide, by decide⟩ dX5_init_64 (pc2 := 66) rfl hv (nr1 (by omega)) hok (by show A.length + 7 < 900000; omega) (fun hok => ?_)
  refine CW_putr (A := A) (k := 10) ⟨gfRX5_38, rfl, fun _ => rfl, fun _ => rfl, rfl, Or.inr ⟨rfl, rfl⟩⟩ dX5_init_66 (pc2 := 69) rfl rfl ?_
  replace hok := okC_sR (k := 10) (r := A.length + 1 + 7) hok (Or.inl (by show A.length + 1 + 7 < A.length + 1 + 8; omega))
  refine EC_aload_n (pc2 := 70) rfl dX5_init_69 0 h0 ?_
  refine EC_aload_n (pc2 := 71) rfl dX5_init_70 1 rfl ?_
  refine CW_putr (A := A) (k := 0) ⟨gfRX5_41, rfl, fun _ => rfl, fun _ => rfl, rfl, Or.inr ⟨rfl, rfl⟩⟩ dX5_init_71 (pc2 := 74) rfl rfl ?_
  replace hok := okC_sR (k := 0) (r := a1) hok (Or.inl (by omega))
  change okC (A ++ ob5 A.length a1 :: ([] ++ cA 8 12 :: (po5 ++ []))) at hok
  change EC MX5_init 74 [(0, .ref A.length), (1, .ref a1)] [] (cLs (A ++ ob5 A.length a1 :: ([] ++ cA 8 12 :: (po5 ++ [])))) d _ _ K
  rw [← rwA_0 (h0 := A.length + 9) (w := 5)] at hok ⊢
  refine EC_iconst (pc2 := 75) (v := 0) rfl dX5_init_74 (by decide) ?_
  refine EC_istore_n (pc2 := 76) rfl dX5_init_75 (by decide) [1, 2, 0] [(0, .ref A.length), (1, .ref a1), (2, .int 0)] rfl ?_
  refine CW_loop (M := MX5_init) (A := A) (d := d) (K := K) (kk := 2) (q := 2) (N := 12) (t := 8) (w := 5) (bcj := 4) (bsj := 285) (j := 0) (h0 := A.length + 9) (p9 := 94) (p12 := 101) (b := 0) (s' := 0) (vN := 12) (o := ob5 A.length a1) (pre := ([] : List CellD)) (post := po5) (lvf := (fun v => [(0, .ref A.length), (1, .ref a1), (2, .int v)])) (mkf := (fun a _ => mk9 a))
    rfl (by show A.length + 1 + 0 + 1 + 7 = _; omega) (fun _ _ => rfl) (by decide) (fun _ _ => rfl) rfl (by decide) (by show A.length + 0 + 7 + 5 * 12 < 600000; omega)
    (fun _ => rfl) (fun _ => rfl) (fun _ => lvO_r (Nat.le_refl _) (lvO_r (by omega) (lvO_i lvO_n))) dX5_init_76 (p1 := 77) rfl (fun v st σ bc bs h => EC_bipush (pc2 := 79) (v := 12) rfl dX5_init_77 (by decide) h) dX5_init_79 (p3 := 82) rfl (by decide)
    dX5_init_82 (p4 := 83) rfl dX5_init_83 (p5 := 86) rfl ⟨gfRX5_11, rfl⟩ rfl rfl
    dX5_init_86 (p6 := 87) rfl (by decide) cnRX5_9 dX5_init_87 (p7 := 90) rfl dX5_init_90 (p8 := 91) rfl
    (fun A' n' i rest bc bs a1 a2 a3 a4 a5 a6 a7 a8 => by
      refine EC_invIN (M' := MX9_init) (As := []) (rest := rest) (b := n') ilRX5_45.1 ilRX5_45.2 rfl rfl (pc2 := 94) rfl okX9_init dX5_init_91 rfl rfl (Nat.le_of_ble_eq_true rfl) a7 (d' := 1) (by omega) rfl rfl (Or.inr ⟨by show ab_refs (A' ++ [cO 9]).length rest; rw [List.length_append, a1]; exact a6, by show ab_refs (A' ++ [cO 9]).length _; rw [List.length_append, a1]; exact lvO_rf (lvO_r (Nat.le_refl _) (lvO_r (by omega) (lvO_i lvO_n))) (by show A.length < n' + 1; omega)⟩) ?_
      exact iX9_init A' a1 a2 a5 1 (by decide) _ a8)
    (fun a b c d e h => EC_aast8 (pc2 := 95) rfl dX5_init_94 a b c d e h)
    (fun v σ bc bs h => EC_iinc (v + 1) (pc2 := 98) rfl dX5_init_95 2 rfl rfl (by decide) [1, 2, 0] [(0, .ref A.length), (1, .ref a1), (2, .int (v + 1))] rfl h) dX5_init_98 (by decide)
    (fun hok => ?_) 12 0 rfl hok
  exact EC_vret rfl dX5_init_101 (k hok)
