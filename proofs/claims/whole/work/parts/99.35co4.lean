theorem oiRX11 : Cond.methodLink RX11 3 objectInit ∈ ab_G ∧ Cond.instanceMethod objectInit ∈ ab_G ∧ Cond.code objectInit ⟨#[0xb1]⟩ 1 none ∈ ab_G := ⟨ab_in 118 (by decide +kernel) (by decide +kernel), ab_in 119 (by decide +kernel) (by decide +kernel), ab_in 120 (by decide +kernel) (by decide +kernel)⟩
theorem ilRX11_11 : Cond.methodLink RX11 11 yX6_init ∈ ab_G ∧ Cond.instanceMethod yX6_init ∈ ab_G := ⟨ab_in 123 (by decide +kernel) (by decide +kernel), ab_in 124 (by decide +kernel) (by decide +kernel)⟩
theorem cnRX11_9 : Cond.classLink RX11 9 (ab_RX 6) ∈ ab_G ∧ Cond.instantiable (ab_RX 6) (ab_N 6) ∈ ab_G ∧ Cond.initialized (ab_RX 6) ∈ ab_G := ⟨ab_in 121 (by decide +kernel) (by decide +kernel), ab_in 122 (by decide +kernel) (by decide +kernel), ab_in 87 (by decide +kernel) (by decide +kernel)⟩
theorem ilRX11_18 : Cond.methodLink RX11 18 yX10_init ∈ ab_G ∧ Cond.instanceMethod yX10_init ∈ ab_G := ⟨ab_in 163 (by decide +kernel) (by decide +kernel), ab_in 164 (by decide +kernel) (by decide +kernel)⟩
theorem cnRX11_16 : Cond.classLink RX11 16 (ab_RX 10) ∈ ab_G ∧ Cond.instantiable (ab_RX 10) (ab_N 10) ∈ ab_G ∧ Cond.initialized (ab_RX 10) ∈ ab_G := ⟨ab_in 161 (by decide +kernel) (by decide +kernel), ab_in 162 (by decide +kernel) (by decide +kernel), ab_in 89 (by decide +kernel) (by decide +kernel)⟩
theorem ilRX11_27 : Cond.methodLink RX11 27 yX0_init ∈ ab_G ∧ Cond.instanceMethod yX0_init ∈ ab_G := ⟨ab_in 353 (by decide +kernel) (by decide +kernel), ab_in 354 (by decide +kernel) (by decide +kernel)⟩
theorem cnRX11_25 : Cond.classLink RX11 25 (ab_RX 0) ∈ ab_G ∧ Cond.instantiable (ab_RX 0) (ab_N 0) ∈ ab_G ∧ Cond.initialized (ab_RX 0) ∈ ab_G := ⟨ab_in 351 (by decide +kernel) (by decide +kernel), ab_in 352 (by decide +kernel) (by decide +kernel), ab_in 92 (by decide +kernel) (by decide +kernel)⟩
theorem ilRX11_36 : Cond.methodLinkNest RX11 36 yX8_init "CityBrigade" ∈ tables_1.filter ab_isN ∧ Cond.instanceMethod yX8_init ∈ ab_G := ⟨List.mem_filter.mpr ⟨List.mem_of_getElem? (i := 509) (by decide +kernel), rfl⟩, ab_in 595 (by decide +kernel) (by decide +kernel)⟩
theorem cnRX11_34 : Cond.classLink RX11 34 (ab_RX 8) ∈ ab_G ∧ Cond.instantiable (ab_RX 8) (ab_N 8) ∈ ab_G ∧ Cond.initialized (ab_RX 8) ∈ ab_G := ⟨ab_in 592 (by decide +kernel) (by decide +kernel), ab_in 593 (by decide +kernel) (by decide +kernel), ab_in 96 (by decide +kernel) (by decide +kernel)⟩
theorem ilRX11_43 : Cond.methodLink RX11 43 yX5_init ∈ ab_G ∧ Cond.instanceMethod yX5_init ∈ ab_G := ⟨ab_in 622 (by decide +kernel) (by decide +kernel), ab_in 623 (by decide +kernel) (by decide +kernel)⟩
theorem cnRX11_41 : Cond.classLink RX11 41 (ab_RX 5) ∈ ab_G ∧ Cond.instantiable (ab_RX 5) (ab_N 5) ∈ ab_G ∧ Cond.initialized (ab_RX 5) ∈ ab_G := ⟨ab_in 620 (by decide +kernel) (by decide +kernel), ab_in 621 (by decide +kernel) (by decide +kernel), ab_in 97 (by decide +kernel) (by decide +kernel)⟩
theorem ilRX11_52 : Cond.methodLink RX11 52 yX7_init ∈ ab_G ∧ Cond.instanceMethod yX7_init ∈ ab_G := ⟨ab_in 667 (by decide +kernel) (by decide +kernel), ab_in 668 (by decide +kernel) (by decide +kernel)⟩
theorem cnRX11_50 : Cond.classLink RX11 50 (ab_RX 7) ∈ ab_G ∧ Cond.instantiable (ab_RX 7) (ab_N 7) ∈ ab_G ∧ Cond.initialized (ab_RX 7) ∈ ab_G := ⟨ab_in 665 (by decide +kernel) (by decide +kernel), ab_in 666 (by decide +kernel) (by decide +kernel), ab_in 98 (by decide +kernel) (by decide +kernel)⟩
theorem CW_subA {M : ab_M} {pc : Nat} {lv : List (Nat × Value)} {A B : List CellD} {o : CellD} {d : Nat} {K : Option Value → ab_St → Prop} {idxn idxi idxf cj ci k bcj bsj dj na pc1 pc2 pc3 pc3b pc4 pc5 b s' m : Nat} {Mj : ab_M} {mk : Nat → List CellD} (As : List Value) (hm : B.length = m) (hmk : ∀ n, 1 ≤ (mk n).length)
    (hcon : ∀ (A' : List CellD) (n' : Nat) (K' : Option Value → ab_St → Prop), A'.length = n' → n' = A.length + 1 + m → okC (A' ++ [cO cj]) → (okC (A' ++ mk n') → K' none (cLs (A' ++ mk n'))) → EC Mj 0 (lv_args 0 (.ref n' :: As)) [] (cLs (A' ++ [cO cj])) dj bcj bsj K')
    (hargs : ∀ (B' : List CellD) (st : List Value) (bc bs : Nat), EC M pc3b lv (As.reverse ++ st) (cLs (A ++ o :: B')) d bc bs K → EC M pc3 lv st (cLs (A ++ o :: B')) d bc bs K) (hAs : As.length = na) (hlen : ∀ b, (lg_sl (.ref b :: As)).length ≤ Mj.2.2.1)
    (hcj : cj ≤ 12) (hkn : Cond.classLink M.1.cls idxn (ab_RX cj) ∈ ab_G ∧ Cond.instantiable (ab_RX cj) (ab_N cj) ∈ ab_G ∧ Cond.initialized (ab_RX cj) ∈ ab_G) (hlink : Cond.methodLink M.1.cls idxi Mj.1 ∈ ab_G) (hinst : Cond.instanceMethod Mj.1 ∈ ab_G) (hini : Mj.1.name = "<init>") (hvoid : Mj.2.2.2 = none) (hMj : ab_okM Mj na) (hdj : dj + 1 ≤ d) (hF : co_F M idxf ci k)
    (e0 : decode M.2.1 pc = .ok (.aload_n 0, 1)) (p1 : pc + 1 = pc1) (e1 : decode M.2.1 pc1 = .ok (.new idxn, 3)) (p2 : pc1 + 3 = pc2) (e2 : decode M.2.1 pc2 = .ok (.dup, 1)) (p3 : pc2 + 1 = pc3) (e3 : decode M.2.1 pc3b = .ok (.invokespecial idxi, 3)) (p4 : pc3b + 3 = pc4) (e4 : decode M.2.1 pc4 = .ok (.putfield idxf, 3)) (p5 : pc4 + 3 = pc5)
    (h0 : lv[0]? = some (0, .ref A.length)) (hv : lvO A.length lv) (ho : o.1 = .inl ci) (hok : okC (A ++ o :: B)) (hA : A.length + m < 700000)
    (h : okC (A ++ sR o k (A.length + 1 + m) :: (B ++ mk (A.length + 1 + m))) → EC M pc5 lv [] (cLs (A ++ sR o k (A.length + 1 + m) :: (B ++ mk (A.length + 1 + m)))) d b s' K) : EC M pc lv [] (cLs (A ++ o :: B)) d (b + bcj + 1) (s' + bsj + ab_N cj) K := by
  subst hm
  refine EC_aload_n (k := 0) p1 e0 0 h0 ?_
  refine CW_new hcj hkn e1 p2 hv (nr1 (by omega)) hok (by omega) (fun hok2 => ?_)
  refine EC_dup p3 e2 rfl ?_
  have hl : (cLs ((A ++ o :: B) ++ [cO cj])).1 = A.length + 1 + B.length + 1 := by
    show ((A ++ o :: B) ++ [cO cj]).length = _
    rw [List.length_append, clen]; rfl
  have e9 : cLs ((A ++ o :: B) ++ [cO cj]) = cLs (A ++ o :: (B ++ [cO cj])) := by rw [ca_b]
  rw [e9]
  refine hargs _ _ _ _ ?_
  rw [← e9]
  refine EC_invI (M' := Mj) (As := As) (rest := [.ref (A.length + 1 + B.length), .ref A.length]) (b := A.length + 1 + B.length) hlink hinst hini hvoid p4 hMj e3 rfl hAs (hlen _) (Nat.le_of_ble_eq_true rfl) hdj (Nat.add_comm _ _) (Nat.add_comm _ _) (Or.inr ⟨by rw [hl]; exact rf2 (by omega) (by omega), by rw [hl]; exact lvO_rf hv (by omega)⟩) ?_
  refine hcon (A ++ o :: B) (A.length + 1 + B.length) _ clen rfl hok2 (fun hok3 => ?_)
  rw [ca_m] at hok3 ⊢
  refine CW_putr (A := A) hF e4 p5 ho ?_
  refine h (okC_sR hok3 (Or.inl ?_))
  have := hmk (A.length + 1 + B.length)
  rw [List.length_append]
  omega
theorem CW_subAN {M : ab_M} {pc : Nat} {lv : List (Nat × Value)} {A B : List CellD} {o : CellD} {d : Nat} {K : Option Value → ab_St → Prop} {idxn idxi idxf cj ci k bcj bsj dj na pc1 pc2 pc3 pc3b pc4 pc5 b s' m : Nat} {host : String} {Mj : ab_M} {mk : Nat → List CellD} (As : List Value) (hm : B.length = m) (hmk : ∀ n, 1 ≤ (mk n).length)
    (hcon : ∀ (A' : List CellD) (n' : Nat) (K' : Option Value → ab_St → Prop), A'.length = n' → n' = A.length + 1 + m → okC (A' ++ [cO cj]) → (okC (A' ++ mk n') → K' none (cLs (A' ++ mk n'))) → EC Mj 0 (lv_args 0 (.ref n' :: As)) [] (cLs (A' ++ [cO cj])) dj bcj bsj K')
    (hargs : ∀ (B' : List CellD) (st : List Value) (bc bs : Nat), EC M pc3b lv (As.reverse ++ st) (cLs (A ++ o :: B')) d bc bs K → EC M pc3 lv st (cLs (A ++ o :: B')) d bc bs K) (hAs : As.length = na) (hlen : ∀ b, (lg_sl (.ref b :: As)).length ≤ Mj.2.2.1)
    (hcj : cj ≤ 12) (hkn : Cond.classLink M.1.cls idxn (ab_RX cj) ∈ ab_G ∧ Cond.instantiable (ab_RX cj) (ab_N cj) ∈ ab_G ∧ Cond.initialized (ab_RX cj) ∈ ab_G) (hlink : Cond.methodLinkNest M.1.cls idxi Mj.1 host ∈ tables_1.filter ab_isN) (hinst : Cond.instanceMethod Mj.1 ∈ ab_G) (hini : Mj.1.name = "<init>") (hvoid : Mj.2.2.2 = none) (hMj : ab_okM Mj na) (hdj : dj + 1 ≤ d) (hF : co_F M idxf ci k)
    (e0 : decode M.2.1 pc = .ok (.aload_n 0, 1)) (p1 : pc + 1 = pc1) (e1 : decode M.2.1 pc1 = .ok (.new idxn, 3)) (p2 : pc1 + 3 = pc2) (e2 : decode M.2.1 pc2 = .ok (.dup, 1)) (p3 : pc2 + 1 = pc3) (e3 : decode M.2.1 pc3b = .ok (.invokespecial idxi, 3)) (p4 : pc3b + 3 = pc4) (e4 : decode M.2.1 pc4 = .ok (.putfield idxf, 3)) (p5 : pc4 + 3 = pc5)
    (h0 : lv[0]? = some (0, .ref A.length)) (hv : lvO A.length lv) (ho : o.1 = .inl ci) (hok : okC (A ++ o :: B)) (hA : A.length + m < 700000)
    (h : okC (A ++ sR o k (A.length + 1 + m) :: (B ++ mk (A.length + 1 + m))) → EC M pc5 lv [] (cLs (A ++ sR o k (A.length + 1 + m) :: (B ++ mk (A.length + 1 + m)))) d b s' K) : EC M pc lv [] (cLs (A ++ o :: B)) d (b + bcj + 1) (s' + bsj + ab_N cj) K := by
  subst hm
  refine EC_aload_n (k := 0) p1 e0 0 h0 ?_
  refine CW_new hcj hkn e1 p2 hv (nr1 (by omega)) hok (by omega) (fun hok2 => ?_)
  refine EC_dup p3 e2 rfl ?_
  have hl : (cLs ((A ++ o :: B) ++ [cO cj])).1 = A.length + 1 + B.length + 1 := by
    show ((A ++ o :: B) ++ [cO cj]).length = _
    rw [List.length_append, clen]; rfl
  have e9 : cLs ((A ++ o :: B) ++ [cO cj]) = cLs (A ++ o :: (B ++ [cO cj])) := by rw [ca_b]
  rw [e9]
  refine hargs _ _ _ _ ?_
  rw [← e9]
  refine EC_invIN (host := host) (M' := Mj) (As := As) (rest := [.ref (A.length + 1 + B.length), .ref A.length]) (b := A.length + 1 + B.length) hlink hinst hini hvoid p4 hMj e3 rfl hAs (hlen _) (Nat.le_of_ble_eq_true rfl) hdj (Nat.add_comm _ _) (Nat.add_comm _ _) (Or.inr ⟨by rw [hl]; exact rf2 (by omega) (by omega), by rw [hl]; exact lvO_rf hv (by omega)⟩) ?_
  refine hcon (A ++ o :: B) (A.length + 1 + B.length) _ clen rfl hok2 (fun hok3 => ?_)
  rw [ca_m] at hok3 ⊢
  refine CW_putr (A := A) hF e4 p5 ho ?_
  refine h (okC_sR hok3 (Or.inl ?_))
  have := hmk (A.length + 1 + B.length)
  rw [List.length_append]
  omega
theorem mk6_len (n : Nat) : (mk6 n).length = 8 := by rfl
theorem mk10_len (n a1 : Nat) : (mk10 n a1).length = 57 := by rfl
theorem mk9_len (n : Nat) : (mk9 n).length = 5 := rfl
theorem mk0_len (n a1 a2 : Nat) : (mk0 n a1 a2).length = 92 := by
  have e1 := flL_len (h0 := n + 16) (w := 1) (f := fun a _ => mk2 a) (fun _ _ => rfl) 16
  have e2 := flL_len (h0 := n + 32) (w := 1) (f := fun a _ => mk1 a) (fun _ _ => rfl) 60
  unfold mk0 po0
  simp only [List.length_cons, List.length_append, List.length_nil, mk9_len]
  omega
theorem mk8_len (n : Nat) : (mk8 n).length = 7 := by rfl
theorem mk5_len (n a1 : Nat) : (mk5 n a1).length = 69 := by rfl
theorem mk7_len (n a1 a2 a3 : Nat) : (mk7 n a1 a2 a3).length = 9 := by rfl
theorem CX_arrI {M : ab_M} {pc : Nat} {lv : List (Nat × Value)} {A B : List CellD} {o : CellD} {d : Nat} {K : Option Value → ab_St → Prop} {idx ci k N m pc1 pc2 pc3 pc4 b s' : Nat} {v : Int32} (hm : B.length = m) (hk : Cond.arrayClass .int ∈ ab_G) (hN : ¬ v < 0 ∧ v.toNatClampNeg = N ∧ N ≤ 100000) (hF : co_F M idx ci k) (ho : o.1 = .inl ci)
    (e0 : decode M.2.1 pc = .ok (.aload_n 0, 1)) (p1 : pc + 1 = pc1) (e1 : ∀ st σ bc bs, EC M pc2 lv (.int v :: st) σ d bc bs K → EC M pc1 lv st σ d bc bs K) (e2 : decode M.2.1 pc2 = .ok (.newarray .int, 2)) (p3 : pc2 + 2 = pc3) (e3 : decode M.2.1 pc3 = .ok (.putfield idx, 3)) (p4 : pc3 + 3 = pc4)
    (h0 : lv[0]? = some (0, .ref A.length)) (hv : lvO A.length lv) (hok : okC (A ++ o :: B)) (hA : A.length + m < 700000)
    (h : okC (A ++ sR o k (A.length + 1 + m) :: (B ++ [cA 0 N])) → EC M pc4 lv [] (cLs (A ++ sR o k (A.length + 1 + m) :: (B ++ [cA 0 N]))) d b s' K) : EC M pc lv [] (cLs (A ++ o :: B)) d (b + 1) (s' + N) K := by
  subst hm
  refine EC_aload_n (k := 0) p1 e0 0 h0 ?_
  refine e1 _ _ _ _ ?_
  refine CW_arrI (A := A) hk hN e2 p3 hv (nr1 (by omega)) hok (by omega) (fun hok => ?_)
  refine CW_putr (A := A) hF e3 p4 ho ?_
  refine h (okC_sR hok (Or.inl ?_))
  rw [List.length_append]
  show A.length + 1 + B.length < A.length + 1 + (B.length + 1)
  omega
theorem CX_arrZ {M : ab_M} {pc : Nat} {lv : List (Nat × Value)} {A B : List CellD} {o : CellD} {d : Nat} {K : Option Value → ab_St → Prop} {idx ci k N m pc1 pc2 pc3 pc4 b s' : Nat} {v : Int32} (hm : B.length = m) (hk : Cond.arrayClass .boolean ∈ ab_G) (hN : ¬ v < 0 ∧ v.toNatClampNeg = N ∧ N ≤ 100000) (hF : co_F M idx ci k) (ho : o.1 = .inl ci)
    (e0 : decode M.2.1 pc = .ok (.aload_n 0, 1)) (p1 : pc + 1 = pc1) (e1 : ∀ st σ bc bs, EC M pc2 lv (.int v :: st) σ d bc bs K → EC M pc1 lv st σ d bc bs K) (e2 : decode M.2.1 pc2 = .ok (.newarray .boolean, 2)) (p3 : pc2 + 2 = pc3) (e3 : decode M.2.1 pc3 = .ok (.putfield idx, 3)) (p4 : pc3 + 3 = pc4)
    (h0 : lv[0]? = some (0, .ref A.length)) (hv : lvO A.length lv) (hok : okC (A ++ o :: B)) (hA : A.length + m < 700000)
    (h : okC (A ++ sR o k (A.length + 1 + m) :: (B ++ [cA 1 N])) → EC M pc4 lv [] (cLs (A ++ sR o k (A.length + 1 + m) :: (B ++ [cA 1 N]))) d b s' K) : EC M pc lv [] (cLs (A ++ o :: B)) d (b + 1) (s' + N) K := by
  subst hm
  refine EC_aload_n (k := 0) p1 e0 0 h0 ?_
  refine e1 _ _ _ _ ?_
  refine CW_arrZ (A := A) hk hN e2 p3 hv (nr1 (by omega)) hok (by omega) (fun hok => ?_)
  refine CW_putr (A := A) hF e3 p4 ho ?_
  refine h (okC_sR hok (Or.inl ?_))
  rw [List.length_append]
  show A.length + 1 + B.length < A.length + 1 + (B.length + 1)
  omega
theorem CX_arrY {M : ab_M} {pc : Nat} {lv : List (Nat × Value)} {A B : List CellD} {o : CellD} {d : Nat} {K : Option Value → ab_St → Prop} {idx ci k N m pc1 pc2 pc3 pc4 b s' : Nat} {v : Int32} (hm : B.length = m) (hk : Cond.arrayClass .byte ∈ ab_G) (hN : ¬ v < 0 ∧ v.toNatClampNeg = N ∧ N ≤ 100000) (hF : co_F M idx ci k) (ho : o.1 = .inl ci)
    (e0 : decode M.2.1 pc = .ok (.aload_n 0, 1)) (p1 : pc + 1 = pc1) (e1 : ∀ st σ bc bs, EC M pc2 lv (.int v :: st) σ d bc bs K → EC M pc1 lv st σ d bc bs K) (e2 : decode M.2.1 pc2 = .ok (.newarray .byte, 2)) (p3 : pc2 + 2 = pc3) (e3 : decode M.2.1 pc3 = .ok (.putfield idx, 3)) (p4 : pc3 + 3 = pc4)
    (h0 : lv[0]? = some (0, .ref A.length)) (hv : lvO A.length lv) (hok : okC (A ++ o :: B)) (hA : A.length + m < 700000)
    (h : okC (A ++ sR o k (A.length + 1 + m) :: (B ++ [cA 2 N])) → EC M pc4 lv [] (cLs (A ++ sR o k (A.length + 1 + m) :: (B ++ [cA 2 N]))) d b s' K) : EC M pc lv [] (cLs (A ++ o :: B)) d (b + 1) (s' + N) K := by
  subst hm
  refine EC_aload_n (k := 0) p1 e0 0 h0 ?_
  refine e1 _ _ _ _ ?_
  refine CW_arrY (A := A) hk hN e2 p3 hv (nr1 (by omega)) hok (by omega) (fun hok => ?_)
  refine CW_putr (A := A) hF e3 p4 ho ?_
  refine h (okC_sR hok (Or.inl ?_))
  rw [List.length_append]
  show A.length + 1 + B.length < A.length + 1 + (B.length + 1)
  omega
theorem CX_arrD {M : ab_M} {pc : Nat} {lv : List (Nat × Value)} {A B : List CellD} {o : CellD} {d : Nat} {K : Option Value → ab_St → Prop} {idx ci k N m pc1 pc2 pc3 pc4 b s' : Nat} {v : Int32} (hm : B.length = m) (hk : Cond.arrayClass .double ∈ ab_G) (hN : ¬ v < 0 ∧ v.toNatClampNeg = N ∧ N ≤ 100000) (hF : co_F M idx ci k) (ho : o.1 = .inl ci)
    (e0 : decode M.2.1 pc = .ok (.aload_n 0, 1)) (p1 : pc + 1 = pc1) (e1 : ∀ st σ bc bs, EC M pc2 lv (.int v :: st) σ d bc bs K → EC M pc1 lv st σ d bc bs K) (e2 : decode M.2.1 pc2 = .ok (.newarray .double, 2)) (p3 : pc2 + 2 = pc3) (e3 : decode M.2.1 pc3 = .ok (.putfield idx, 3)) (p4 : pc3 + 3 = pc4)
    (h0 : lv[0]? = some (0, .ref A.length)) (hv : lvO A.length lv) (hok : okC (A ++ o :: B)) (hA : A.length + m < 700000)
    (h : okC (A ++ sR o k (A.length + 1 + m) :: (B ++ [cA 4 N])) → EC M pc4 lv [] (cLs (A ++ sR o k (A.length + 1 + m) :: (B ++ [cA 4 N]))) d b s' K) : EC M pc lv [] (cLs (A ++ o :: B)) d (b + 1) (s' + N) K := by
  subst hm
  refine EC_aload_n (k := 0) p1 e0 0 h0 ?_
  refine e1 _ _ _ _ ?_
  refine CW_arrD (A := A) hk hN e2 p3 hv (nr1 (by omega)) hok (by omega) (fun hok => ?_)
  refine CW_putr (A := A) hF e3 p4 ho ?_
  refine h (okC_sR hok (Or.inl ?_))
  rw [List.length_append]
  show A.length + 1 + B.length < A.length + 1 + (B.length + 1)
  omega
abbrev MX11_init : ab_M := (yX11_init, cX11_init, 1, none)
theorem dX11_init_0 : decode cX11_init 0 = .ok (.aload_n 0, 1) := by decide +kernel
theorem dX11_init_1 : decode cX11_init 1 = .ok (.invokespecial 3, 3) := by decide +kernel
theorem dX11_init_4 : decode cX11_init 4 = .ok (.aload_n 0, 1) := by decide +kernel
theorem dX11_init_5 : decode cX11_init 5 = .ok (.new 9, 3) := by decide +kernel
theorem dX11_init_8 : decode cX11_init 8 = .ok (.dup, 1) := by decide +kernel
theorem dX11_init_9 : decode cX11_init 9 = .ok (.invokespecial 11, 3) := by decide +kernel
theorem dX11_init_12 : decode cX11_init 12 = .ok (.putfield 12, 3) := by decide +kernel
theorem dX11_init_15 : decode cX11_init 15 = .ok (.aload_n 0, 1) := by decide +kernel
theorem dX11_init_16 : decode cX11_init 16 = .ok (.new 16, 3) := by decide +kernel
theorem dX11_init_19 : decode cX11_init 19 = .ok (.dup, 1) := by decide +kernel
theorem dX11_init_20 : decode cX11_init 20 = .ok (.aload_n 0, 1) := by decide +kernel
theorem dX11_init_21 : decode cX11_init 21 = .ok (.getfield 12, 3) := by decide +kernel
theorem dX11_init_24 : decode cX11_init 24 = .ok (.invokespecial 18, 3) := by decide +kernel
theorem dX11_init_27 : decode cX11_init 27 = .ok (.putfield 21, 3) := by decide +kernel
theorem dX11_init_30 : decode cX11_init 30 = .ok (.aload_n 0, 1) := by decide +kernel
theorem dX11_init_31 : decode cX11_init 31 = .ok (.new 25, 3) := by decide +kernel
theorem dX11_init_34 : decode cX11_init 34 = .ok (.dup, 1) := by decide +kernel
theorem dX11_init_35 : decode cX11_init 35 = .ok (.aload_n 0, 1) := by decide +kernel
theorem dX11_init_36 : decode cX11_init 36 = .ok (.getfield 12, 3) := by decide +kernel
theorem dX11_init_39 : decode cX11_init 39 = .ok (.aload_n 0, 1) := by decide +kernel
theorem dX11_init_40 : decode cX11_init 40 = .ok (.getfield 21, 3) := by decide +kernel
theorem dX11_init_43 : decode cX11_init 43 = .ok (.invokespecial 27, 3) := by decide +kernel
theorem dX11_init_46 : decode cX11_init 46 = .ok (.putfield 30, 3) := by decide +kernel
theorem dX11_init_49 : decode cX11_init 49 = .ok (.aload_n 0, 1) := by decide +kernel
theorem dX11_init_50 : decode cX11_init 50 = .ok (.new 34, 3) := by decide +kernel
theorem dX11_init_53 : decode cX11_init 53 = .ok (.dup, 1) := by decide +kernel
theorem dX11_init_54 : decode cX11_init 54 = .ok (.invokespecial 36, 3) := by decide +kernel
theorem dX11_init_57 : decode cX11_init 57 = .ok (.putfield 37, 3) := by decide +kernel
theorem dX11_init_60 : decode cX11_init 60 = .ok (.aload_n 0, 1) := by decide +kernel
theorem dX11_init_61 : decode cX11_init 61 = .ok (.new 41, 3) := by decide +kernel
theorem dX11_init_64 : decode cX11_init 64 = .ok (.dup, 1) := by decide +kernel
theorem dX11_init_65 : decode cX11_init 65 = .ok (.aload_n 0, 1) := by decide +kernel
theorem dX11_init_66 : decode cX11_init 66 = .ok (.getfield 21, 3) := by decide +kernel
theorem dX11_init_69 : decode cX11_init 69 = .ok (.invokespecial 43, 3) := by decide +kernel
theorem dX11_init_72 : decode cX11_init 72 = .ok (.putfield 46, 3) := by decide +kernel
theorem dX11_init_75 : decode cX11_init 75 = .ok (.aload_n 0, 1) := by decide +kernel
theorem dX11_init_76 : decode cX11_init 76 = .ok (.new 50, 3) := by decide +kernel
theorem dX11_init_79 : decode cX11_init 79 = .ok (.dup, 1) := by decide +kernel
theorem dX11_init_80 : decode cX11_init 80 = .ok (.aload_n 0, 1) := by decide +kernel
theorem dX11_init_81 : decode cX11_init 81 = .ok (.getfield 12, 3) := by decide +kernel
theorem dX11_init_84 : decode cX11_init 84 = .ok (.aload_n 0, 1) := by decide +kernel
theorem dX11_init_85 : decode cX11_init 85 = .ok (.getfield 21, 3) := by decide +kernel
theorem dX11_init_88 : decode cX11_init 88 = .ok (.aload_n 0, 1) := by decide +kernel
theorem dX11_init_89 : decode cX11_init 89 = .ok (.getfield 46, 3) := by decide +kernel
theorem dX11_init_92 : decode cX11_init 92 = .ok (.invokespecial 52, 3) := by decide +kernel
theorem dX11_init_95 : decode cX11_init 95 = .ok (.putfield 55, 3) := by decide +kernel
theorem dX11_init_98 : decode cX11_init 98 = .ok (.aload_n 0, 1) := by decide +kernel
theorem dX11_init_99 : decode cX11_init 99 = .ok (.bipush 6, 2) := by decide +kernel
theorem dX11_init_101 : decode cX11_init 101 = .ok (.newarray .int, 2) := by decide +kernel
theorem dX11_init_103 : decode cX11_init 103 = .ok (.putfield 59, 3) := by decide +kernel
theorem dX11_init_106 : decode cX11_init 106 = .ok (.aload_n 0, 1) := by decide +kernel
theorem dX11_init_107 : decode cX11_init 107 = .ok (.bipush 6, 2) := by decide +kernel
theorem dX11_init_109 : decode cX11_init 109 = .ok (.newarray .boolean, 2) := by decide +kernel
theorem dX11_init_111 : decode cX11_init 111 = .ok (.putfield 63, 3) := by decide +kernel
theorem dX11_init_114 : decode cX11_init 114 = .ok (.aload_n 0, 1) := by decide +kernel
theorem dX11_init_115 : decode cX11_init 115 = .ok (.bipush 120, 2) := by decide +kernel
theorem dX11_init_117 : decode cX11_init 117 = .ok (.newarray .int, 2) := by decide +kernel
theorem dX11_init_119 : decode cX11_init 119 = .ok (.putfield 67, 3) := by decide +kernel
theorem dX11_init_122 : decode cX11_init 122 = .ok (.return_, 1) := by decide +kernel
theorem okX11_init : ab_okM MX11_init 0 := ⟨by decide, ⟨by decide, by decide⟩, ab_in 117 (by decide +kernel) (by decide +kernel), ab_in 86 (by decide +kernel) (by decide +kernel), by decide +kernel, by decide⟩
def mk11 (n : Nat) : List CellD := (sR (sR (sR (sR (sR (sR (sR (sR (sR (cO 11) 0 (n + 1 + 0)) 1 (n + 1 + 8)) 2 (n + 1 + 65)) 3 (n + 1 + 157)) 4 (n + 1 + 164)) 5 (n + 1 + 233)) 6 (n + 1 + 242)) 7 (n + 1 + 243)) 8 (n + 1 + 244)) :: (((((((((([] ++ mk6 (n + 1 + 0)) ++ mk10 (n + 1 + 8) (n + 1 + 0)) ++ mk0 (n + 1 + 65) (n + 1 + 0) (n + 1 + 8)) ++ mk8 (n + 1 + 157)) ++ mk5 (n + 1 + 164) (n + 1 + 8)) ++ mk7 (n + 1 + 233) (n + 1 + 0) (n + 1 + 8) (n + 1 + 164)) ++ [cA 0 6]) ++ [cA 1 6]) ++ [cA 0 120]))
theorem mk11_len (n : Nat) : (mk11 n).length = 246 := by unfold mk11; simp only [List.length_append, List.length_cons, List.length_nil, mk6_len, mk10_len, mk0_len, mk8_len, mk5_len, mk7_len]
set_option maxHeartbeats 8000000 in
theorem iX11_init (A : List CellD) {n : Nat} (hn : A.length = n) (hA : n < 100000) (hok : okC (A ++ [cO 11])) (d : Nat) (hd : 3 ≤ d) (K : Option Value → ab_St → Prop) (k : okC (A ++ mk11 n) → K none (cLs (A ++ mk11 n))) : EC MX11_init 0 [(0, .ref n)] [] (cLs (A ++ [cO 11])) d 245 13157 K := by
  subst hn
  have h0 : ([(0, .ref A.length)] : List (Nat × Value))[0]? = some (0, .ref A.length) := rfl
  have hv : lvO A.length [(0, .ref A.length)] := lvO_r (Nat.le_refl _) lvO_n
  refine EC_aload_n (pc2 := 1) rfl dX11_init_0 0 h0 ?_
  refine EC_objInit oiRX11 (pc2 := 4) rfl dX11_init_1 (by decide) (by omega) ?_
  refine CW_subA (A := A) (Mj := MX6_init) (mk := fun n' => mk6 n') (k := 0) (ci := 11) (cj := 6) (bcj := 7) (bsj := 1321) (dj := 1) (b := 237) (s' := 11828) (m := 0) (pc3b := 9) [] (by simp only [List.length_append, List.length_cons, List.length_nil, mk6_len, mk10_len, mk0_len, mk8_len, mk5_len, mk7_len]) (fun _ => mk6_pos _) (fun A' n' K' a1 a2 a3 a4 => iX6_init A' a1 (by omega) a3 1 (by decide) K' a4) (fun B' st bc bs h => h) rfl (fun _ => Nat.le_of_ble_eq_true rfl) (by decide) cnRX11_9 ilRX11_11.1 ilRX11_11.2 rfl rfl okX6_init (by omega) ⟨gfRX11_12, rfl, fun _ => rfl, fun _ => rfl, rfl, Or.inr ⟨rfl, rfl⟩⟩ dX11_init_4 rfl dX11_init_5 rfl dX11_init_8 rfl dX11_init_9 rfl dX11_init_12 rfl h0 hv rfl hok (by omega) (fun hok => ?_)
  refine CW_subA (A := A) (Mj := MX10_init) (mk := fun n' => mk10 n' (A.length + 1 + 0)) (k := 1) (ci := 11) (cj := 10) (bcj := 56) (bsj := 3158) (dj := 2) (b := 180) (s' := 8660) (m := 8) (pc3b := 24) [.ref (A.length + 1 + 0)] (by simp only [List.length_append, List.length_cons, List.length_nil, mk6_len, mk10_len, mk0_len, mk8_len, mk5_len, mk7_len]) (fun _ => mk10_pos _ _) (fun A' n' K' a1 a2 a3 a4 => iX10_init A' (A.length + 1 + 0) a1 (by omega) (by omega) a3 2 (by decide) K' a4) (fun B' st bc bs h => EC_aload_n (pc2 := 21) rfl dX11_init_20 0 h0 (CW_getr (A := A) (k := 0) (r := A.length + 1 + 0) ⟨gfRX11_12, rfl⟩ rfl dX11_init_21 (pc2 := 24) rfl rfl (h))) rfl (fun _ => Nat.le_of_ble_eq_true rfl) (by decide) cnRX11_16 ilRX11_18.1 ilRX11_18.2 rfl rfl okX10_init (by omega) ⟨gfRX11_21, rfl, fun _ => rfl, fun _ => rfl, rfl, Or.inr ⟨rfl, rfl⟩⟩ dX11_init_15 rfl dX11_init_16 rfl dX11_init_19 rfl dX11_init_24 rfl dX11_init_27 rfl h0 hv rfl hok (by omega) (fun hok => ?_)
  refine CW_subA (A := A) (Mj := MX0_init) (mk := fun n' => mk0 n' (A.length + 1 + 0) (A.length + 1 + 8)) (k := 2) (ci := 11) (cj := 0) (bcj := 91) (bsj := 1559) (dj := 2) (b := 88) (s' := 7088) (m := 65) (pc3b := 43) [.ref (A.length + 1 + 0), .ref (A.length + 1 + 8)] (by simp only [List.length_append, List.length_cons, List.length_nil, mk6_len, mk10_len, mk0_len, mk8_len, mk5_len, mk7_len]) (fun _ => mk0_pos _ _ _) (fun A' n' K' a1 a2 a3 a4 => iX0_init A' (A.length + 1 + 0) (A.length + 1 + 8) a1 (by omega) (by omega) (by omega) a3 2 (by decide) K' a4) (fun B' st bc bs h => EC_aload_n (pc2 := 36) rfl dX11_init_35 0 h0 (CW_getr (A := A) (k := 0) (r := A.length + 1 + 0) ⟨gfRX11_12, rfl⟩ rfl dX11_init_36 (pc2 := 39) rfl rfl (EC_aload_n (pc2 := 40) rfl dX11_init_39 0 h0 (CW_getr (A := A) (k := 1) (r := A.length + 1 + 8) ⟨gfRX11_21, rfl⟩ rfl dX11_init_40 (pc2 := 43) rfl rfl (h))))) rfl (fun _ => Nat.le_of_ble_eq_true rfl) (by decide) cnRX11_25 ilRX11_27.1 ilRX11_27.2 rfl rfl okX0_init (by omega) ⟨gfRX11_30, rfl, fun _ => rfl, fun _ => rfl, rfl, Or.inr ⟨rfl, rfl⟩⟩ dX11_init_30 rfl dX11_init_31 rfl dX11_init_34 rfl dX11_init_43 rfl dX11_init_46 rfl h0 hv rfl hok (by omega) (fun hok => ?_)
  refine CW_subAN (A := A) (Mj := MX8_init) (mk := fun n' => mk8 n') (k := 3) (ci := 11) (cj := 8) (bcj := 6) (bsj := 495) (dj := 2) (b := 81) (s' := 6588) (m := 157) (pc3b := 54) [] (by simp only [List.length_append, List.length_cons, List.length_nil, mk6_len, mk10_len, mk0_len, mk8_len, mk5_len, mk7_len]) (fun _ => mk8_pos _) (fun A' n' K' a1 a2 a3 a4 => iX8_init A' a1 (by omega) a3 2 (by decide) K' a4) (fun B' st bc bs h => h) rfl (fun _ => Nat.le_of_ble_eq_true rfl) (by decide) cnRX11_34 ilRX11_36.1 ilRX11_36.2 rfl rfl okX8_init (by omega) ⟨gfRX11_37, rfl, fun _ => rfl, fun _ => rfl, rfl, Or.inr ⟨rfl, rfl⟩⟩ dX11_init_49 rfl dX11_init_50 rfl dX11_init_53 rfl dX11_init_54 rfl dX11_init_57 rfl h0 hv rfl hok (by omega) (fun hok => ?_)
  refine CW_subA (A := A) (Mj := MX5_init) (mk := fun n' => mk5 n' (A.length + 1 + 8)) (k := 4) (ci := 11) (cj := 5) (bcj := 68) (bsj := 3987) (dj := 2) (b := 12) (s' := 2590) (m := 164) (pc3b := 69) [.ref (A.length + 1 + 8)] (by simp only [List.length_append, List.length_cons, List.length_nil, mk6_len, mk10_len, mk0_len, mk8_len, mk5_len, mk7_len]) (fun _ => mk5_pos _ _) (fun A' n' K' a1 a2 a3 a4 => iX5_init A' (A.length + 1 + 8) a1 (by omega) (by omega) a3 2 (by decide) K' a4) (fun B' st bc bs h => EC_aload_n (pc2 := 66) rfl dX11_init_65 0 h0 (CW_getr (A := A) (k := 1) (r := A.length + 1 + 8) ⟨gfRX11_21, rfl⟩ rfl dX11_init_66 (pc2 := 69) rfl rfl (h))) rfl (fun _ => Nat.le_of_ble_eq_true rfl) (by decide) cnRX11_41 ilRX11_43.1 ilRX11_43.2 rfl rfl okX5_init (by omega) ⟨gfRX11_46, rfl, fun _ => rfl, fun _ => rfl, rfl, Or.inr ⟨rfl, rfl⟩⟩ dX11_init_60 rfl dX11_init_61 rfl dX11_init_64 rfl dX11_init_69 rfl dX11_init_72 rfl h0 hv rfl hok (by omega) (fun hok => ?_)
  refine CW_subA (A := A) (Mj := MX7_init) (mk := fun n' => mk7 n' (A.length + 1 + 0) (A.length + 1 + 8) (A.length + 1 + 164)) (k := 5) (ci := 11) (cj := 7) (bcj := 8) (bsj := 2440) (dj := 1) (b := 3) (s' := 132) (m := 233) (pc3b := 92) [.ref (A.length + 1 + 0), .ref (A.length + 1 + 8), .ref (A.length + 1 + 164)] (by simp only [List.length_append, List.length_cons, List.length_nil, mk6_len, mk10_len, mk0_len, mk8_len, mk5_len, mk7_len]) (fun _ => mk7_pos _ _ _ _) (fun A' n' K' a1 a2 a3 a4 => iX7_init A' (A.length + 1 + 0) (A.length + 1 + 8) (A.length + 1 + 164) a1 (by omega) (by omega) (by omega) (by omega) a3 1 (by decide) K' a4) (fun B' st bc bs h => EC_aload_n (pc2 := 81) rfl dX11_init_80 0 h0 (CW_getr (A := A) (k := 0) (r := A.length + 1 + 0) ⟨gfRX11_12, rfl⟩ rfl dX11_init_81 (pc2 := 84) rfl rfl (EC_aload_n (pc2 := 85) rfl dX11_init_84 0 h0 (CW_getr (A := A) (k := 1) (r := A.length + 1 + 8) ⟨gfRX11_21, rfl⟩ rfl dX11_init_85 (pc2 := 88) rfl rfl (EC_aload_n (pc2 := 89) rfl dX11_init_88 0 h0 (CW_getr (A := A) (k := 4) (r := A.length + 1 + 164) ⟨gfRX11_46, rfl⟩ rfl dX11_init_89 (pc2 := 92) rfl rfl (h))))))) rfl (fun _ => Nat.le_of_ble_eq_true rfl) (by decide) cnRX11_50 ilRX11_52.1 ilRX11_52.2 rfl rfl okX7_init (by omega) ⟨gfRX11_55, rfl, fun _ => rfl, fun _ => rfl, rfl, Or.inr ⟨rfl, rfl⟩⟩ dX11_init_75 rfl dX11_init_76 rfl dX11_init_79 rfl dX11_init_92 rfl dX11_init_95 rfl h0 hv rfl hok (by omega) (fun hok => ?_)
  refine CX_arrI (A := A) (k := 6) (N := 6) (m := 242) (v := 6) (b := 2) (s' := 126) (by simp only [List.length_append, List.length_cons, List.length_nil, mk6_len, mk10_len, mk0_len, mk8_len, mk5_len, mk7_len]) ac_I ⟨by decide, by decide, by decide⟩ ⟨gfRX11_59, rfl, fun _ => rfl, fun _ => rfl, rfl, Or.inr ⟨rfl, rfl⟩⟩ rfl dX11_init_98 (pc1 := 99) rfl (fun st σ bc bs h => EC_bipush (pc2 := 101) (v := 6) rfl dX11_init_99 (by decide) h) dX11_init_101 (pc3 := 103) rfl dX11_init_103 (pc4 := 106) rfl h0 hv hok (by omega) (fun hok => ?_)
  refine CX_arrZ (A := A) (k := 7) (N := 6) (m := 243) (v := 6) (b := 1) (s' := 120) (by simp only [List.length_append, List.length_cons, List.length_nil, mk6_len, mk10_len, mk0_len, mk8_len, mk5_len, mk7_len]) ac_Z ⟨by decide, by decide, by decide⟩ ⟨gfRX11_63, rfl, fun _ => rfl, fun _ => rfl, rfl, Or.inr ⟨rfl, rfl⟩⟩ rfl dX11_init_106 (pc1 := 107) rfl (fun st σ bc bs h => EC_bipush (pc2 := 109) (v := 6) rfl dX11_init_107 (by decide) h) dX11_init_109 (pc3 := 111) rfl dX11_init_111 (pc4 := 114) rfl h0 hv hok (by omega) (fun hok => ?_)
  refine CX_arrI (A := A) (k := 8) (N := 120) (m := 244) (v := 120) (b := 0) (s' := 0) (by simp only [List.length_append, List.length_cons, List.length_nil, mk6_len, mk10_len, mk0_len, mk8_len, mk5_len, mk7_len]) ac_I ⟨by decide, by decide, by decide⟩ ⟨gfRX11_67, rfl, fun _ => rfl, fun _ => rfl, rfl, Or.inr ⟨rfl, rfl⟩⟩ rfl dX11_init_114 (pc1 := 115) rfl (fun st σ bc bs h => EC_bipush (pc2 := 117) (v := 120) rfl dX11_init_115 (by decide) h) dX11_init_117 (pc3 := 119) rfl dX11_init_119 (pc4 := 122) rfl h0 hv hok (by omega) (fun hok => ?_)
  exact EC_vret rfl dX11_init_122 (k hok)
