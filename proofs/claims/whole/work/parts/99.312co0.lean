section CWR
variable {M : ab_M} {pc : Nat} {lv : List (Nat × Value)} {A B : List CellD} {o : CellD} {d : Nat} {K : Option Value → ab_St → Prop}
theorem nr1 {n m : Nat} (h : n < m) : ab_nr m [.ref n] := by
  intro v hv e
  rw [List.mem_singleton.mp hv] at e
  injection e with e
  exact absurd e (Nat.ne_of_lt h)
theorem nr0 {m : Nat} : ab_nr m [] := fun v hv => absurd hv List.not_mem_nil
theorem lvO_n {n : Nat} : lvO n [] := fun q hq => absurd hq List.not_mem_nil
theorem lvO_r {n r i : Nat} {lv : List (Nat × Value)} (h : r ≤ n) (t : lvO n lv) : lvO n ((i, .ref r) :: lv) := by
  intro q hq r' e
  rcases List.mem_cons.mp hq with rfl | hq
  · injection e with e; exact e ▸ h
  · exact t q hq r' e
theorem lvO_i {n i : Nat} {v : Int32} {lv : List (Nat × Value)} (t : lvO n lv) : lvO n ((i, .int v) :: lv) := by
  intro q hq r' e
  rcases List.mem_cons.mp hq with rfl | hq
  · cases e
  · exact t q hq r' e
theorem rf1 {n m : Nat} (h : n < m) : ab_refs m [.ref n] := by
  intro v hv x e
  rw [List.mem_singleton.mp hv] at e
  injection e with e
  exact Nat.lt_of_le_of_lt (Nat.le_of_eq e.symm) h
theorem rf2 {n m k : Nat} (h : n < m) (h2 : k < m) : ab_refs m [.ref n, .ref k] := by
  intro v hv x e
  rcases List.mem_cons.mp hv with rfl | hv
  · injection e with e; exact Nat.lt_of_le_of_lt (Nat.le_of_eq e.symm) h
  · exact rf1 h2 v hv x e
theorem ca_m {A B X : List CellD} {o : CellD} : (A ++ o :: B) ++ X = A ++ o :: (B ++ X) := by
  rw [List.append_assoc]; rfl
theorem CW_subI {idxn idxi idxf cj ci k bcj bsj dj pc1 pc2 pc3 pc4 pc5 b s' m : Nat} {host : String} {Mj : ab_M} {mk : Nat → List CellD} (hm : B.length = m) (hmk : ∀ n, 1 ≤ (mk n).length)
    (hcon : ∀ (A' : List CellD) (n' : Nat) (K' : Option Value → ab_St → Prop), A'.length = n' → n' < 800000 → okC (A' ++ [cO cj]) → (okC (A' ++ mk n') → K' none (cLs (A' ++ mk n'))) → EC Mj 0 [(0, .ref n')] [] (cLs (A' ++ [cO cj])) dj bcj bsj K')
    (hcj : cj ≤ 12) (hkn : Cond.classLink M.1.cls idxn (ab_RX cj) ∈ ab_G ∧ Cond.instantiable (ab_RX cj) (ab_N cj) ∈ ab_G ∧ Cond.initialized (ab_RX cj) ∈ ab_G) (hlink : Cond.methodLink M.1.cls idxi Mj.1 ∈ ab_G) (hinst : Cond.instanceMethod Mj.1 ∈ ab_G) (hini : Mj.1.name = "<init>") (hvoid : Mj.2.2.2 = none) (hMj : ab_okM Mj 0) (hL1 : 1 ≤ Mj.2.2.1) (hdj : dj + 1 ≤ d) (hF : co_F M idxf ci k)
    (e0 : decode M.2.1 pc = .ok (.aload_n 0, 1)) (p1 : pc + 1 = pc1) (e1 : decode M.2.1 pc1 = .ok (.new idxn, 3)) (p2 : pc1 + 3 = pc2) (e2 : decode M.2.1 pc2 = .ok (.dup, 1)) (p3 : pc2 + 1 = pc3) (e3 : decode M.2.1 pc3 = .ok (.invokespecial idxi, 3)) (p4 : pc3 + 3 = pc4) (e4 : decode M.2.1 pc4 = .ok (.putfield idxf, 3)) (p5 : pc4 + 3 = pc5)
    (h0 : lv[0]? = some (0, .ref A.length)) (hv : lvO A.length lv) (ho : o.1 = .inl ci) (hok : okC (A ++ o :: B)) (hA : A.length + m < 700000)
    (h : okC (A ++ sR o k (A.length + 1 + m) :: (B ++ mk (A.length + 1 + m))) → EC M pc5 lv [] (cLs (A ++ sR o k (A.length + 1 + m) :: (B ++ mk (A.length + 1 + m)))) d b s' K) : EC M pc lv [] (cLs (A ++ o :: B)) d (b + bcj + 1) (s' + bsj + ab_N cj) K := by
  subst hm
  refine EC_aload_n (k := 0) p1 e0 0 h0 ?_
  refine CW_new hcj hkn e1 p2 hv (nr1 (by omega)) hok (by omega) (fun hok2 => ?_)
  refine EC_dup p3 e2 rfl ?_
  have hl : (cLs ((A ++ o :: B) ++ [cO cj])).1 = A.length + 1 + B.length + 1 := by
    show ((A ++ o :: B) ++ [cO cj]).length = _
    rw [List.length_append, clen]; rfl
  refine EC_invI (M' := Mj) (As := []) (rest := [.ref (A.length + 1 + B.length), .ref A.length]) (b := A.length + 1 + B.length) hlink hinst hini hvoid p4 hMj e3 rfl rfl hL1 (Nat.le_of_ble_eq_true rfl) hdj (Nat.add_comm _ _) (Nat.add_comm _ _) (Or.inr ⟨by rw [hl]; exact rf2 (by omega) (by omega), by rw [hl]; exact lvO_rf hv (by omega)⟩) ?_
  refine hcon (A ++ o :: B) (A.length + 1 + B.length) _ clen (by omega) hok2 (fun hok3 => ?_)
  rw [ca_m] at hok3 ⊢
  refine CW_putr (A := A) hF e4 p5 ho ?_
  refine h (okC_sR hok3 (Or.inl ?_))
  have := hmk (A.length + 1 + B.length)
  rw [List.length_append]
  omega
theorem CW_subN {idxn idxi idxf cj ci k bcj bsj dj pc1 pc2 pc3 pc4 pc5 b s' m : Nat} {host : String} {Mj : ab_M} {mk : Nat → List CellD} (hm : B.length = m) (hmk : ∀ n, 1 ≤ (mk n).length)
    (hcon : ∀ (A' : List CellD) (n' : Nat) (K' : Option Value → ab_St → Prop), A'.length = n' → n' < 800000 → okC (A' ++ [cO cj]) → (okC (A' ++ mk n') → K' none (cLs (A' ++ mk n'))) → EC Mj 0 [(0, .ref n')] [] (cLs (A' ++ [cO cj])) dj bcj bsj K')
    (hcj : cj ≤ 12) (hkn : Cond.classLink M.1.cls idxn (ab_RX cj) ∈ ab_G ∧ Cond.instantiable (ab_RX cj) (ab_N cj) ∈ ab_G ∧ Cond.initialized (ab_RX cj) ∈ ab_G) (hlink : Cond.methodLinkNest M.1.cls idxi Mj.1 host ∈ tables_1.filter ab_isN) (hinst : Cond.instanceMethod Mj.1 ∈ ab_G) (hini : Mj.1.name = "<init>") (hvoid : Mj.2.2.2 = none) (hMj : ab_okM Mj 0) (hL1 : 1 ≤ Mj.2.2.1) (hdj : dj + 1 ≤ d) (hF : co_F M idxf ci k)
    (e0 : decode M.2.1 pc = .ok (.aload_n 0, 1)) (p1 : pc + 1 = pc1) (e1 : decode M.2.1 pc1 = .ok (.new idxn, 3)) (p2 : pc1 + 3 = pc2) (e2 : decode M.2.1 pc2 = .ok (.dup, 1)) (p3 : pc2 + 1 = pc3) (e3 : decode M.2.1 pc3 = .ok (.invokespecial idxi, 3)) (p4 : pc3 + 3 = pc4) (e4 : decode M.2.1 pc4 = .ok (.putfield idxf, 3)) (p5 : pc4 + 3 = pc5)
    (h0 : lv[0]? = some (0, .ref A.length)) (hv : lvO A.length lv) (ho : o.1 = .inl ci) (hok : okC (A ++ o :: B)) (hA : A.length + m < 700000)
    (h : okC (A ++ sR o k (A.length + 1 + m) :: (B ++ mk (A.length + 1 + m))) → EC M pc5 lv [] (cLs (A ++ sR o k (A.length + 1 + m) :: (B ++ mk (A.length + 1 + m)))) d b s' K) : EC M pc lv [] (cLs (A ++ o :: B)) d (b + bcj + 1) (s' + bsj + ab_N cj) K := by
  subst hm
  refine EC_aload_n (k := 0) p1 e0 0 h0 ?_
  refine CW_new hcj hkn e1 p2 hv (nr1 (by omega)) hok (by omega) (fun hok2 => ?_)
  refine EC_dup p3 e2 rfl ?_
  have hl : (cLs ((A ++ o :: B) ++ [cO cj])).1 = A.length + 1 + B.length + 1 := by
    show ((A ++ o :: B) ++ [cO cj]).length = _
    rw [List.length_append, clen]; rfl
  refine EC_invIN (host := host) (M' := Mj) (As := []) (rest := [.ref (A.length + 1 + B.length), .ref A.length]) (b := A.length + 1 + B.length) hlink hinst hini hvoid p4 hMj e3 rfl rfl hL1 (Nat.le_of_ble_eq_true rfl) hdj (Nat.add_comm _ _) (Nat.add_comm _ _) (Or.inr ⟨by rw [hl]; exact rf2 (by omega) (by omega), by rw [hl]; exact lvO_rf hv (by omega)⟩) ?_
  refine hcon (A ++ o :: B) (A.length + 1 + B.length) _ clen (by omega) hok2 (fun hok3 => ?_)
  rw [ca_m] at hok3 ⊢
  refine CW_putr (A := A) hF e4 p5 ho ?_
  refine h (okC_sR hok3 (Or.inl ?_))
  have := hmk (A.length + 1 + B.length)
  rw [List.length_append]
  omega
end CWR
