section CWR
variable {M : ab_M} {pc : Nat} {lv : List (Nat × Value)} {A B : List CellD} {o : CellD} {d : Nat} {K : Option Value → ab_St → Prop}
theorem CW_putr {idx ci k r pc2 bc bs : Nat} {st : List Value} (hF : co_F M idx ci k) (hd : decode M.2.1 pc = .ok (.putfield idx, 3)) (hp : pc + 3 = pc2) (ho : o.1 = .inl ci) (h : EC M pc2 lv st (cLs (A ++ sR o k r :: B)) d bc bs K) : EC M pc lv (.ref r :: .ref A.length :: st) (cLs (A ++ o :: B)) d bc bs K := by
  have hb : A.length < (A ++ o :: B).length := by rw [clen]; omega
  have hs : (cLs (A ++ o :: B)).2.1 A.length = .inl ci := by
    show ((A ++ o :: B).getD A.length cd0).1 = _
    rw [cgD_n]; exact ho
  have e : ab_ur (cLs (A ++ o :: B)) A.length k (some r) = cLs (A ++ sR o k r :: B) := by rw [cLs_ur hb, cgD_n, cset_n]
  obtain ⟨f1, f2, f3, f4, f5, f6⟩ := hF
  rcases f6 with f6 | ⟨f6, f7⟩
  · exact EC_putr f2 f6 f3 f4 f1 hp hd hb hs (by rw [e]; exact h)
  · exact EC_putF f2 f6 f5 f7 f3 f4 f1 hp hd hb hs (by rw [e]; exact h)
theorem CW_puti {idx ci k pc2 bc bs : Nat} {v : Int32} {st : List Value} (hF : ab_L M.1.cls idx ci k ∧ ab_isr (ab_tf ci k) = false ∧ M.1.name = "<init>" ∧ ((ab_TX ci k).2.2.2 = false ∨ ((ab_TX ci k).2.2.2 = true ∧ (ab_TX ci k).1 = M.1.cls))) (hn : narrow (ab_tf ci k) (.int v) = .int v) (hfit : fits (ab_tf ci k) (.int v) = true) (hd : decode M.2.1 pc = .ok (.putfield idx, 3)) (hp : pc + 3 = pc2) (ho : o.1 = .inl ci) (h : EC M pc2 lv st (cLs (A ++ sI o k v :: B)) d bc bs K) : EC M pc lv (.int v :: .ref A.length :: st) (cLs (A ++ o :: B)) d bc bs K := by
  have hb : A.length < (A ++ o :: B).length := by rw [clen]; omega
  have hs : (cLs (A ++ o :: B)).2.1 A.length = .inl ci := by
    show ((A ++ o :: B).getD A.length cd0).1 = _
    rw [cgD_n]; exact ho
  have e : ab_ui (cLs (A ++ o :: B)) A.length k v = cLs (A ++ sI o k v :: B) := by rw [cLs_ui hb, cgD_n, cset_n]
  obtain ⟨f1, f2, f5, f6⟩ := hF
  rcases f6 with f6 | ⟨f6, f7⟩
  · exact EC_puti f2 f6 hn hfit f1 hp hd hb hs (by rw [e]; exact h)
  · exact EC_putFi f2 f6 f5 f7 hn hfit f1 hp hd hb hs (by rw [e]; exact h)
theorem CW_getr {idx ci k r pc2 bc bs : Nat} {st : List Value} (hF : ab_L M.1.cls idx ci k ∧ ab_isr (ab_tf ci k) = true) (hr : o.2.2 k = some r) (hd : decode M.2.1 pc = .ok (.getfield idx, 3)) (hp : pc + 3 = pc2) (ho : o.1 = .inl ci) (h : EC M pc2 lv (.ref r :: st) (cLs (A ++ o :: B)) d bc bs K) : EC M pc lv (.ref A.length :: st) (cLs (A ++ o :: B)) d bc bs K := by
  have hb : A.length < (A ++ o :: B).length := by rw [clen]; omega
  have hs : (cLs (A ++ o :: B)).2.1 A.length = .inl ci := by
    show ((A ++ o :: B).getD A.length cd0).1 = _
    rw [cgD_n]; exact ho
  exact EC_getr hF.2 (by show ((A ++ o :: B).getD A.length cd0).2.2 k = _; rw [cgD_n]; exact hr) hF.1 hp hd hb hs h
theorem CW_arrI {N pc2 b s' : Nat} {n : Int32} {st : List Value} (hk : Cond.arrayClass .int ∈ ab_G) (hN : ¬ n < 0 ∧ n.toNatClampNeg = N ∧ N ≤ 100000) (hd : decode M.2.1 pc = .ok (.newarray .int, 2)) (hp : pc + 2 = pc2) (hv : lvO A.length lv) (hst : ab_nr (A.length + 1 + B.length) st) (hok : okC (A ++ o :: B)) (hs : A.length + B.length < 900000) (h : okC (A ++ o :: (B ++ [cA 0 N])) → EC M pc2 lv (.ref (A.length + 1 + B.length) :: st) (cLs (A ++ o :: (B ++ [cA 0 N]))) d b s' K) : EC M pc lv (.int n :: st) (cLs (A ++ o :: B)) d (b + 1) (s' + N) K := by
  have hl : (cLs (A ++ o :: B)).1 = A.length + 1 + B.length := clen
  have hn := okC_app (x := cA 0 N) hok (fun k r e => absurd e (by simp [cA]))
  rw [ca_b] at hn
  refine EC_newa_int hk hp hd hN.1 hN.2.1 hN.2.2 (by rw [hl]; omega) (okC_nR hok (by rw [clen]; omega)) (by rw [hl]; exact lvO_nr hv (by omega)) (by rw [hl]; exact hst) rfl rfl ?_
  rw [cLs_newA, hl, ca_b]
  exact h hn
theorem CW_arrZ {N pc2 b s' : Nat} {n : Int32} {st : List Value} (hk : Cond.arrayClass .boolean ∈ ab_G) (hN : ¬ n < 0 ∧ n.toNatClampNeg = N ∧ N ≤ 100000) (hd : decode M.2.1 pc = .ok (.newarray .boolean, 2)) (hp : pc + 2 = pc2) (hv : lvO A.length lv) (hst : ab_nr (A.length + 1 + B.length) st) (hok : okC (A ++ o :: B)) (hs : A.length + B.length < 900000) (h : okC (A ++ o :: (B ++ [cA 1 N])) → EC M pc2 lv (.ref (A.length + 1 + B.length) :: st) (cLs (A ++ o :: (B ++ [cA 1 N]))) d b s' K) : EC M pc lv (.int n :: st) (cLs (A ++ o :: B)) d (b + 1) (s' + N) K := by
  have hl : (cLs (A ++ o :: B)).1 = A.length + 1 + B.length := clen
  have hn := okC_app (x := cA 1 N) hok (fun k r e => absurd e (by simp [cA]))
  rw [ca_b] at hn
  refine EC_newa_bool hk hp hd hN.1 hN.2.1 hN.2.2 (by rw [hl]; omega) (okC_nR hok (by rw [clen]; omega)) (by rw [hl]; exact lvO_nr hv (by omega)) (by rw [hl]; exact hst) rfl rfl ?_
  rw [cLs_newA, hl, ca_b]
  exact h hn
theorem CW_arrY {N pc2 b s' : Nat} {n : Int32} {st : List Value} (hk : Cond.arrayClass .byte ∈ ab_G) (hN : ¬ n < 0 ∧ n.toNatClampNeg = N ∧ N ≤ 100000) (hd : decode M.2.1 pc = .ok (.newarray .byte, 2)) (hp : pc + 2 = pc2) (hv : lvO A.length lv) (hst : ab_nr (A.length + 1 + B.length) st) (hok : okC (A ++ o :: B)) (hs : A.length + B.length < 900000) (h : okC (A ++ o :: (B ++ [cA 2 N])) → EC M pc2 lv (.ref (A.length + 1 + B.length) :: st) (cLs (A ++ o :: (B ++ [cA 2 N]))) d b s' K) : EC M pc lv (.int n :: st) (cLs (A ++ o :: B)) d (b + 1) (s' + N) K := by
  have hl : (cLs (A ++ o :: B)).1 = A.length + 1 + B.length := clen
  have hn := okC_app (x := cA 2 N) hok (fun k r e => absurd e (by simp [cA]))
  rw [ca_b] at hn
  refine EC_newa_byte hk hp hd hN.1 hN.2.1 hN.2.2 (by rw [hl]; omega) (okC_nR hok (by rw [clen]; omega)) (by rw [hl]; exact lvO_nr hv (by omega)) (by rw [hl]; exact hst) rfl rfl ?_
  rw [cLs_newA, hl, ca_b]
  exact h hn
theorem CW_arrD {N pc2 b s' : Nat} {n : Int32} {st : List Value} (hk : Cond.arrayClass .double ∈ ab_G) (hN : ¬ n < 0 ∧ n.toNatClampNeg = N ∧ N ≤ 100000) (hd : decode M.2.1 pc = .ok (.newarray .double, 2)) (hp : pc + 2 = pc2) (hv : lvO A.length lv) (hst : ab_nr (A.length + 1 + B.length) st) (hok : okC (A ++ o :: B)) (hs : A.length + B.length < 900000) (h : okC (A ++ o :: (B ++ [cA 4 N])) → EC M pc2 lv (.ref (A.length + 1 + B.length) :: st) (cLs (A ++ o :: (B ++ [cA 4 N]))) d b s' K) : EC M pc lv (.int n :: st) (cLs (A ++ o :: B)) d (b + 1) (s' + N) K := by
  have hl : (cLs (A ++ o :: B)).1 = A.length + 1 + B.length := clen
  have hn := okC_app (x := cA 4 N) hok (fun k r e => absurd e (by simp [cA]))
  rw [ca_b] at hn
  refine EC_newa_dbl hk hp hd hN.1 hN.2.1 hN.2.2 (by rw [hl]; omega) (okC_nR hok (by rw [clen]; omega)) (by rw [hl]; exact lvO_nr hv (by omega)) (by rw [hl]; exact hst) rfl rfl ?_
  rw [cLs_newA, hl, ca_b]
  exact h hn
theorem CW_anew5 {idx N pc2 b s' : Nat} {n : Int32} {st : List Value} (hk : Cond.classLink M.1.cls idx "CityBrigade$House" ∈ ab_G) (hN : ¬ n < 0 ∧ n.toNatClampNeg = N ∧ N ≤ 100000) (hd : decode M.2.1 pc = .ok (.anewarray idx, 3)) (hp : pc + 3 = pc2) (hv : lvO A.length lv) (hst : ab_nr (A.length + 1 + B.length) st) (hok : okC (A ++ o :: B)) (hs : A.length + B.length < 900000) (h : okC (A ++ o :: (B ++ [cA 5 N])) → EC M pc2 lv (.ref (A.length + 1 + B.length) :: st) (cLs (A ++ o :: (B ++ [cA 5 N]))) d b s' K) : EC M pc lv (.int n :: st) (cLs (A ++ o :: B)) d (b + 1) (s' + N) K := by
  have hl : (cLs (A ++ o :: B)).1 = A.length + 1 + B.length := clen
  have hn := okC_app (x := cA 5 N) hok (fun k r e => absurd e (by simp [cA]))
  rw [ca_b] at hn
  refine EC_anew5 hk hp hd hN.1 hN.2.1 hN.2.2 (by rw [hl]; omega) (okC_nR hok (by rw [clen]; omega)) (by rw [hl]; exact lvO_nr hv (by omega)) (by rw [hl]; exact hst) rfl rfl ?_
  rw [cLs_newA, hl, ca_b]
  exact h hn
theorem CW_anew6 {idx N pc2 b s' : Nat} {n : Int32} {st : List Value} (hk : Cond.classLink M.1.cls idx "CityBrigade$Crew" ∈ ab_G) (hN : ¬ n < 0 ∧ n.toNatClampNeg = N ∧ N ≤ 100000) (hd : decode M.2.1 pc = .ok (.anewarray idx, 3)) (hp : pc + 3 = pc2) (hv : lvO A.length lv) (hst : ab_nr (A.length + 1 + B.length) st) (hok : okC (A ++ o :: B)) (hs : A.length + B.length < 900000) (h : okC (A ++ o :: (B ++ [cA 6 N])) → EC M pc2 lv (.ref (A.length + 1 + B.length) :: st) (cLs (A ++ o :: (B ++ [cA 6 N]))) d b s' K) : EC M pc lv (.int n :: st) (cLs (A ++ o :: B)) d (b + 1) (s' + N) K := by
  have hl : (cLs (A ++ o :: B)).1 = A.length + 1 + B.length := clen
  have hn := okC_app (x := cA 6 N) hok (fun k r e => absurd e (by simp [cA]))
  rw [ca_b] at hn
  refine EC_anew6 hk hp hd hN.1 hN.2.1 hN.2.2 (by rw [hl]; omega) (okC_nR hok (by rw [clen]; omega)) (by rw [hl]; exact lvO_nr hv (by omega)) (by rw [hl]; exact hst) rfl rfl ?_
  rw [cLs_newA, hl, ca_b]
  exact h hn
theorem CW_anew7 {idx N pc2 b s' : Nat} {n : Int32} {st : List Value} (hk : Cond.classLink M.1.cls idx "CityBrigade$Call" ∈ ab_G) (hN : ¬ n < 0 ∧ n.toNatClampNeg = N ∧ N ≤ 100000) (hd : decode M.2.1 pc = .ok (.anewarray idx, 3)) (hp : pc + 3 = pc2) (hv : lvO A.length lv) (hst : ab_nr (A.length + 1 + B.length) st) (hok : okC (A ++ o :: B)) (hs : A.length + B.length < 900000) (h : okC (A ++ o :: (B ++ [cA 7 N])) → EC M pc2 lv (.ref (A.length + 1 + B.length) :: st) (cLs (A ++ o :: (B ++ [cA 7 N]))) d b s' K) : EC M pc lv (.int n :: st) (cLs (A ++ o :: B)) d (b + 1) (s' + N) K := by
  have hl : (cLs (A ++ o :: B)).1 = A.length + 1 + B.length := clen
  have hn := okC_app (x := cA 7 N) hok (fun k r e => absurd e (by simp [cA]))
  rw [ca_b] at hn
  refine EC_anew7 hk hp hd hN.1 hN.2.1 hN.2.2 (by rw [hl]; omega) (okC_nR hok (by rw [clen]; omega)) (by rw [hl]; exact lvO_nr hv (by omega)) (by rw [hl]; exact hst) rfl rfl ?_
  rw [cLs_newA, hl, ca_b]
  exact h hn
theorem CW_anew8 {idx N pc2 b s' : Nat} {n : Int32} {st : List Value} (hk : Cond.classLink M.1.cls idx "CityBrigade$Text" ∈ ab_G) (hN : ¬ n < 0 ∧ n.toNatClampNeg = N ∧ N ≤ 100000) (hd : decode M.2.1 pc = .ok (.anewarray idx, 3)) (hp : pc + 3 = pc2) (hv : lvO A.length lv) (hst : ab_nr (A.length + 1 + B.length) st) (hok : okC (A ++ o :: B)) (hs : A.length + B.length < 900000) (h : okC (A ++ o :: (B ++ [cA 8 N])) → EC M pc2 lv (.ref (A.length + 1 + B.length) :: st) (cLs (A ++ o :: (B ++ [cA 8 N]))) d b s' K) : EC M pc lv (.int n :: st) (cLs (A ++ o :: B)) d (b + 1) (s' + N) K := by
  have hl : (cLs (A ++ o :: B)).1 = A.length + 1 + B.length := clen
  have hn := okC_app (x := cA 8 N) hok (fun k r e => absurd e (by simp [cA]))
  rw [ca_b] at hn
  refine EC_anew8 hk hp hd hN.1 hN.2.1 hN.2.2 (by rw [hl]; omega) (okC_nR hok (by rw [clen]; omega)) (by rw [hl]; exact lvO_nr hv (by omega)) (by rw [hl]; exact hst) rfl rfl ?_
  rw [cLs_newA, hl, ca_b]
  exact h hn
theorem CW_new {idx ci pc2 b s' : Nat} {st : List Value} (hci : ci ≤ 12) (hk : Cond.classLink M.1.cls idx (ab_RX ci) ∈ ab_G ∧ Cond.instantiable (ab_RX ci) (ab_N ci) ∈ ab_G ∧ Cond.initialized (ab_RX ci) ∈ ab_G) (hd : decode M.2.1 pc = .ok (.new idx, 3)) (hp : pc + 3 = pc2) (hv : lvO A.length lv) (hst : ab_nr (A.length + 1 + B.length) st) (hok : okC (A ++ o :: B)) (hs : A.length + B.length < 900000) (h : okC ((A ++ o :: B) ++ [cO ci]) → EC M pc2 lv (.ref (A.length + 1 + B.length) :: st) (cLs ((A ++ o :: B) ++ [cO ci])) d b s' K) : EC M pc lv st (cLs (A ++ o :: B)) d (b + 1) (s' + ab_N ci) K := by
  have hl : (cLs (A ++ o :: B)).1 = A.length + 1 + B.length := clen
  have hn := okC_app (x := cO ci) hok (fun k r e => absurd e (by simp [cO]))
  refine EC_new hci hk hp hd (by rw [hl]; omega) (okC_nR hok (by rw [clen]; omega)) (by rw [hl]; exact lvO_nr hv (by omega)) (by rw [hl]; exact hst) rfl rfl ?_
  rw [cLs_new, hl]
  exact h hn
end CWR
