section LDW
variable {p : Program} {l : Launch} {e : Env} {R : Room} {s : State} {m : MethodId} {args : Array Value} {below : List Frame} {meth : Method} {c : Code} {H : Heap} {locs : List Loc} {cells slots : Nat} {Q : State → Prop} {cc : ByteArray} {pc : Nat} {ls : Array Slot} {rest : List Value}
theorem ab_ldcwF (hexec : p.tables.exec = Jvm.exec) (hb : c.code = cc) {own : String} {index : Nat} {v : UInt32} (hown : s.vm.findClass own = some m.cls) (hconst : (Jvm.Cond.constantFloat own index v).before args s = true) (hdg : decode cc pc = .ok (.ldc_w index, 3)) (k : W p l e R s m args below meth c H locs cells slots Q (F0 m (pc + 3) ls (.float v :: rest))) : W p l e R s m args below meth c H locs cells slots Q (F0 m pc ls rest) := by
  intro T hT X
  obtain ⟨t, a, b⟩ := k T hT X
  refine ⟨t, ?_, b⟩
  subst hb
  obtain ⟨k1, cf, hk, hcf, hcp⟩ := Cond.constantFloat_spec hown hconst
  obtain ⟨k', hk', he⟩ := X.warmed.alike.2.2 _ _ hk
  jvm_step X.here [hexec, hdg, ldc_w.wp_float (s := T) (f := F0 m pc ls rest) X.here.top hk' (by rw [he]; exact hcf) hcp]
  exact a
theorem ab_ldcwS (hexec : p.tables.exec = Jvm.exec) (hb : c.code = cc) {own tx : String} {index q : Nat} (hown : s.vm.findClass own = some m.cls) (hZ : vk_R own index tx q s) (hdg : decode cc pc = .ok (.ldc_w index, 3)) (k : W p l e R s m args below meth c H locs cells slots Q (F0 m (pc + 3) ls (.ref q :: rest))) : W p l e R s m args below meth c H locs cells slots Q (F0 m pc ls rest) := by
  intro T hT X
  obtain ⟨t, a, b⟩ := k T hT X
  refine ⟨t, ?_, b⟩
  subst hb
  obtain ⟨k1, cf, i, a', hk, hcf, hcp, -, hr, hev'⟩ := Cond.stringRef_spec hown hZ.1
  cases hZ.2.symm.trans hev'
  obtain ⟨k', hk', he⟩ := X.warmed.alike.2.2 _ _ hk
  have hr' : k'.resolved[index]? = some (some (.string q)) := by
    rcases X.warmed.entry hk hk' index with h | ⟨h, -⟩
    · rw [h]; exact hr
    · rw [hr] at h; cases h
  jvm_step X.here [hexec, hdg, ldc_w.wp_string (e := e) (s := T) (f := F0 m pc ls rest) X.here.top hk' (by rw [he]; exact hcf) hcp hr']
  exact a
end LDW
section AWQ
variable {M : ab_M} {pc : Nat} {lv : List (Nat × Value)} {st : List Value} {x : ab_X} {d bc bs : Nat} {K : Option Value → ab_St → Prop}
theorem EW_ldcwf {idx : Nat} {v : UInt32} (hw : Cond.constantFloat M.1.cls idx v ∈ ab_G) {pc2 : Nat} (hp : pc + 3 = pc2) (hd : decode M.2.1 pc = .ok (.ldc_w idx, 3)) (h : EW M pc2 lv (.float v :: st) (aS x) d bc bs K) : EW M pc lv st (aS x) d bc bs K := by
  subst hp
  intro p l e R s m args below meth c9 D tyc adK adV A H locs cells slots ad d0 ls G hC hP hD hS hl hsa hd0 h1 h2 h3 h4 hG
  exact ab_ldcwF (s := s.setDrawn d0) hC.1 hC.2.1 hC.2.2.2.2.1 ((dr_words hC.2.2.2.2.2.1 d0) _ hw) hd (h p l e R s m args below meth c9 D tyc adK adV A H locs cells slots ad d0 ls G hC hP hD hS hl hsa hd0 h1 h2 h3 h4 hG)
theorem AW_strw_M503 (hm : M.1.cls = "CityBrigadeModel") {pc2 : Nat} (hp : pc + 3 = pc2) (hd : decode M.2.1 pc = .ok (.ldc_w 503, 3)) (h : EW M pc2 lv (.ref 1000000 :: st) (aS x) d bc bs K) : EW M pc lv st (aS x) d bc bs K := by
  subst hp
  intro p l e R s m args below meth c9 D tyc adK adV A H locs cells slots ad d0 ls G hC hP hD hS hl hsa hd0 h1 h2 h3 h4 hG
  have h9 := (h p l e R s m args below meth c9 D tyc adK adV A H locs cells slots ad d0 ls G hC hP hD hS hl hsa hd0 h1 h2 h3 h4 hG)
  rw [show (Value.ref 1000000 :: st).map (ab_cv ad) = Value.ref (adK 0) :: st.map (ab_cv ad) by simp [ab_cv, (hsa 0 (by decide)).1]] at h9
  exact ab_ldcwS (s := s.setDrawn d0) hC.1 hC.2.1 (own := "CityBrigadeModel") (by rw [← hm]; exact hC.2.2.2.2.1) (hC.2.2.2.2.2.2.2.2.2.2.2.2.2.2.2.2.2.2.1.same rfl) hd h9
theorem AW_strw_M505 (hm : M.1.cls = "CityBrigadeModel") {pc2 : Nat} (hp : pc + 3 = pc2) (hd : decode M.2.1 pc = .ok (.ldc_w 505, 3)) (h : EW M pc2 lv (.ref 1000001 :: st) (aS x) d bc bs K) : EW M pc lv st (aS x) d bc bs K := by
  subst hp
  intro p l e R s m args below meth c9 D tyc adK adV A H locs cells slots ad d0 ls G hC hP hD hS hl hsa hd0 h1 h2 h3 h4 hG
  have h9 := (h p l e R s m args below meth c9 D tyc adK adV A H locs cells slots ad d0 ls G hC hP hD hS hl hsa hd0 h1 h2 h3 h4 hG)
  rw [show (Value.ref 1000001 :: st).map (ab_cv ad) = Value.ref (adK 1) :: st.map (ab_cv ad) by simp [ab_cv, (hsa 1 (by decide)).1]] at h9
  exact ab_ldcwS (s := s.setDrawn d0) hC.1 hC.2.1 (own := "CityBrigadeModel") (by rw [← hm]; exact hC.2.2.2.2.1) (hC.2.2.2.2.2.2.2.2.2.2.2.2.2.2.2.2.2.2.2.1.same rfl) hd h9
theorem AW_strw_M507 (hm : M.1.cls = "CityBrigadeModel") {pc2 : Nat} (hp : pc + 3 = pc2) (hd : decode M.2.1 pc = .ok (.ldc_w 507, 3)) (h : EW M pc2 lv (.ref 1000002 :: st) (aS x) d bc bs K) : EW M pc lv st (aS x) d bc bs K := by
  subst hp
  intro p l e R s m args below meth c9 D tyc adK adV A H locs cells slots ad d0 ls G hC hP hD hS hl hsa hd0 h1 h2 h3 h4 hG
  have h9 := (h p l e R s m args below meth c9 D tyc adK adV A H locs cells slots ad d0 ls G hC hP hD hS hl hsa hd0 h1 h2 h3 h4 hG)
  rw [show (Value.ref 1000002 :: st).map (ab_cv ad) = Value.ref (adK 2) :: st.map (ab_cv ad) by simp [ab_cv, (hsa 2 (by decide)).1]] at h9
  exact ab_ldcwS (s := s.setDrawn d0) hC.1 hC.2.1 (own := "CityBrigadeModel") (by rw [← hm]; exact hC.2.2.2.2.1) (hC.2.2.2.2.2.2.2.2.2.2.2.2.2.2.2.2.2.2.2.2.same rfl) hd h9
end AWQ
