theorem ec_of {l : Launch} {s : State} {b : Nat} {d0 : Drawn} (h : lw_T l s b) : ec_Z (s.setDrawn d0) := ec_Zm (s := s) (Vm.Alike.refl s.vm) ⟨va_AO.of (h.2.2.2 _ (List.mem_of_getElem? (i := 168) (by decide +kernel))), va_AO.of (h.2.2.2 _ (List.mem_of_getElem? (i := 358) (by decide +kernel))), va_AO.of (h.2.2.2 _ (List.mem_of_getElem? (i := 360) (by decide +kernel))), va_AO.of (h.2.2.2 _ (List.mem_of_getElem? (i := 627) (by decide +kernel)))⟩
section ELS
variable {L : Nat} {xs : Nat → Int32} {pc : Nat} {lv : List (Nat × Value)} {st : List Value} {σ : ab_St} {bu : Nat}
theorem EL_invIC {idx n : Nat} {M' : ab_M} {rest : List Value} (As : List Value) {b' : Nat} (hlink : Cond.methodLink RL idx M'.1 ∈ ab_G) (hinst : Cond.instanceMethod M'.1 ∈ ab_G) (hini : M'.1.name = "<init>") (hvoid : M'.2.2.2 = none) {d' b1 b2 pc2 : Nat} (hp : pc + 3 = pc2) (hM : ab_okM M' n) (hd : decode cL_law pc = .ok (.invokespecial idx, 3)) (hst : st = As.reverse ++ .ref b' :: rest) (hn : As.length = n) (hlen : (lg_sl (.ref b' :: As)).length ≤ M'.2.2.1) (hrm : (rest.map fun v => v.category).sum ≤ 8) (hdd : d' ≤ 1800) (hbc : b1 + b2 = bu) (hlv : b1 = 0 ∨ (ab_refs σ.1 rest ∧ ab_refs σ.1 (lv.map (·.2))))
    (h : EC M' 0 (lv_args 0 (.ref b' :: As)) [] σ d' b1 (60 * b1) (fun r σ' => EL L xs pc2 lv (r.toList ++ rest) σ' b2)) : EL L xs pc lv st σ bu := by
  intro p l e s m below meth c9 D tyc adK adV H locs cells slots ad d0 ls b hC hP hD hS hl hsa hX hbl hd0 h3 h4
  subst hst
  subst hp
  have hmet := ec_met (l := l) (D := D) (tyc := tyc) (adK := adK) (adV := adV) (ad := ad) (sz := H.size) hsa hM hlen h
  have hFr : ∀ q, va_A (ab_w tyc ad σ) H.size q → (fun q : Nat => s.heap.size ≤ q) q := fun q hq => by
    rcases hq with ⟨k, x, hk⟩ | hq
    · exact hD.2 k (q, x) hk
    · exact Nat.le_trans hS.1 hq
  have hrm2 : ((rest.map (ab_cv ad)).map fun v => v.category).sum ≤ 8 := by
    rw [List.map_map]
    have : ((fun v => v.category) ∘ ab_cv ad) = fun v : Value => v.category := funext fun v => ab_cv_cat ad v
    rw [this]; exact hrm
  refine ab_back hd0 (va_runI_D (b := ad b') (s := s.setDrawn d0) (R := room_1) (As := As.map (ab_cv ad)) (rest := rest.map (ab_cv ad)) (Ts := ab_G) ⟨hC.1, hC.2.1, hC.2.2.2.1, hC.2.2.2.2.1, (dr_words hC.2.2.2.2.2.1 d0)⟩ hmet ⟨by rw [← hvoid]; exact (callB_of n (dr_words hC.2.2.2.2.2.1 d0) (ab_Gin M' hM.2.2.1) rfl rfl rfl ((dr_words hC.2.2.2.2.2.1 d0) _ hM.2.2.2.1) ((dr_words hC.2.2.2.2.2.1 d0) _ hlink) ⟨hM.2.1.1, hM.2.1.2, hM.2.2.2.2.1⟩ ⟨by show d' + 1 ≤ 2048; omega, by show 8 + (M'.2.2.1 + 11) + 45 * d' ≤ 84000; have := hM.2.2.2.2.2; omega⟩), hini, (dr_words hC.2.2.2.2.2.1 d0) _ hinst⟩ ⟨ec_I_blind, (fun U hU hW => ⟨rfl, ⟨ab_ST.pass (s := s.setDrawn d0) (A := (fun q : Nat => s.heap.size ≤ q)) hW (by rw [hU]; exact hS) hFr (hC.2.2.2.2.2.2.2.2.2.2.2.same rfl rfl), by rw [hU], by rw [hU]; exact hP, va_K.moved hW.alike hC.2.2.2.2.2.2.2.1, hD.weaken (fun _ _ _ _ => trivial), ab_NW.moved hW (ab_NW.drawn (d := d0) hC.2.2.2.2.2.2.2.2.1)⟩, ec_Zm (s := s.setDrawn d0) hW.alike (ec_of hX.2)⟩)⟩ rfl (by rw [List.length_map]; exact hn) hl.1 (by simp [ab_cv]) (lv_room hrm2) hd ⟨by show _ ≤ 601024; omega, by show _ ≤ 7293034; omega⟩) hS (fun q _ hq => hFr q hq) hFr (fun r σ' ad' H1 locs1 d1 hk hP1 hD1 hG1 hS1 hd1 => ?_)
  obtain ⟨g0, g1, g2, g3⟩ := hG1
  have hrest : rest.map (ab_cv ad') = rest.map (ab_cv ad) := by
    rcases hlv with q | q
    · rw [g3 q]
    · exact ab_refs_map q.1 g2
  have hlvs : lv.map (fun q => (q.1, ab_cv ad' q.2)) = lv.map (fun q => (q.1, ab_cv ad q.2)) := by
    rcases hlv with q | q
    · rw [g3 q]
    · exact ab_refs_lv q.2 g2
  have hstk : (r.map (ab_cv ad')).toList ++ rest.map (ab_cv ad) = (r.toList ++ rest).map (ab_cv ad') := by
    rw [List.map_append, hrest]
    cases r <;> rfl
  rw [hstk]
  exact hk p l e s m below meth c9 D tyc adK adV H1 locs1 (cells + b1) (slots + 60 * b1) ad' d1 ls b hC hP1 (hD1.weaken (fun _ q _ hq => hFr q.1 hq)) hS1 (by rw [hlvs]; exact hl) g0 hX hbl hd1 (by omega) (by omega)
theorem EL_new {idx ci k b2 : Nat} (hci : ci ≤ 12) (hk : Cond.classLink RL idx (ab_RX ci) ∈ ab_G ∧ Cond.instantiable (ab_RX ci) (ab_N ci) ∈ ab_G ∧ Cond.initialized (ab_RX ci) ∈ ab_G) {pc2 : Nat} (hp : pc + 3 = pc2) (hd : decode cL_law pc = .ok (.new idx, 3)) (hn : σ.1 < 1000000) (hR : ab_nR σ) (hlv : ab_nr σ.1 (lv.map (·.2))) (hst : ab_nr σ.1 st) (hk1 : 1 ≤ k) (hkN : ab_N ci ≤ 60 * k) (hb : k + b2 = bu) (h : EL L xs pc2 lv (.ref σ.1 :: st) (ab_new σ ci) b2) : EL L xs pc lv st σ bu := by
  subst hp
  intro p l e s m below meth c9 D tyc adK adV H locs cells slots ad d0 ls b hC hP hD hS hl hsa hX hbl hd0 h3 h4
  obtain ⟨f1, f2, f3⟩ := ab_cf ci hci
  refine va_new (s := s.setDrawn d0) (ci := ci) (C := ab_RX ci) (T := ab_TX ci) (N := ab_N ci) (fs := (List.range (ab_N ci)).map (fun k => if ab_isr (ab_tf ci k) = true then .null else .int 0)) hC.1 hC.2.1 (dr_words hC.2.2.2.2.2.1 d0) f1 (ab_tf ci) f2 hC.2.2.2.2.1 ((dr_words hC.2.2.2.2.2.1 d0) _ hk.1) ((dr_words hC.2.2.2.2.2.1 d0) _ hk.2.1) ((dr_words hC.2.2.2.2.2.1 d0) _ hk.2.2) hC.2.2.2.2.2.2.2.1 hP hD hS hC.2.2.2.2.2.2.2.2.2.1 (ab_cl_at hci) (fun j hj => ?_) (by show _ ≤ 601024; omega) (by show _ ≤ 7293034; omega) hd (fun q H1 hP1 hD1 hS1 => ?_)
  · rw [ab_df ci hci j hj]
    simp [vp_V, List.getD_eq_getElem?_getD, List.getElem?_map, List.getElem?_range hj]
  · have h9 := h p l e s m below meth c9 D tyc adK adV H1 locs (cells + 1) (slots + ab_N ci) (fun j => if j = σ.1 then q else ad j) d0 ls b hC (by rw [ab_w_new hR]; exact hP1) (by rw [ab_w_new hR]; exact hD1) hS1 (by rw [ab_nr_lv hlv]; exact hl) (ab_sa_up hsa hn) hX hbl hd0 (by omega) (by omega)
    rw [show (Value.ref σ.1 :: st).map (ab_cv (fun j => if j = σ.1 then q else ad j)) = Value.ref q :: st.map (ab_cv ad) by rw [List.map_cons, ab_nr_map hst]; simp [ab_cv]] at h9
    exact h9
theorem EL_newa_long {k b2 N : Nat} {n : Int32} (hk : Cond.arrayClass .long ∈ ab_G) {pc2 : Nat} (hp : pc + 2 = pc2) (hd : decode cL_law pc = .ok (.newarray .long, 2)) (hneg : ¬ n < 0) (hN : n.toNatClampNeg = N) (hsm : N ≤ 100000) (hn : σ.1 < 1000000) (hR : ab_nR σ) (hlv : ab_nr σ.1 (lv.map (·.2))) (hst : ab_nr σ.1 st) (hk1 : 1 ≤ k) (hkN : N ≤ 60 * k) (hb : k + b2 = bu) (h : EL L xs pc2 lv (.ref σ.1 :: st) (ab_newA σ 3 N) b2) : EL L xs pc lv (.int n :: st) σ bu := by
  subst hp
  intro p l e s m below meth c9 D tyc adK adV H locs cells slots ad d0 ls b hC hP hD hS hl hsa hX hbl hd0 h3 h4
  have h8 : componentBytes .long ≤ 8 := by decide
  refine va_newa (s := s.setDrawn d0) (atype := .long) (ty := .long) (N' := N) (a0 := (N, .inr (.inl (fun _ => 0)))) hC.1 hC.2.1 ((dr_words hC.2.2.2.2.2.1 d0) _ hk) rfl hC.2.2.2.2.2.2.2.1 hP hD hS hC.2.2.2.2.2.2.2.2.2.1 (fun cA => rfl) hneg hN (Nat.le_trans (Nat.mul_le_mul hsm h8) (by decide)) (by show _ ≤ 601024; omega) (by show _ ≤ 7293034; omega) hd (fun q cA H1 hK1 hP1 hD1 hS1 => ?_)
  have e1 : (s.setDrawn d0).vm.findClass ("[" ++ (.long : FieldType).toString) = some cA := (hK1.2 9 (cA, .long) (by rw [List.getElem?_append_right (by simp [ab_tys])]; simp [ab_tys])).2
  have e2 : (s.setDrawn d0).vm.findClass ("[" ++ (.long : FieldType).toString) = some (tyc 3) := (hC.2.2.2.2.2.2.2.1.2 3 (tyc 3, .long) (ab_tys_at (by decide))).2
  have e3 : cA = tyc 3 := Option.some.inj (e1.symm.trans e2)
  subst e3
  have h9 := h p l e s m below meth c9 D tyc adK adV H1 locs (cells + 1) (slots + N) (fun j => if j = σ.1 then q else ad j) d0 ls b hC (by rw [ab_w_newA hR]; exact hP1) (by rw [ab_w_newA hR]; exact hD1) hS1 (by rw [ab_nr_lv hlv]; exact hl) (ab_sa_up hsa hn) hX hbl hd0 (by omega) (by omega)
  rw [show (Value.ref σ.1 :: st).map (ab_cv (fun j => if j = σ.1 then q else ad j)) = Value.ref q :: st.map (ab_cv ad) by rw [List.map_cons, ab_nr_map hst]; simp [ab_cv]] at h9
  exact h9
end ELS
theorem cnRL_8 : Cond.classLink RL 8 (ab_RX 11) ∈ ab_G ∧ Cond.instantiable (ab_RX 11) (ab_N 11) ∈ ab_G ∧ Cond.initialized (ab_RX 11) ∈ ab_G := ⟨ab_in 113 (by decide +kernel) (by decide +kernel), ab_in 114 (by decide +kernel) (by decide +kernel), ab_in 86 (by decide +kernel) (by decide +kernel)⟩
theorem cnRL_16 : Cond.classLink RL 16 (ab_RX 12) ∈ ab_G ∧ Cond.instantiable (ab_RX 12) (ab_N 12) ∈ ab_G ∧ Cond.initialized (ab_RX 12) ∈ ab_G := ⟨ab_in 1841 (by decide +kernel) (by decide +kernel), ab_in 1842 (by decide +kernel) (by decide +kernel), ab_in 99 (by decide +kernel) (by decide +kernel)⟩
theorem ilRL_15 : Cond.methodLink RL 15 yX11_init ∈ ab_G ∧ Cond.instanceMethod yX11_init ∈ ab_G := ⟨ab_in 115 (by decide +kernel) (by decide +kernel), ab_in 116 (by decide +kernel) (by decide +kernel)⟩
theorem ilRL_18 : Cond.methodLink RL 18 yX12_init ∈ ab_G ∧ Cond.instanceMethod yX12_init ∈ ab_G := ⟨ab_in 1843 (by decide +kernel) (by decide +kernel), ab_in 1844 (by decide +kernel) (by decide +kernel)⟩
theorem ac_J : Cond.arrayClass .long ∈ ab_G := ab_in 2750 (by decide +kernel) (by decide +kernel)
/-- the cells before the first call -/
def LQ0 : List CellD := (([] ++ mk11 0) ++ mk12 246) ++ [cA 3 1]
theorem okC_0 : okC [] := fun c hc => absurd hc List.not_mem_nil
set_option maxHeartbeats 4000000 in
theorem EL_start {L : Nat} {xs : Nat → Int32} (h : EL L xs 23 [(1, .ref 0), (2, .ref 246), (3, .ref 337), (4, .int 0)] [] (cLs LQ0) 600) : EL L xs 0 [] [] (cLs []) 1252 := by
  refine EL_new (idx := 8) (ci := 11) (k := 1) (b2 := 1251) (by decide) cnRL_8 (pc2 := 3) rfl dL_law_0 (by decide) (okC_nR okC_0 (by decide)) nr0 nr0 (by decide) (by decide) rfl ?_
  rw [cLs_new]
  have ok1 : okC ([] ++ [cO 11]) := okC_app okC_0 (fun k r e => by cases e)
  refine EL_dup (pc2 := 4) rfl dL_law_3 rfl ?_
  refine EL_invIC (M' := MX11_init) [] (b' := 0) (rest := [.ref 0]) ilRL_15.1 ilRL_15.2 rfl rfl (pc2 := 7) rfl okX11_init dL_law_4 rfl rfl (by decide) (by decide) (d' := 3) (by decide) (b1 := 245) (b2 := 1006) rfl (Or.inr ⟨rf1 (by decide), fun v hv => absurd hv List.not_mem_nil⟩) ?_
  refine EC_more (bc := 245) (bs := 13157) (by decide) (by decide) (by decide) ?_
  refine iX11_init [] (n := 0) rfl (by decide) ok1 3 (by decide) _ (fun hok1 => ?_)
  have hl1 : ([] ++ mk11 0).length = 246 := mk11_len 0
  have hc1 : (cLs ([] ++ mk11 0)).1 = 246 := hl1
  generalize hA1 : ([] ++ mk11 0 : List CellD) = A1 at hok1 hl1 hc1 ⊢
  show EL L xs 7 [] [.ref 0] (cLs A1) 1006
  refine EL_astore_n (k := 1) (pc2 := 8) rfl dL_law_7 (by decide) [0] [(1, .ref 0)] rfl ?_
  refine EL_new (idx := 16) (ci := 12) (k := 3) (b2 := 1003) (by decide) cnRL_16 (pc2 := 11) rfl dL_law_8 (by rw [hc1]; decide) (okC_nR hok1 (by rw [hl1]; decide)) (by rw [hc1]; exact lvO_nr (n := 0) (lvO_r (Nat.le_refl _) lvO_n) (by decide)) nr0 (by decide) (by decide) rfl ?_
  rw [cLs_new, hc1]
  have ok2 : okC (A1 ++ [cO 12]) := okC_app hok1 (fun k r e => by cases e)
  have hl2 : (cLs (A1 ++ [cO 12])).1 = 247 := by show (A1 ++ [cO 12]).length = 247; rw [List.length_append, hl1]; rfl
  refine EL_dup (pc2 := 12) rfl dL_law_11 rfl ?_
  refine EL_invIC (M' := MX12_init) [] (b' := 246) (rest := [.ref 246]) ilRL_18.1 ilRL_18.2 rfl rfl (pc2 := 15) rfl okX12_init dL_law_12 rfl rfl (by decide) (by decide) (d' := 1) (by decide) (b1 := 402) (b2 := 601) rfl (Or.inr ⟨by rw [hl2]; exact rf1 (by decide), by rw [hl2]; exact rf1 (by decide)⟩) ?_
  refine EC_more (bc := 90) (bs := 24058) (by decide) (by decide) (by decide) ?_
  refine iX12_init A1 (n := 246) hl1 (by decide) ok2 1 (by decide) _ (fun hok3 => ?_)
  have hl3 : (A1 ++ mk12 246).length = 337 := by rw [List.length_append, hl1, mk12_len]
  have hc3 : (cLs (A1 ++ mk12 246)).1 = 337 := hl3
  generalize hA3 : A1 ++ mk12 246 = A3 at hok3 hl3 hc3 ⊢
  show EL L xs 15 [(1, .ref 0)] [.ref 246] (cLs A3) 601
  refine EL_astore_n (k := 2) (pc2 := 16) rfl dL_law_15 (by decide) [1, 0] [(1, .ref 0), (2, .ref 246)] rfl ?_
  refine EL_iconst (pc2 := 17) (v := 1) rfl dL_law_16 (by decide) ?_
  refine EL_newa_long (k := 1) (b2 := 600) (N := 1) ac_J (pc2 := 19) rfl dL_law_17 (by decide) (by decide) (by decide) (by rw [hc3]; decide) (okC_nR hok3 (by rw [hl3]; decide)) (by rw [hc3]; exact lvO_nr (n := 246) (lvO_r (by decide) (lvO_r (Nat.le_refl _) lvO_n)) (by decide)) nr0 (by decide) (by decide) rfl ?_
  rw [cLs_newA, hc3]
  have hA4 : A3 ++ [cA 3 1] = LQ0 := by rw [← hA3, ← hA1]; rfl
  rw [hA4]
  refine EL_astore_n (k := 3) (pc2 := 20) rfl dL_law_19 (by decide) [1, 2, 0] [(1, .ref 0), (2, .ref 246), (3, .ref 337)] rfl ?_
  refine EL_iconst (pc2 := 21) (v := 0) rfl dL_law_20 (by decide) ?_
  exact EL_istore (pc2 := 23) rfl dL_law_21 (by decide) (by decide) [1, 2, 3, 0] [(1, .ref 0), (2, .ref 246), (3, .ref 337), (4, .int 0)] rfl h
