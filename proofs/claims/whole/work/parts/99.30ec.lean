/-! CONSTRUCTORS: a judgement that knows the rows of objects, too. -/
def ec_Z (s : State) : Prop := va_AO "CityBrigade$House" s ∧ va_AO "CityBrigade$Crew" s ∧ va_AO "CityBrigade$Call" s ∧ va_AO "CityBrigade$Text" s
theorem ec_Zm {s U : State} (h : s.vm.Alike U.vm) (z : ec_Z s) : ec_Z U := ⟨z.1.moved h, z.2.1.moved h, z.2.2.1.moved h, z.2.2.2.moved h⟩
def EC (M : ab_M) (pc : Nat) (lv : List (Nat × Value)) (st : List Value) (σ : ab_St) (d bc bs : Nat) (K : Option Value → ab_St → Prop) : Prop :=
  ∀ (p : Program) (l : Launch) (e : Env) (R : Room) (s : State) (m : MethodId) (args : Array Value) (below : List Frame) (meth : Method) (c : Code) (D : va_G) (tyc : Nat → ClassId) (adK adV : Nat → Nat) (A : Nat → Prop) (H : Heap) (locs : List Loc) (cells slots : Nat) (ad : Nat → Nat) (d0 : Drawn) (ls : Array Slot) (G : ab_St → (Nat → Nat) → Prop),
    ab_C M p s m args meth c D tyc adK adV A → va_P D ab_cl (ab_w tyc ad σ) H → va_D A (ab_w tyc ad σ) → va_S A s.heap H locs → lv_has ls M.2.2.1 (lv.map (fun q => (q.1, ab_cv ad q.2))) → ab_sa adK adV ad → s.drawn.sameBut d0 lw_cs → d ≤ R.frames → 45 * d ≤ R.locals → cells + bc ≤ R.cells → slots + bs ≤ R.slots →
    (∀ (σ' : ab_St) (ad' : Nat → Nat), σ.1 ≤ σ'.1 → (∀ q, q < σ.1 → ad' q = ad q) → (bc = 0 → ad' = ad) → ab_sa adK adV ad' → G σ' ad') → ec_Z s →
    W p l e R (s.setDrawn d0) m args below meth c H locs cells slots (MQD lw_cs below (ab_Q D tyc A G K) args s R.cells R.slots A) (F0 m pc ls (st.map (ab_cv ad)))
theorem EC_mono {M : ab_M} {pc : Nat} {lv : List (Nat × Value)} {st : List Value} {σ : ab_St} {d bc bs : Nat} {K K' : Option Value → ab_St → Prop} (hk : ∀ r σ', K r σ' → K' r σ') (h : EC M pc lv st σ d bc bs K) : EC M pc lv st σ d bc bs K' := by
  intro p l e R s m args below meth c D tyc adK adV A H locs cells slots ad d0 ls G hC hP hD hS hl hsa hd0 h1 h2 h3 h4 hG hZ T hT X
  obtain ⟨t, a, d1, hd1, o, b1, b2, ⟨⟨r, σ', ad', q1, q2, q3⟩, q4⟩, b4⟩ := h p l e R s m args below meth c D tyc adK adV A H locs cells slots ad d0 ls G hC hP hD hS hl hsa hd0 h1 h2 h3 h4 hG hZ T hT X
  exact ⟨t, a, d1, hd1, o, b1, b2, ⟨⟨r, σ', ad', q1, hk r σ' q2, q3⟩, q4⟩, b4⟩
theorem EC_more {M : ab_M} {pc : Nat} {lv : List (Nat × Value)} {st : List Value} {σ : ab_St} {d bc bs bc' bs' : Nat} {K : Option Value → ab_St → Prop} (h0 : 0 < bc) (hb : bc ≤ bc') (hs : bs ≤ bs') (h : EC M pc lv st σ d bc bs K) : EC M pc lv st σ d bc' bs' K := by
  intro p l e R s m args below meth c D tyc adK adV A H locs cells slots ad d0 ls G hC hP hD hS hl hsa hd0 h1 h2 h3 h4 hG hZ
  exact h p l e R s m args below meth c D tyc adK adV A H locs cells slots ad d0 ls G hC hP hD hS hl hsa hd0 h1 h2 (by omega) (by omega) (fun σ' ad' q1 q2 q3 q4 => hG σ' ad' q1 q2 (fun e => absurd e (by omega)) q4) hZ
section ECR
variable {M : ab_M} {pc : Nat} {lv : List (Nat × Value)} {st : List Value} {σ : ab_St} {d bc bs : Nat} {K : Option Value → ab_St → Prop}
def ec_I (D : va_G) (tyc : Nat → ClassId) (adK adV ad : Nat → Nat) (σ : ab_St) (sz : Nat) (U : State) : Prop := ab_I D tyc adK adV ad σ sz U ∧ ec_Z U
theorem ec_I_blind {D : va_G} {tyc : Nat → ClassId} {adK adV ad : Nat → Nat} {sz : Nat} {As : List Value} : FrameBlind (va_Pc As (ec_I D tyc adK adV ad σ sz)) := by
  intro a U g mk q
  obtain ⟨q0, q1, q2⟩ := q
  exact ⟨q0, (ab_I_blind a U g mk (show va_Pc As (ab_I D tyc adK adV ad σ sz) a U from ⟨q0, q1⟩)).2, ec_Zm (s := U) (U := U.calling g mk a) (Vm.Alike.refl U.vm) q2⟩
theorem ec_met {l : Launch} {D : va_G} {tyc : Nat → ClassId} {adK adV ad : Nat → Nat} {sz n : Nat} {As : List Value} (hsa : ab_sa adK adV ad) (hM : ab_okM M n) (hlen : (lg_sl As).length ≤ M.2.2.1) (h : EC M 0 (lv_args 0 As) [] σ d bc bs K) :
    MetD lw_cs l M.1 (ab_ws M) (ab_rm d bc bs) (va_Pc (As.map (ab_cv ad)) (ec_I D tyc adK adV ad σ sz)) (ab_Q D tyc (va_A (ab_w tyc ad σ) sz) (ab_Gc adK adV σ ad bc) K) bc bs (va_A (ab_w tyc ad σ) sz) := by
  refine MetD.ofW (cc := M.2.1) (maxL := M.2.2.1) (ret := M.2.2.2) hM.1 rfl ?_
  intro p e s m args below meth c s₁ B hml hv hd0
  obtain ⟨rfl, ⟨hST, hsz, hP, hK, hD0, hN⟩, hZ⟩ := hv
  subst hsz
  have hD := hD0.self (sz := s.heap.size)
  have hl := lv_entry (As.map (ab_cv ad)) (n := M.2.2.1) (by rw [ab_sl_len]; exact hlen)
  rw [lg_entry_eq]
  rw [ab_args_map] at hl
  exact h p l e (headSpec (ab_ws M) (ab_rm d bc bs)).room s m _ below meth c D tyc adK adV (va_A (ab_w tyc ad σ) s.heap.size) s.heap [] 0 0 ad s.drawn _ (ab_Gc adK adV σ ad bc)
    ⟨B.exec, B.bytes, B.returns, hml, findClass_of_methodNamed B.named, fun w hw => atoms_spec (ws := ab_ws M) B.pre w (List.mem_cons_of_mem _ hw), B.notSynchronized, hK, hN, fun q hq => Or.inr hq, (name_of_methodNamed B.named B.method).1, hST⟩
    hP hD va_S.rf hl hsa hd0 (Nat.le_refl _) (Nat.le_refl _) (by show 0 + bc ≤ bc; omega) (by show 0 + bs ≤ bs; omega) (fun σ' ad' q1 q2 q3 q4 => ⟨q4, q1, q2, q3⟩) hZ
theorem EC_iconst {n : Int} {v : Int32} {pc2 : Nat} (hp : pc + 1 = pc2) (hd : decode M.2.1 pc = .ok (.iconst n, 1)) (hv : Int32.ofInt n = v) (h : EC M pc2 lv (.int v :: st) σ d bc bs K) : EC M pc lv st σ d bc bs K := by
  subst hp
  intro p l e R s m args below meth c9 D tyc adK adV A H locs cells slots ad d0 ls G hC hP hD hS hl hsa hd0 h1 h2 h3 h4 hG hZ
  exact lv_iconst hC.1 hC.2.1 hd hv (h p l e R s m args below meth c9 D tyc adK adV A H locs cells slots ad d0 ls G hC hP hD hS hl hsa hd0 h1 h2 h3 h4 hG hZ)
theorem EC_bipush {n : Int} {v : Int32} {pc2 : Nat} (hp : pc + 2 = pc2) (hd : decode M.2.1 pc = .ok (.bipush n, 2)) (hv : (Int8.ofInt n).toInt32 = v) (h : EC M pc2 lv (.int v :: st) σ d bc bs K) : EC M pc lv st σ d bc bs K := by
  subst hp
  intro p l e R s m args below meth c9 D tyc adK adV A H locs cells slots ad d0 ls G hC hP hD hS hl hsa hd0 h1 h2 h3 h4 hG hZ
  exact lv_bipush hC.1 hC.2.1 hd hv (h p l e R s m args below meth c9 D tyc adK adV A H locs cells slots ad d0 ls G hC hP hD hS hl hsa hd0 h1 h2 h3 h4 hG hZ)
theorem EC_sipush {n : Int} {v : Int32} {pc2 : Nat} (hp : pc + 3 = pc2) (hd : decode M.2.1 pc = .ok (.sipush n, 3)) (hv : (Int16.ofInt n).toInt32 = v) (h : EC M pc2 lv (.int v :: st) σ d bc bs K) : EC M pc lv st σ d bc bs K := by
  subst hp
  intro p l e R s m args below meth c9 D tyc adK adV A H locs cells slots ad d0 ls G hC hP hD hS hl hsa hd0 h1 h2 h3 h4 hG hZ
  exact lv_sipush hC.1 hC.2.1 hd hv (h p l e R s m args below meth c9 D tyc adK adV A H locs cells slots ad d0 ls G hC hP hD hS hl hsa hd0 h1 h2 h3 h4 hG hZ)
theorem EC_iadd {x y : Int32} {pc2 : Nat} (hp : pc + 1 = pc2) (hd : decode M.2.1 pc = .ok (.iadd, 1))  (h : EC M pc2 lv (.int (x + y) :: st) σ d bc bs K) : EC M pc lv (.int y :: .int x :: st) σ d bc bs K := by
  subst hp
  intro p l e R s m args below meth c9 D tyc adK adV A H locs cells slots ad d0 ls G hC hP hD hS hl hsa hd0 h1 h2 h3 h4 hG hZ
  exact lv_iadd hC.1 hC.2.1 hd  (h p l e R s m args below meth c9 D tyc adK adV A H locs cells slots ad d0 ls G hC hP hD hS hl hsa hd0 h1 h2 h3 h4 hG hZ)
theorem EC_imul {x y : Int32} {pc2 : Nat} (hp : pc + 1 = pc2) (hd : decode M.2.1 pc = .ok (.imul, 1))  (h : EC M pc2 lv (.int (x * y) :: st) σ d bc bs K) : EC M pc lv (.int y :: .int x :: st) σ d bc bs K := by
  subst hp
  intro p l e R s m args below meth c9 D tyc adK adV A H locs cells slots ad d0 ls G hC hP hD hS hl hsa hd0 h1 h2 h3 h4 hG hZ
  exact lv_imul hC.1 hC.2.1 hd  (h p l e R s m args below meth c9 D tyc adK adV A H locs cells slots ad d0 ls G hC hP hD hS hl hsa hd0 h1 h2 h3 h4 hG hZ)
theorem EC_dup {va : Value} {pc2 : Nat} (hp : pc + 1 = pc2) (hd : decode M.2.1 pc = .ok (.dup, 1)) (hva : va.category = 1) (h : EC M pc2 lv (va :: va :: st) σ d bc bs K) : EC M pc lv (va :: st) σ d bc bs K := by
  subst hp
  intro p l e R s m args below meth c9 D tyc adK adV A H locs cells slots ad d0 ls G hC hP hD hS hl hsa hd0 h1 h2 h3 h4 hG hZ
  exact lv_dup hC.1 hC.2.1 hd (by rw [ab_cv_cat]; exact hva) (h p l e R s m args below meth c9 D tyc adK adV A H locs cells slots ad d0 ls G hC hP hD hS hl hsa hd0 h1 h2 h3 h4 hG hZ)
theorem EC_iload_n {k : Fin 4} {x : Int32} {pc2 : Nat} (hp : pc + 1 = pc2) (hd : decode M.2.1 pc = .ok (.iload_n k, 1)) (j : Nat) (hj : lv[j]? = some ((k : Nat), .int x)) (h : EC M pc2 lv (.int x :: st) σ d bc bs K) : EC M pc lv st σ d bc bs K := by
  subst hp
  intro p l e R s m args below meth c9 D tyc adK adV A H locs cells slots ad d0 ls G hC hP hD hS hl hsa hd0 h1 h2 h3 h4 hG hZ
  exact lv_iload_n hC.1 hC.2.1 hd rfl (lv_at hl j (by rw [List.getElem?_map, hj]; rfl)) (h p l e R s m args below meth c9 D tyc adK adV A H locs cells slots ad d0 ls G hC hP hD hS hl hsa hd0 h1 h2 h3 h4 hG hZ)
theorem EC_aload_n {k : Fin 4} {x : Nat} {pc2 : Nat} (hp : pc + 1 = pc2) (hd : decode M.2.1 pc = .ok (.aload_n k, 1)) (j : Nat) (hj : lv[j]? = some ((k : Nat), .ref x)) (h : EC M pc2 lv (.ref x :: st) σ d bc bs K) : EC M pc lv st σ d bc bs K := by
  subst hp
  intro p l e R s m args below meth c9 D tyc adK adV A H locs cells slots ad d0 ls G hC hP hD hS hl hsa hd0 h1 h2 h3 h4 hG hZ
  exact lv_aload_n hC.1 hC.2.1 hd rfl (lv_at hl j (by rw [List.getElem?_map, hj]; rfl)) (h p l e R s m args below meth c9 D tyc adK adV A H locs cells slots ad d0 ls G hC hP hD hS hl hsa hd0 h1 h2 h3 h4 hG hZ)
theorem EC_istore_n {k : Fin 4} {x : Int32} {pc2 : Nat} (hpc : pc + 1 = pc2) (hd : decode M.2.1 pc = .ok (.istore_n k, 1)) (hn : (k : Nat) < M.2.2.1) (ks : List Nat) (lv' : List (Nat × Value)) (hp : lv_pick (((k : Nat), .int x) :: lv.filter (ab_k1 (k : Nat))) ks = lv') (h : EC M pc2 lv' st σ d bc bs K) : EC M pc lv (.int x :: st) σ d bc bs K := by
  subst hpc
  intro p l e R s m args below meth c9 D tyc adK adV A H locs cells slots ad d0 ls G hC hP hD hS hl hsa hd0 h1 h2 h3 h4 hG hZ
  refine lv_istore_n hC.1 hC.2.1 hd rfl hl hn rfl (fun ls hl => ?_)
  rw [ab_k1_map] at hl
  exact (h p l e R s m args below meth c9 D tyc adK adV A H locs cells slots ad d0 ls G hC hP hD hS (lv_sub hl ks (ab_pick_map (l := ((k : Nat), .int x) :: lv.filter (ab_k1 (k : Nat))) ks hp)) hsa hd0 h1 h2 h3 h4 hG hZ)
theorem EC_iinc {i : Nat} {n : Int} {x : Int32} (v : Int32) {pc2 : Nat} (hpc : pc + 3 = pc2) (hd : decode M.2.1 pc = .ok (.iinc i n, 3)) (j : Nat) (hj : lv[j]? = some (i, .int x)) (hv : x + Int32.ofInt n = v) (hn : i < M.2.2.1) (ks : List Nat) (lv' : List (Nat × Value)) (hp : lv_pick ((i, .int v) :: lv.filter (ab_k1 i)) ks = lv') (h : EC M pc2 lv' st σ d bc bs K) : EC M pc lv st σ d bc bs K := by
  subst hpc
  intro p l e R s m args below meth c9 D tyc adK adV A H locs cells slots ad d0 ls G hC hP hD hS hl hsa hd0 h1 h2 h3 h4 hG hZ
  refine lv_iinc hC.1 hC.2.1 hd hl (k := j) (by rw [List.getElem?_map, hj]; rfl) hv hn rfl (fun ls hl => ?_)
  rw [ab_k1_map] at hl
  exact (h p l e R s m args below meth c9 D tyc adK adV A H locs cells slots ad d0 ls G hC hP hD hS (lv_sub hl ks (ab_pick_map (l := (i, .int v) :: lv.filter (ab_k1 i)) ks hp)) hsa hd0 h1 h2 h3 h4 hG hZ)
theorem EC_icmp_ge {x y : Int32} {off : Int} {tgt pc2 : Nat} (hp : pc + 3 = pc2) (hd : decode M.2.1 pc = .ok (.if_icmp .ge off, 3)) (ht : (pc : Int) + off = (tgt : Int)) (hk : y ≤ x → EC M tgt lv st σ d bc bs K) (hf : ¬ y ≤ x → EC M pc2 lv st σ d bc bs K) : EC M pc lv (.int y :: .int x :: st) σ d bc bs K := by
  subst hp
  intro p l e R s m args below meth c9 D tyc adK adV A H locs cells slots ad d0 ls G hC hP hD hS hl hsa hd0 h1 h2 h3 h4 hG hZ
  exact lv_icmp_ge hC.1 hC.2.1 hd ht (fun q => (hk q p l e R s m args below meth c9 D tyc adK adV A H locs cells slots ad d0 ls G hC hP hD hS hl hsa hd0 h1 h2 h3 h4 hG hZ)) (fun q => (hf q p l e R s m args below meth c9 D tyc adK adV A H locs cells slots ad d0 ls G hC hP hD hS hl hsa hd0 h1 h2 h3 h4 hG hZ))
theorem EC_icmp_ne {x y : Int32} {off : Int} {tgt pc2 : Nat} (hp : pc + 3 = pc2) (hd : decode M.2.1 pc = .ok (.if_icmp .ne off, 3)) (ht : (pc : Int) + off = (tgt : Int)) (hk : ¬ x = y → EC M tgt lv st σ d bc bs K) (hf : x = y → EC M pc2 lv st σ d bc bs K) : EC M pc lv (.int y :: .int x :: st) σ d bc bs K := by
  subst hp
  intro p l e R s m args below meth c9 D tyc adK adV A H locs cells slots ad d0 ls G hC hP hD hS hl hsa hd0 h1 h2 h3 h4 hG hZ
  exact lv_icmp_ne hC.1 hC.2.1 hd ht (fun q => (hk q p l e R s m args below meth c9 D tyc adK adV A H locs cells slots ad d0 ls G hC hP hD hS hl hsa hd0 h1 h2 h3 h4 hG hZ)) (fun q => (hf q p l e R s m args below meth c9 D tyc adK adV A H locs cells slots ad d0 ls G hC hP hD hS hl hsa hd0 h1 h2 h3 h4 hG hZ))
theorem EC_goto {off : Int} {tgt : Nat} (hd : decode M.2.1 pc = .ok (.goto off, 3)) (ht : (pc : Int) + off = (tgt : Int)) (h : EC M tgt lv st σ d bc bs K) : EC M pc lv st σ d bc bs K := by
  intro p l e R s m args below meth c9 D tyc adK adV A H locs cells slots ad d0 ls G hC hP hD hS hl hsa hd0 h1 h2 h3 h4 hG hZ
  exact lv_goto hC.1 hC.2.1 hd ht (h p l e R s m args below meth c9 D tyc adK adV A H locs cells slots ad d0 ls G hC hP hD hS hl hsa hd0 h1 h2 h3 h4 hG hZ)
theorem EC_getr {idx ci k c : Nat} {r : Nat} (ht : ab_isr (ab_tf ci k) = true) (hr : σ.2.2.2.2.2 c k = some r) (hL : ab_L M.1.cls idx ci k) {pc2 : Nat} (hp : pc + 3 = pc2) (hd : decode M.2.1 pc = .ok (.getfield idx, 3)) (hc : c < σ.1) (hs : σ.2.1 c = .inl ci) (h : EC M pc2 lv (.ref r :: st) σ d bc bs K) : EC M pc lv (.ref c :: st) σ d bc bs K := by
  subst hp
  intro p l e R s m args below meth c9 D tyc adK adV A H locs cells slots ad d0 ls G hC hP hD hS hl hsa hd0 h1 h2 h3 h4 hG hZ
  obtain ⟨hci, hk, hlink⟩ := hL
  exact va_get (ci := ci) (C := ab_RX ci) (T := ab_TX ci) (N := ab_N ci) hC.1 hC.2.1 (dr_words hC.2.2.2.2.2.1 d0) (ab_cf ci hci).1 hC.2.2.2.2.1 hC.2.2.2.2.2.2.2.1 hP c (by rw [ab_w_at hc, ab_e_o hs]) (ab_cl_at hci) k hk ((dr_words hC.2.2.2.2.2.1 d0) _ hlink) (fun _ h9 => h9) (v := .ref (ad r)) (by rw [ab_fs_at hk]; simp [ab_f, ht, hr, va_rf]) hd (h p l e R s m args below meth c9 D tyc adK adV A H locs cells slots ad d0 ls G hC hP hD hS hl hsa hd0 h1 h2 h3 h4 hG hZ)
theorem EC_puti {idx ci k c : Nat} {v : Int32} (ht : ab_isr (ab_tf ci k) = false) (hf : (ab_TX ci k).2.2.2 = false) (hn : narrow (ab_tf ci k) (.int v) = .int v) (hfit : fits (ab_tf ci k) (.int v) = true) (hL : ab_L M.1.cls idx ci k) {pc2 : Nat} (hp : pc + 3 = pc2) (hd : decode M.2.1 pc = .ok (.putfield idx, 3)) (hc : c < σ.1) (hs : σ.2.1 c = .inl ci) (h : EC M pc2 lv st (ab_ui σ c k v) d bc bs K) : EC M pc lv (.int v :: .ref c :: st) σ d bc bs K := by
  subst hp
  intro p l e R s m args below meth c9 D tyc adK adV A H locs cells slots ad d0 ls G hC hP hD hS hl hsa hd0 h1 h2 h3 h4 hG hZ
  obtain ⟨hci, hk, hlink⟩ := hL
  obtain ⟨f1, f2, f3⟩ := ab_cf ci hci
  refine va_put (ci := ci) (v := .int v) (ty := ab_tf ci k) (C := ab_RX ci) (T := ab_TX ci) (N := ab_N ci) hC.1 hC.2.1 (dr_words hC.2.2.2.2.2.1 d0) f1 (ab_tf ci) f2 f3 hC.2.2.2.2.1 hC.2.2.2.2.2.2.2.1 hP hD hS c (by rw [ab_w_at hc, ab_e_o hs]) (ab_cl_at hci) k hk ((dr_words hC.2.2.2.2.2.1 d0) _ hlink) (fun _ h9 => h9) hf (f2 k hk) hn hfit (by simp [ab_fs]; exact hk) hd (fun H locs hP hD hS => ?_)
  rw [ab_ui_o hs ht] at hP hD
  exact (h p l e R s m args below meth c9 D tyc adK adV A H locs cells slots ad d0 ls G hC hP hD hS hl hsa hd0 h1 h2 h3 h4 hG hZ)
theorem EC_putr {idx ci k c r : Nat} (ht : ab_isr (ab_tf ci k) = true) (hf : (ab_TX ci k).2.2.2 = false) (hn : ∀ a, narrow (ab_tf ci k) (.ref a) = .ref a) (hfit : ∀ a, fits (ab_tf ci k) (.ref a) = true) (hL : ab_L M.1.cls idx ci k) {pc2 : Nat} (hp : pc + 3 = pc2) (hd : decode M.2.1 pc = .ok (.putfield idx, 3)) (hc : c < σ.1) (hs : σ.2.1 c = .inl ci) (h : EC M pc2 lv st (ab_ur σ c k (some r)) d bc bs K) : EC M pc lv (.ref r :: .ref c :: st) σ d bc bs K := by
  subst hp
  intro p l e R s m args below meth c9 D tyc adK adV A H locs cells slots ad d0 ls G hC hP hD hS hl hsa hd0 h1 h2 h3 h4 hG hZ
  obtain ⟨hci, hk, hlink⟩ := hL
  obtain ⟨f1, f2, f3⟩ := ab_cf ci hci
  refine va_put (ci := ci) (v := .ref (ad r)) (ty := ab_tf ci k) (C := ab_RX ci) (T := ab_TX ci) (N := ab_N ci) hC.1 hC.2.1 (dr_words hC.2.2.2.2.2.1 d0) f1 (ab_tf ci) f2 f3 hC.2.2.2.2.1 hC.2.2.2.2.2.2.2.1 hP hD hS c (by rw [ab_w_at hc, ab_e_o hs]) (ab_cl_at hci) k hk ((dr_words hC.2.2.2.2.2.1 d0) _ hlink) (fun _ h9 => h9) hf (f2 k hk) (hn _) (hfit _) (by simp [ab_fs]; exact hk) hd (fun H locs hP hD hS => ?_)
  rw [ab_ur_o hs ht] at hP hD
  exact (h p l e R s m args below meth c9 D tyc adK adV A H locs cells slots ad d0 ls G hC hP hD hS hl hsa hd0 h1 h2 h3 h4 hG hZ)
theorem EC_putF {idx ci k c r : Nat} (ht : ab_isr (ab_tf ci k) = true) (hf : (ab_TX ci k).2.2.2 = true) (hi : M.1.name = "<init>") (hown : (ab_TX ci k).1 = M.1.cls) (hn : ∀ a, narrow (ab_tf ci k) (.ref a) = .ref a) (hfit : ∀ a, fits (ab_tf ci k) (.ref a) = true) (hL : ab_L M.1.cls idx ci k) {pc2 : Nat} (hp : pc + 3 = pc2) (hd : decode M.2.1 pc = .ok (.putfield idx, 3)) (hc : c < σ.1) (hs : σ.2.1 c = .inl ci) (h : EC M pc2 lv st (ab_ur σ c k (some r)) d bc bs K) : EC M pc lv (.ref r :: .ref c :: st) σ d bc bs K := by
  subst hp
  intro p l e R s m args below meth c9 D tyc adK adV A H locs cells slots ad d0 ls G hC hP hD hS hl hsa hd0 h1 h2 h3 h4 hG hZ
  obtain ⟨hci, hk, hlink⟩ := hL
  obtain ⟨f1, f2, f3⟩ := ab_cf ci hci
  refine va_putF (ci := ci) (v := .ref (ad r)) (ty := ab_tf ci k) (C := ab_RX ci) (T := ab_TX ci) (N := ab_N ci) hC.1 hC.2.1 (dr_words hC.2.2.2.2.2.1 d0) f1 (ab_tf ci) f2 f3 hC.2.2.2.2.1 hC.2.2.2.2.2.2.2.1 hP hD hS c (by rw [ab_w_at hc, ab_e_o hs]) (ab_cl_at hci) k hk ((dr_words hC.2.2.2.2.2.1 d0) _ hlink) (fun _ h9 => h9) hf (hC.2.2.2.2.2.2.2.2.2.2.1.trans hi) hown (f2 k hk) (hn _) (hfit _) (by simp [ab_fs]; exact hk) hd (fun H locs hP hD hS => ?_)
  rw [ab_ur_o hs ht] at hP hD
  exact (h p l e R s m args below meth c9 D tyc adK adV A H locs cells slots ad d0 ls G hC hP hD hS hl hsa hd0 h1 h2 h3 h4 hG hZ)
theorem EC_putFi {idx ci k c : Nat} {v : Int32} (ht : ab_isr (ab_tf ci k) = false) (hf : (ab_TX ci k).2.2.2 = true) (hi : M.1.name = "<init>") (hown : (ab_TX ci k).1 = M.1.cls) (hn : narrow (ab_tf ci k) (.int v) = .int v) (hfit : fits (ab_tf ci k) (.int v) = true) (hL : ab_L M.1.cls idx ci k) {pc2 : Nat} (hp : pc + 3 = pc2) (hd : decode M.2.1 pc = .ok (.putfield idx, 3)) (hc : c < σ.1) (hs : σ.2.1 c = .inl ci) (h : EC M pc2 lv st (ab_ui σ c k v) d bc bs K) : EC M pc lv (.int v :: .ref c :: st) σ d bc bs K := by
  subst hp
  intro p l e R s m args below meth c9 D tyc adK adV A H locs cells slots ad d0 ls G hC hP hD hS hl hsa hd0 h1 h2 h3 h4 hG hZ
  obtain ⟨hci, hk, hlink⟩ := hL
  obtain ⟨f1, f2, f3⟩ := ab_cf ci hci
  refine va_putF (ci := ci) (v := .int v) (ty := ab_tf ci k) (C := ab_RX ci) (T := ab_TX ci) (N := ab_N ci) hC.1 hC.2.1 (dr_words hC.2.2.2.2.2.1 d0) f1 (ab_tf ci) f2 f3 hC.2.2.2.2.1 hC.2.2.2.2.2.2.2.1 hP hD hS c (by rw [ab_w_at hc, ab_e_o hs]) (ab_cl_at hci) k hk ((dr_words hC.2.2.2.2.2.1 d0) _ hlink) (fun _ h9 => h9) hf (hC.2.2.2.2.2.2.2.2.2.2.1.trans hi) hown (f2 k hk) hn hfit (by simp [ab_fs]; exact hk) hd (fun H locs hP hD hS => ?_)
  rw [ab_ui_o hs ht] at hP hD
  exact (h p l e R s m args below meth c9 D tyc adK adV A H locs cells slots ad d0 ls G hC hP hD hS hl hsa hd0 h1 h2 h3 h4 hG hZ)
theorem EC_iast {c n : Nat} {i : Int32} {x : Int32} {pc2 : Nat} (hp : pc + 1 = pc2) (hd : decode M.2.1 pc = .ok (.iastore, 1)) (hc : c < σ.1) (hs : σ.2.1 c = .inr (0, n)) (hin : vp_in i n) (h : EC M pc2 lv st (ab_ui σ c i.toNatClampNeg x) d bc bs K) : EC M pc lv (.int x :: .int i :: .ref c :: st) σ d bc bs K := by
  subst hp
  intro p l e R s m args below meth c9 D tyc adK adV A H locs cells slots ad d0 ls G hC hP hD hS hl hsa hd0 h1 h2 h3 h4 hG hZ
  refine va_iast (s := s.setDrawn d0) hC.1 hC.2.1 hC.2.2.2.2.2.2.2.1 hP hD hS c 0 (by rw [ab_w_at hc, ab_e_a hs]; rfl) (ab_tys_at (by decide)) hin hd (fun H locs hP hD hS => ?_)
  rw [ab_ui_a hs (by decide)] at hP hD
  exact (h p l e R s m args below meth c9 D tyc adK adV A H locs cells slots ad d0 ls G hC hP hD hS hl hsa hd0 h1 h2 h3 h4 hG hZ)
theorem EC_alen {c t n : Nat} {v : Int32} {pc2 : Nat} (hp : pc + 1 = pc2) (hd : decode M.2.1 pc = .ok (.arraylength, 1)) (hc : c < σ.1) (ht : t < 9) (hs : σ.2.1 c = .inr (t, n)) (hv : Int32.ofNat n = v) (h : EC M pc2 lv (.int v :: st) σ d bc bs K) : EC M pc lv (.ref c :: st) σ d bc bs K := by
  subst hp
  intro p l e R s m args below meth c9 D tyc adK adV A H locs cells slots ad d0 ls G hC hP hD hS hl hsa hd0 h1 h2 h3 h4 hG hZ
  exact va_alen (s := s.setDrawn d0) hC.1 hC.2.1 hC.2.2.2.2.2.2.2.1 hP c t (by rw [ab_w_at hc, ab_e_a hs]) (ab_tys_at ht) hv hd (h p l e R s m args below meth c9 D tyc adK adV A H locs cells slots ad d0 ls G hC hP hD hS hl hsa hd0 h1 h2 h3 h4 hG hZ)
theorem EC_ldc {idx : Nat} {v : Int32} (hw : Cond.constant M.1.cls idx v ∈ ab_G) {pc2 : Nat} (hp : pc + 2 = pc2) (hd : decode M.2.1 pc = .ok (.ldc idx, 2)) (h : EC M pc2 lv (.int v :: st) σ d bc bs K) : EC M pc lv st σ d bc bs K := by
  subst hp
  intro p l e R s m args below meth c9 D tyc adK adV A H locs cells slots ad d0 ls G hC hP hD hS hl hsa hd0 h1 h2 h3 h4 hG hZ
  exact lv_ldc hC.1 hC.2.1 hC.2.2.2.2.1 ((dr_words hC.2.2.2.2.2.1 d0) _ hw) hd (h p l e R s m args below meth c9 D tyc adK adV A H locs cells slots ad d0 ls G hC hP hD hS hl hsa hd0 h1 h2 h3 h4 hG hZ)
theorem EC_ldcw {idx : Nat} {v : Int32} (hw : Cond.constant M.1.cls idx v ∈ ab_G) {pc2 : Nat} (hp : pc + 3 = pc2) (hd : decode M.2.1 pc = .ok (.ldc_w idx, 3)) (h : EC M pc2 lv (.int v :: st) σ d bc bs K) : EC M pc lv st σ d bc bs K := by
  subst hp
  intro p l e R s m args below meth c9 D tyc adK adV A H locs cells slots ad d0 ls G hC hP hD hS hl hsa hd0 h1 h2 h3 h4 hG hZ
  exact lv_ldcw hC.1 hC.2.1 hC.2.2.2.2.1 ((dr_words hC.2.2.2.2.2.1 d0) _ hw) hd (h p l e R s m args below meth c9 D tyc adK adV A H locs cells slots ad d0 ls G hC hP hD hS hl hsa hd0 h1 h2 h3 h4 hG hZ)
theorem EC_vret (hr : M.2.2.2 = none) (hd : decode M.2.1 pc = .ok (.return_, 1)) (hk : K (none) σ) : EC M pc lv [] σ d bc bs K := by
  intro p l e R s m args below meth c9 D tyc adK adV A H locs cells slots ad d0 ls G hC hP hD hS hl hsa hd0 h1 h2 h3 h4 hG hZ
  refine W.endD hd0 ?_
  refine W.widen (k := R.cells) (n := R.slots) (by omega) (by omega) ?_
  exact W.vret hC.1 hC.2.1 (hC.2.2.1.trans hr) (fun t ht hW => ⟨⟨none, σ, ad, rfl, hk, by rw [ht]; exact hP, hD, hG σ ad (Nat.le_refl _) (fun _ _ => rfl) (fun _ => rfl) hsa⟩, hS.F ht⟩) hS.2.2 hd hC.2.2.2.2.2.2.1
theorem EC_invS {idx n : Nat} {M' : ab_M} {As rest : List Value} (hlink : Cond.methodLink M.1.cls idx M'.1 ∈ ab_G) (hstat : Cond.static M'.1 ∈ ab_G) {d' bc1 bs1 bc2 bs2 pc2 : Nat} (hp : pc + 3 = pc2) (hM : ab_okM M' n) (hd : decode M.2.1 pc = .ok (.invokestatic idx, 3)) (hst : st = As.reverse ++ rest) (hn : As.length = n) (hlen : (lg_sl (As)).length ≤ M'.2.2.1) (hrm : (rest.map fun v => v.category).sum ≤ 8) (hdd : d' + 1 ≤ d) (hbc : bc1 + bc2 = bc) (hbs : bs1 + bs2 = bs) (hlv : bc1 = 0 ∨ (ab_refs σ.1 rest ∧ ab_refs σ.1 (lv.map (·.2))))
    (h : EC M' 0 (lv_args 0 (As)) [] σ d' bc1 bs1 (fun r σ' => EC M pc2 lv (r.toList ++ rest) σ' d bc2 bs2 K)) : EC M pc lv st σ d bc bs K := by
  intro p l e R s m args below meth c9 D tyc adK adV A H locs cells slots ad d0 ls G hC hP hD hS hl hsa hd0 h1 h2 h3 h4 hG hZ
  subst hst
  subst hp
  have hmet := ec_met (l := l) (D := D) (tyc := tyc) (adK := adK) (adV := adV) (ad := ad) (sz := H.size) hsa hM hlen h
  have hFr : ∀ q, va_A (ab_w tyc ad σ) H.size q → A q := fun q hq => by
    rcases hq with ⟨k, x, hk⟩ | hq
    · exact hD.2 k (q, x) hk
    · exact hC.2.2.2.2.2.2.2.2.2.1 q (Nat.le_trans hS.1 hq)
  have hrm2 : ((rest.map (ab_cv ad)).map fun v => v.category).sum ≤ 8 := by
    rw [List.map_map]
    have : ((fun v => v.category) ∘ ab_cv ad) = fun v : Value => v.category := funext fun v => ab_cv_cat ad v
    rw [this]; exact hrm
  refine ab_back hd0 (va_runS_D (s := s.setDrawn d0) (As := As.map (ab_cv ad)) (rest := rest.map (ab_cv ad)) (Ts := ab_G) ⟨hC.1, hC.2.1, hC.2.2.2.1, hC.2.2.2.2.1, (dr_words hC.2.2.2.2.2.1 d0)⟩ hmet ⟨(callB_of n (dr_words hC.2.2.2.2.2.1 d0) (ab_Gin M' hM.2.2.1) rfl rfl rfl ((dr_words hC.2.2.2.2.2.1 d0) _ hM.2.2.2.1) ((dr_words hC.2.2.2.2.2.1 d0) _ hlink) ⟨hM.2.1.1, hM.2.1.2, hM.2.2.2.2.1⟩ ⟨by show d' + 1 ≤ R.frames; omega, by show 8 + (M'.2.2.1 + 11) + 45 * d' ≤ R.locals; have := hM.2.2.2.2.2; omega⟩), (dr_words hC.2.2.2.2.2.1 d0) _ hstat⟩ ⟨ec_I_blind, (fun U hU hW => ⟨rfl, ⟨ab_ST.pass (s := s.setDrawn d0) (A := A) hW (by rw [hU]; exact hS) hFr (hC.2.2.2.2.2.2.2.2.2.2.2.same rfl rfl), by rw [hU], by rw [hU]; exact hP, va_K.moved hW.alike hC.2.2.2.2.2.2.2.1, hD.weaken (fun _ _ _ _ => trivial), ab_NW.moved hW (ab_NW.drawn (d := d0) hC.2.2.2.2.2.2.2.2.1)⟩, ec_Zm (s := s.setDrawn d0) hW.alike hZ⟩)⟩ rfl (by rw [List.length_map]; exact hn) hl.1 (by simp [ab_cv]) (lv_room hrm2) hd ⟨by omega, by omega⟩) hS (fun q _ hq => hFr q hq) hFr (fun r σ' ad' H1 locs1 d1 hk hP1 hD1 hG1 hS1 hd1 => ?_)
  obtain ⟨g0, g1, g2, g3⟩ := hG1
  have hrest : rest.map (ab_cv ad') = rest.map (ab_cv ad) := by
    rcases hlv with q | q
    · rw [g3 q]
    · exact ab_refs_map q.1 g2
  have hlvs : lv.map (fun q => (q.1, ab_cv ad' q.2)) = lv.map (fun q => (q.1, ab_cv ad q.2)) := by
    rcases hlv with q | q
    · rw [g3 q]
    · exact ab_refs_lv q.2 g2
  have hstk : (r.map (ab_cv ad')).toList ++ rest.map (ab_cv ad) = (r.toList ++ rest).map (ab_cv ad') := by
    rw [List.map_append, hrest]
    cases r <;> rfl
  rw [hstk]
  exact hk p l e R s m args below meth c9 D tyc adK adV A H1 locs1 (cells + bc1) (slots + bs1) ad' d1 ls G hC hP1 (hD1.weaken (fun _ q _ hq => hFr q.1 hq)) hS1 (by rw [hlvs]; exact hl) g0 hd1 h1 h2 (by omega) (by omega)
    (fun σ2 ad2 q1 q2 q3 q4 => hG σ2 ad2 (Nat.le_trans g1 q1) (fun q hq => (q2 q (Nat.lt_of_lt_of_le hq g1)).trans (g2 q hq)) (fun hb => (q3 (by omega)).trans (g3 (by omega))) q4) hZ
theorem EC_invI {idx n : Nat} {M' : ab_M} {As rest : List Value} {b : Nat} (hlink : Cond.methodLink M.1.cls idx M'.1 ∈ ab_G) (hinst : Cond.instanceMethod M'.1 ∈ ab_G) (hini : M'.1.name = "<init>") (hvoid : M'.2.2.2 = none) {d' bc1 bs1 bc2 bs2 pc2 : Nat} (hp : pc + 3 = pc2) (hM : ab_okM M' n) (hd : decode M.2.1 pc = .ok (.invokespecial idx, 3)) (hst : st = As.reverse ++ .ref b :: rest) (hn : As.length = n) (hlen : (lg_sl (.ref b :: As)).length ≤ M'.2.2.1) (hrm : (rest.map fun v => v.category).sum ≤ 8) (hdd : d' + 1 ≤ d) (hbc : bc1 + bc2 = bc) (hbs : bs1 + bs2 = bs) (hlv : bc1 = 0 ∨ (ab_refs σ.1 rest ∧ ab_refs σ.1 (lv.map (·.2))))
    (h : EC M' 0 (lv_args 0 (.ref b :: As)) [] σ d' bc1 bs1 (fun r σ' => EC M pc2 lv (r.toList ++ rest) σ' d bc2 bs2 K)) : EC M pc lv st σ d bc bs K := by
  intro p l e R s m args below meth c9 D tyc adK adV A H locs cells slots ad d0 ls G hC hP hD hS hl hsa hd0 h1 h2 h3 h4 hG hZ
  subst hst
  subst hp
  have hmet := ec_met (l := l) (D := D) (tyc := tyc) (adK := adK) (adV := adV) (ad := ad) (sz := H.size) hsa hM hlen h
  have hFr : ∀ q, va_A (ab_w tyc ad σ) H.size q → A q := fun q hq => by
    rcases hq with ⟨k, x, hk⟩ | hq
    · exact hD.2 k (q, x) hk
    · exact hC.2.2.2.2.2.2.2.2.2.1 q (Nat.le_trans hS.1 hq)
  have hrm2 : ((rest.map (ab_cv ad)).map fun v => v.category).sum ≤ 8 := by
    rw [List.map_map]
    have : ((fun v => v.category) ∘ ab_cv ad) = fun v : Value => v.category := funext fun v => ab_cv_cat ad v
    rw [this]; exact hrm
  refine ab_back hd0 (va_runI_D (b := ad b) (s := s.setDrawn d0) (As := As.map (ab_cv ad)) (rest := rest.map (ab_cv ad)) (Ts := ab_G) ⟨hC.1, hC.2.1, hC.2.2.2.1, hC.2.2.2.2.1, (dr_words hC.2.2.2.2.2.1 d0)⟩ hmet ⟨by rw [← hvoid]; exact (callB_of n (dr_words hC.2.2.2.2.2.1 d0) (ab_Gin M' hM.2.2.1) rfl rfl rfl ((dr_words hC.2.2.2.2.2.1 d0) _ hM.2.2.2.1) ((dr_words hC.2.2.2.2.2.1 d0) _ hlink) ⟨hM.2.1.1, hM.2.1.2, hM.2.2.2.2.1⟩ ⟨by show d' + 1 ≤ R.frames; omega, by show 8 + (M'.2.2.1 + 11) + 45 * d' ≤ R.locals; have := hM.2.2.2.2.2; omega⟩), hini, (dr_words hC.2.2.2.2.2.1 d0) _ hinst⟩ ⟨ec_I_blind, (fun U hU hW => ⟨rfl, ⟨ab_ST.pass (s := s.setDrawn d0) (A := A) hW (by rw [hU]; exact hS) hFr (hC.2.2.2.2.2.2.2.2.2.2.2.same rfl rfl), by rw [hU], by rw [hU]; exact hP, va_K.moved hW.alike hC.2.2.2.2.2.2.2.1, hD.weaken (fun _ _ _ _ => trivial), ab_NW.moved hW (ab_NW.drawn (d := d0) hC.2.2.2.2.2.2.2.2.1)⟩, ec_Zm (s := s.setDrawn d0) hW.alike hZ⟩)⟩ rfl (by rw [List.length_map]; exact hn) hl.1 (by simp [ab_cv]) (lv_room hrm2) hd ⟨by omega, by omega⟩) hS (fun q _ hq => hFr q hq) hFr (fun r σ' ad' H1 locs1 d1 hk hP1 hD1 hG1 hS1 hd1 => ?_)
  obtain ⟨g0, g1, g2, g3⟩ := hG1
  have hrest : rest.map (ab_cv ad') = rest.map (ab_cv ad) := by
    rcases hlv with q | q
    · rw [g3 q]
    · exact ab_refs_map q.1 g2
  have hlvs : lv.map (fun q => (q.1, ab_cv ad' q.2)) = lv.map (fun q => (q.1, ab_cv ad q.2)) := by
    rcases hlv with q | q
    · rw [g3 q]
    · exact ab_refs_lv q.2 g2
  have hstk : (r.map (ab_cv ad')).toList ++ rest.map (ab_cv ad) = (r.toList ++ rest).map (ab_cv ad') := by
    rw [List.map_append, hrest]
    cases r <;> rfl
  rw [hstk]
  exact hk p l e R s m args below meth c9 D tyc adK adV A H1 locs1 (cells + bc1) (slots + bs1) ad' d1 ls G hC hP1 (hD1.weaken (fun _ q _ hq => hFr q.1 hq)) hS1 (by rw [hlvs]; exact hl) g0 hd1 h1 h2 (by omega) (by omega)
    (fun σ2 ad2 q1 q2 q3 q4 => hG σ2 ad2 (Nat.le_trans g1 q1) (fun q hq => (q2 q (Nat.lt_of_lt_of_le hq g1)).trans (g2 q hq)) (fun hb => (q3 (by omega)).trans (g3 (by omega))) q4) hZ
theorem EC_invIN {idx n : Nat} {M' : ab_M} {As rest : List Value} {b : Nat} {host : String} (hlink : Cond.methodLinkNest M.1.cls idx M'.1 host ∈ tables_1.filter ab_isN) (hinst : Cond.instanceMethod M'.1 ∈ ab_G) (hini : M'.1.name = "<init>") (hvoid : M'.2.2.2 = none) {d' bc1 bs1 bc2 bs2 pc2 : Nat} (hp : pc + 3 = pc2) (hM : ab_okM M' n) (hd : decode M.2.1 pc = .ok (.invokespecial idx, 3)) (hst : st = As.reverse ++ .ref b :: rest) (hn : As.length = n) (hlen : (lg_sl (.ref b :: As)).length ≤ M'.2.2.1) (hrm : (rest.map fun v => v.category).sum ≤ 8) (hdd : d' + 1 ≤ d) (hbc : bc1 + bc2 = bc) (hbs : bs1 + bs2 = bs) (hlv : bc1 = 0 ∨ (ab_refs σ.1 rest ∧ ab_refs σ.1 (lv.map (·.2))))
    (h : EC M' 0 (lv_args 0 (.ref b :: As)) [] σ d' bc1 bs1 (fun r σ' => EC M pc2 lv (r.toList ++ rest) σ' d bc2 bs2 K)) : EC M pc lv st σ d bc bs K := by
  intro p l e R s m args below meth c9 D tyc adK adV A H locs cells slots ad d0 ls G hC hP hD hS hl hsa hd0 h1 h2 h3 h4 hG hZ
  subst hst
  subst hp
  have hmet := ec_met (l := l) (D := D) (tyc := tyc) (adK := adK) (adV := adV) (ad := ad) (sz := H.size) hsa hM hlen h
  have hFr : ∀ q, va_A (ab_w tyc ad σ) H.size q → A q := fun q hq => by
    rcases hq with ⟨k, x, hk⟩ | hq
    · exact hD.2 k (q, x) hk
    · exact hC.2.2.2.2.2.2.2.2.2.1 q (Nat.le_trans hS.1 hq)
  have hrm2 : ((rest.map (ab_cv ad)).map fun v => v.category).sum ≤ 8 := by
    rw [List.map_map]
    have : ((fun v => v.category) ∘ ab_cv ad) = fun v : Value => v.category := funext fun v => ab_cv_cat ad v
    rw [this]; exact hrm
  refine ab_back hd0 (va_runIN_D (b := ad b) (s := s.setDrawn d0) (As := As.map (ab_cv ad)) (rest := rest.map (ab_cv ad)) (Ts := ab_G) ⟨hC.1, hC.2.1, hC.2.2.2.1, hC.2.2.2.2.1, (dr_words hC.2.2.2.2.2.1 d0)⟩ hmet ⟨by rw [← hvoid]; exact (va_cnB n (dr_words hC.2.2.2.2.2.1 d0) (ab_Gin M' hM.2.2.1) rfl rfl rfl ((ab_NW.drawn (d := d0) hC.2.2.2.2.2.2.2.2.1) _ hlink) ((dr_words hC.2.2.2.2.2.1 d0) _ hM.2.2.2.1) ⟨hM.2.1.1, hM.2.1.2, hM.2.2.2.2.1⟩ ⟨by show d' + 1 ≤ R.frames; omega, by show 8 + (M'.2.2.1 + 11) + 45 * d' ≤ R.locals; have := hM.2.2.2.2.2; omega⟩), hini, (dr_words hC.2.2.2.2.2.1 d0) _ hinst⟩ ⟨ec_I_blind, (fun U hU hW => ⟨rfl, ⟨ab_ST.pass (s := s.setDrawn d0) (A := A) hW (by rw [hU]; exact hS) hFr (hC.2.2.2.2.2.2.2.2.2.2.2.same rfl rfl), by rw [hU], by rw [hU]; exact hP, va_K.moved hW.alike hC.2.2.2.2.2.2.2.1, hD.weaken (fun _ _ _ _ => trivial), ab_NW.moved hW (ab_NW.drawn (d := d0) hC.2.2.2.2.2.2.2.2.1)⟩, ec_Zm (s := s.setDrawn d0) hW.alike hZ⟩)⟩ rfl (by rw [List.length_map]; exact hn) hl.1 (by simp [ab_cv]) (lv_room hrm2) hd ⟨by omega, by omega⟩) hS (fun q _ hq => hFr q hq) hFr (fun r σ' ad' H1 locs1 d1 hk hP1 hD1 hG1 hS1 hd1 => ?_)
  obtain ⟨g0, g1, g2, g3⟩ := hG1
  have hrest : rest.map (ab_cv ad') = rest.map (ab_cv ad) := by
    rcases hlv with q | q
    · rw [g3 q]
    · exact ab_refs_map q.1 g2
  have hlvs : lv.map (fun q => (q.1, ab_cv ad' q.2)) = lv.map (fun q => (q.1, ab_cv ad q.2)) := by
    rcases hlv with q | q
    · rw [g3 q]
    · exact ab_refs_lv q.2 g2
  have hstk : (r.map (ab_cv ad')).toList ++ rest.map (ab_cv ad) = (r.toList ++ rest).map (ab_cv ad') := by
    rw [List.map_append, hrest]
    cases r <;> rfl
  rw [hstk]
  exact hk p l e R s m args below meth c9 D tyc adK adV A H1 locs1 (cells + bc1) (slots + bs1) ad' d1 ls G hC hP1 (hD1.weaken (fun _ q _ hq => hFr q.1 hq)) hS1 (by rw [hlvs]; exact hl) g0 hd1 h1 h2 (by omega) (by omega)
    (fun σ2 ad2 q1 q2 q3 q4 => hG σ2 ad2 (Nat.le_trans g1 q1) (fun q hq => (q2 q (Nat.lt_of_lt_of_le hq g1)).trans (g2 q hq)) (fun hb => (q3 (by omega)).trans (g3 (by omega))) q4) hZ
theorem EC_new {idx ci b s' : Nat} (hci : ci ≤ 12) (hk : Cond.classLink M.1.cls idx (ab_RX ci) ∈ ab_G ∧ Cond.instantiable (ab_RX ci) (ab_N ci) ∈ ab_G ∧ Cond.initialized (ab_RX ci) ∈ ab_G) {pc2 : Nat} (hp : pc + 3 = pc2) (hd : decode M.2.1 pc = .ok (.new idx, 3)) (hn : σ.1 < 1000000) (hR : ab_nR σ) (hlv : ab_nr σ.1 (lv.map (·.2))) (hst : ab_nr σ.1 st) (hb : bc = b + 1) (hs : bs = s' + ab_N ci) (h : EC M pc2 lv (.ref σ.1 :: st) (ab_new σ ci) d b s' K) : EC M pc lv st σ d bc bs K := by
  subst hp
  intro p l e R s m args below meth c9 D tyc adK adV A H locs cells slots ad d0 ls G hC hP hD hS hl hsa hd0 h1 h2 h3 h4 hG hZ
  obtain ⟨f1, f2, f3⟩ := ab_cf ci hci
  refine va_new (s := s.setDrawn d0) (ci := ci) (C := ab_RX ci) (T := ab_TX ci) (N := ab_N ci) (fs := (List.range (ab_N ci)).map (fun k => if ab_isr (ab_tf ci k) = true then .null else .int 0)) hC.1 hC.2.1 (dr_words hC.2.2.2.2.2.1 d0) f1 (ab_tf ci) f2 hC.2.2.2.2.1 ((dr_words hC.2.2.2.2.2.1 d0) _ hk.1) ((dr_words hC.2.2.2.2.2.1 d0) _ hk.2.1) ((dr_words hC.2.2.2.2.2.1 d0) _ hk.2.2) hC.2.2.2.2.2.2.2.1 hP hD hS hC.2.2.2.2.2.2.2.2.2.1 (ab_cl_at hci) (fun j hj => ?_) (by omega) (by omega) hd (fun q H1 hP1 hD1 hS1 => ?_)
  · rw [ab_df ci hci j hj]
    simp [vp_V, List.getD_eq_getElem?_getD, List.getElem?_map, List.getElem?_range hj]
  · have h9 := h p l e R s m args below meth c9 D tyc adK adV A H1 locs (cells + 1) (slots + ab_N ci) (fun j => if j = σ.1 then q else ad j) d0 ls G hC (by rw [ab_w_new hR]; exact hP1) (by rw [ab_w_new hR]; exact hD1) hS1 (by rw [ab_nr_lv hlv]; exact hl) (ab_sa_up hsa hn) hd0 h1 h2 (by omega) (by omega) (fun σ2 ad2 q1 q2 q3 q4 => hG σ2 ad2 (Nat.le_trans (Nat.le_succ _) q1) (fun z hz => (q2 z (Nat.lt_succ_of_lt hz)).trans (if_neg (Nat.ne_of_lt hz))) (fun hb => absurd hb (by omega)) q4)
    rw [show (Value.ref σ.1 :: st).map (ab_cv (fun j => if j = σ.1 then q else ad j)) = Value.ref q :: st.map (ab_cv ad) by rw [List.map_cons, ab_nr_map hst]; simp [ab_cv]] at h9
    exact h9 hZ
theorem EC_objInit {idx c : Nat} (hk : Cond.methodLink M.1.cls idx objectInit ∈ ab_G ∧ Cond.instanceMethod objectInit ∈ ab_G ∧ Cond.code objectInit ⟨#[0xb1]⟩ 1 none ∈ ab_G) {pc2 : Nat} (hp : pc + 3 = pc2) (hd : decode M.2.1 pc = .ok (.invokespecial idx, 3)) (hrm : (st.map fun v => v.category).sum ≤ 8) (hdd : 1 ≤ d) (h : EC M pc2 lv st σ d bc bs K) : EC M pc lv (.ref c :: st) σ d bc bs K := by
  subst hp
  intro p l e R s m args below meth c9 D tyc adK adV A H locs cells slots ad d0 ls G hC hP hD hS hl hsa hd0 h1 h2 h3 h4 hG hZ
  have hrm2 : ((st.map (ab_cv ad)).map fun v => v.category).sum ≤ 8 := by
    rw [List.map_map]
    have : ((fun v => v.category) ∘ ab_cv ad) = fun v : Value => v.category := funext fun v => ab_cv_cat ad v
    rw [this]; exact hrm
  refine W.objInit (s := s.setDrawn d0) (a := ad c) (rest := st.map (ab_cv ad)) hC.1 hC.2.1 hC.2.2.2.2.1 ((dr_words hC.2.2.2.2.2.1 d0) _ hk.1) ((dr_words hC.2.2.2.2.2.1 d0) _ hk.2.1) ((dr_words hC.2.2.2.2.2.1 d0) _ hk.2.2) rfl (by rw [hC.2.2.2.1]; exact hl.1) rfl hd (by omega) (by show 2 * 0 + _ + 12 ≤ _; omega) ?_
  exact (h p l e R s m args below meth c9 D tyc adK adV A H locs cells slots ad d0 ls G hC hP hD hS hl hsa hd0 h1 h2 h3 h4 hG hZ)
theorem EC_newa_int {b s' N : Nat} {n : Int32} (hk : Cond.arrayClass .int ∈ ab_G) {pc2 : Nat} (hp : pc + 2 = pc2) (hd : decode M.2.1 pc = .ok (.newarray .int, 2)) (hneg : ¬ n < 0) (hN : n.toNatClampNeg = N) (hsm : N ≤ 100000) (hn : σ.1 < 1000000) (hR : ab_nR σ) (hlv : ab_nr σ.1 (lv.map (·.2))) (hst : ab_nr σ.1 st) (hb : bc = b + 1) (hs : bs = s' + N) (h : EC M pc2 lv (.ref σ.1 :: st) (ab_newA σ 0 N) d b s' K) : EC M pc lv (.int n :: st) σ d bc bs K := by
  subst hp
  intro p l e R s m args below meth c9 D tyc adK adV A H locs cells slots ad d0 ls G hC hP hD hS hl hsa hd0 h1 h2 h3 h4 hG hZ
  have h8 : componentBytes .int ≤ 8 := by decide
  refine va_newa (s := s.setDrawn d0) (atype := .int) (ty := .int) (N' := N) (a0 := (N, .inl (fun _ => 0))) hC.1 hC.2.1 ((dr_words hC.2.2.2.2.2.1 d0) _ hk) rfl hC.2.2.2.2.2.2.2.1 hP hD hS hC.2.2.2.2.2.2.2.2.2.1 (fun cA => rfl) hneg hN (Nat.le_trans (Nat.mul_le_mul hsm h8) (by decide)) (by omega) (by omega) hd (fun q cA H1 hK1 hP1 hD1 hS1 => ?_)
  have e1 : (s.setDrawn d0).vm.findClass ("[" ++ (.int : FieldType).toString) = some cA := (hK1.2 9 (cA, .int) (by rw [List.getElem?_append_right (by simp [ab_tys])]; simp [ab_tys])).2
  have e2 : (s.setDrawn d0).vm.findClass ("[" ++ (.int : FieldType).toString) = some (tyc 0) := (hC.2.2.2.2.2.2.2.1.2 0 (tyc 0, .int) (ab_tys_at (by decide))).2
  have e3 : cA = tyc 0 := Option.some.inj (e1.symm.trans e2)
  subst e3
  have h9 := h p l e R s m args below meth c9 D tyc adK adV A H1 locs (cells + 1) (slots + N) (fun j => if j = σ.1 then q else ad j) d0 ls G hC (by rw [ab_w_newA hR]; exact hP1) (by rw [ab_w_newA hR]; exact hD1) hS1 (by rw [ab_nr_lv hlv]; exact hl) (ab_sa_up hsa hn) hd0 h1 h2 (by omega) (by omega) (fun σ2 ad2 q1 q2 q3 q4 => hG σ2 ad2 (Nat.le_trans (Nat.le_succ _) q1) (fun z hz => (q2 z (Nat.lt_succ_of_lt hz)).trans (if_neg (Nat.ne_of_lt hz))) (fun hb => absurd hb (by omega)) q4) hZ
  rw [show (Value.ref σ.1 :: st).map (ab_cv (fun j => if j = σ.1 then q else ad j)) = Value.ref q :: st.map (ab_cv ad) by rw [List.map_cons, ab_nr_map hst]; simp [ab_cv]] at h9
  exact h9
theorem EC_newa_bool {b s' N : Nat} {n : Int32} (hk : Cond.arrayClass .boolean ∈ ab_G) {pc2 : Nat} (hp : pc + 2 = pc2) (hd : decode M.2.1 pc = .ok (.newarray .boolean, 2)) (hneg : ¬ n < 0) (hN : n.toNatClampNeg = N) (hsm : N ≤ 100000) (hn : σ.1 < 1000000) (hR : ab_nR σ) (hlv : ab_nr σ.1 (lv.map (·.2))) (hst : ab_nr σ.1 st) (hb : bc = b + 1) (hs : bs = s' + N) (h : EC M pc2 lv (.ref σ.1 :: st) (ab_newA σ 1 N) d b s' K) : EC M pc lv (.int n :: st) σ d bc bs K := by
  subst hp
  intro p l e R s m args below meth c9 D tyc adK adV A H locs cells slots ad d0 ls G hC hP hD hS hl hsa hd0 h1 h2 h3 h4 hG hZ
  have h8 : componentBytes .boolean ≤ 8 := by decide
  refine va_newa (s := s.setDrawn d0) (atype := .boolean) (ty := .boolean) (N' := N) (a0 := (N, .inl (fun _ => 0))) hC.1 hC.2.1 ((dr_words hC.2.2.2.2.2.1 d0) _ hk) rfl hC.2.2.2.2.2.2.2.1 hP hD hS hC.2.2.2.2.2.2.2.2.2.1 (fun cA => rfl) hneg hN (Nat.le_trans (Nat.mul_le_mul hsm h8) (by decide)) (by omega) (by omega) hd (fun q cA H1 hK1 hP1 hD1 hS1 => ?_)
  have e1 : (s.setDrawn d0).vm.findClass ("[" ++ (.boolean : FieldType).toString) = some cA := (hK1.2 9 (cA, .boolean) (by rw [List.getElem?_append_right (by simp [ab_tys])]; simp [ab_tys])).2
  have e2 : (s.setDrawn d0).vm.findClass ("[" ++ (.boolean : FieldType).toString) = some (tyc 1) := (hC.2.2.2.2.2.2.2.1.2 1 (tyc 1, .boolean) (ab_tys_at (by decide))).2
  have e3 : cA = tyc 1 := Option.some.inj (e1.symm.trans e2)
  subst e3
  have h9 := h p l e R s m args below meth c9 D tyc adK adV A H1 locs (cells + 1) (slots + N) (fun j => if j = σ.1 then q else ad j) d0 ls G hC (by rw [ab_w_newA hR]; exact hP1) (by rw [ab_w_newA hR]; exact hD1) hS1 (by rw [ab_nr_lv hlv]; exact hl) (ab_sa_up hsa hn) hd0 h1 h2 (by omega) (by omega) (fun σ2 ad2 q1 q2 q3 q4 => hG σ2 ad2 (Nat.le_trans (Nat.le_succ _) q1) (fun z hz => (q2 z (Nat.lt_succ_of_lt hz)).trans (if_neg (Nat.ne_of_lt hz))) (fun hb => absurd hb (by omega)) q4) hZ
  rw [show (Value.ref σ.1 :: st).map (ab_cv (fun j => if j = σ.1 then q else ad j)) = Value.ref q :: st.map (ab_cv ad) by rw [List.map_cons, ab_nr_map hst]; simp [ab_cv]] at h9
  exact h9
theorem EC_newa_byte {b s' N : Nat} {n : Int32} (hk : Cond.arrayClass .byte ∈ ab_G) {pc2 : Nat} (hp : pc + 2 = pc2) (hd : decode M.2.1 pc = .ok (.newarray .byte, 2)) (hneg : ¬ n < 0) (hN : n.toNatClampNeg = N) (hsm : N ≤ 100000) (hn : σ.1 < 1000000) (hR : ab_nR σ) (hlv : ab_nr σ.1 (lv.map (·.2))) (hst : ab_nr σ.1 st) (hb : bc = b + 1) (hs : bs = s' + N) (h : EC M pc2 lv (.ref σ.1 :: st) (ab_newA σ 2 N) d b s' K) : EC M pc lv (.int n :: st) σ d bc bs K := by
  subst hp
  intro p l e R s m args below meth c9 D tyc adK adV A H locs cells slots ad d0 ls G hC hP hD hS hl hsa hd0 h1 h2 h3 h4 hG hZ
  have h8 : componentBytes .byte ≤ 8 := by decide
  refine va_newa (s := s.setDrawn d0) (atype := .byte) (ty := .byte) (N' := N) (a0 := (N, .inl (fun _ => 0))) hC.1 hC.2.1 ((dr_words hC.2.2.2.2.2.1 d0) _ hk) rfl hC.2.2.2.2.2.2.2.1 hP hD hS hC.2.2.2.2.2.2.2.2.2.1 (fun cA => rfl) hneg hN (Nat.le_trans (Nat.mul_le_mul hsm h8) (by decide)) (by omega) (by omega) hd (fun q cA H1 hK1 hP1 hD1 hS1 => ?_)
  have e1 : (s.setDrawn d0).vm.findClass ("[" ++ (.byte : FieldType).toString) = some cA := (hK1.2 9 (cA, .byte) (by rw [List.getElem?_append_right (by simp [ab_tys])]; simp [ab_tys])).2
  have e2 : (s.setDrawn d0).vm.findClass ("[" ++ (.byte : FieldType).toString) = some (tyc 2) := (hC.2.2.2.2.2.2.2.1.2 2 (tyc 2, .byte) (ab_tys_at (by decide))).2
  have e3 : cA = tyc 2 := Option.some.inj (e1.symm.trans e2)
  subst e3
  have h9 := h p l e R s m args below meth c9 D tyc adK adV A H1 locs (cells + 1) (slots + N) (fun j => if j = σ.1 then q else ad j) d0 ls G hC (by rw [ab_w_newA hR]; exact hP1) (by rw [ab_w_newA hR]; exact hD1) hS1 (by rw [ab_nr_lv hlv]; exact hl) (ab_sa_up hsa hn) hd0 h1 h2 (by omega) (by omega) (fun σ2 ad2 q1 q2 q3 q4 => hG σ2 ad2 (Nat.le_trans (Nat.le_succ _) q1) (fun z hz => (q2 z (Nat.lt_succ_of_lt hz)).trans (if_neg (Nat.ne_of_lt hz))) (fun hb => absurd hb (by omega)) q4) hZ
  rw [show (Value.ref σ.1 :: st).map (ab_cv (fun j => if j = σ.1 then q else ad j)) = Value.ref q :: st.map (ab_cv ad) by rw [List.map_cons, ab_nr_map hst]; simp [ab_cv]] at h9
  exact h9
theorem EC_newa_dbl {b s' N : Nat} {n : Int32} (hk : Cond.arrayClass .double ∈ ab_G) {pc2 : Nat} (hp : pc + 2 = pc2) (hd : decode M.2.1 pc = .ok (.newarray .double, 2)) (hneg : ¬ n < 0) (hN : n.toNatClampNeg = N) (hsm : N ≤ 100000) (hn : σ.1 < 1000000) (hR : ab_nR σ) (hlv : ab_nr σ.1 (lv.map (·.2))) (hst : ab_nr σ.1 st) (hb : bc = b + 1) (hs : bs = s' + N) (h : EC M pc2 lv (.ref σ.1 :: st) (ab_newA σ 4 N) d b s' K) : EC M pc lv (.int n :: st) σ d bc bs K := by
  subst hp
  intro p l e R s m args below meth c9 D tyc adK adV A H locs cells slots ad d0 ls G hC hP hD hS hl hsa hd0 h1 h2 h3 h4 hG hZ
  have h8 : componentBytes .double ≤ 8 := by decide
  refine va_newa (s := s.setDrawn d0) (atype := .double) (ty := .double) (N' := N) (a0 := (N, .inr (.inr (.inr (.inl (fun _ => 0)))))) hC.1 hC.2.1 ((dr_words hC.2.2.2.2.2.1 d0) _ hk) rfl hC.2.2.2.2.2.2.2.1 hP hD hS hC.2.2.2.2.2.2.2.2.2.1 (fun cA => rfl) hneg hN (Nat.le_trans (Nat.mul_le_mul hsm h8) (by decide)) (by omega) (by omega) hd (fun q cA H1 hK1 hP1 hD1 hS1 => ?_)
  have e1 : (s.setDrawn d0).vm.findClass ("[" ++ (.double : FieldType).toString) = some cA := (hK1.2 9 (cA, .double) (by rw [List.getElem?_append_right (by simp [ab_tys])]; simp [ab_tys])).2
  have e2 : (s.setDrawn d0).vm.findClass ("[" ++ (.double : FieldType).toString) = some (tyc 4) := (hC.2.2.2.2.2.2.2.1.2 4 (tyc 4, .double) (ab_tys_at (by decide))).2
  have e3 : cA = tyc 4 := Option.some.inj (e1.symm.trans e2)
  subst e3
  have h9 := h p l e R s m args below meth c9 D tyc adK adV A H1 locs (cells + 1) (slots + N) (fun j => if j = σ.1 then q else ad j) d0 ls G hC (by rw [ab_w_newA hR]; exact hP1) (by rw [ab_w_newA hR]; exact hD1) hS1 (by rw [ab_nr_lv hlv]; exact hl) (ab_sa_up hsa hn) hd0 h1 h2 (by omega) (by omega) (fun σ2 ad2 q1 q2 q3 q4 => hG σ2 ad2 (Nat.le_trans (Nat.le_succ _) q1) (fun z hz => (q2 z (Nat.lt_succ_of_lt hz)).trans (if_neg (Nat.ne_of_lt hz))) (fun hb => absurd hb (by omega)) q4) hZ
  rw [show (Value.ref σ.1 :: st).map (ab_cv (fun j => if j = σ.1 then q else ad j)) = Value.ref q :: st.map (ab_cv ad) by rw [List.map_cons, ab_nr_map hst]; simp [ab_cv]] at h9
  exact h9
theorem EC_anew5 {idx b s' N : Nat} {n : Int32} (hk : Cond.classLink M.1.cls idx "CityBrigade$House" ∈ ab_G) {pc2 : Nat} (hp : pc + 3 = pc2) (hd : decode M.2.1 pc = .ok (.anewarray idx, 3)) (hneg : ¬ n < 0) (hN : n.toNatClampNeg = N) (hsm : N ≤ 100000) (hn : σ.1 < 1000000) (hR : ab_nR σ) (hlv : ab_nr σ.1 (lv.map (·.2))) (hst : ab_nr σ.1 st) (hb : bc = b + 1) (hs : bs = s' + N) (h : EC M pc2 lv (.ref σ.1 :: st) (ab_newA σ 5 N) d b s' K) : EC M pc lv (.int n :: st) σ d bc bs K := by
  subst hp
  intro p l e R s m args below meth c9 D tyc adK adV A H locs cells slots ad d0 ls G hC hP hD hS hl hsa hd0 h1 h2 h3 h4 hG hZ
  refine va_newq (s := s.setDrawn d0) hC.1 hC.2.1 hC.2.2.2.2.1 ((dr_words hC.2.2.2.2.2.1 d0) _ hk) (ec_Zm (s := s) (U := s.setDrawn d0) (Vm.Alike.refl _) hZ).1 hC.2.2.2.2.2.2.2.1 hP hD hS hC.2.2.2.2.2.2.2.2.2.1 hneg hN (by omega) (by omega) (by omega) hd (fun q cA H1 hK1 hP1 hD1 hS1 => ?_)
  have e1 : (s.setDrawn d0).vm.findClass ("[" ++ (FieldType.object "CityBrigade$House").toString) = some cA := by
    obtain ⟨_, _, _, _, _, h4⟩ := (hK1.2 9 (cA, .object "CityBrigade$House") (by rw [List.getElem?_append_right (by simp [ab_tys])]; simp [ab_tys])).2
    exact h4
  have e2 : (s.setDrawn d0).vm.findClass ("[" ++ (FieldType.object "CityBrigade$House").toString) = some (tyc 5) := by
    obtain ⟨_, _, _, _, _, h4⟩ := (hC.2.2.2.2.2.2.2.1.2 5 (tyc 5, .object "CityBrigade$House") (ab_tys_at (by decide))).2
    exact h4
  have e3 : cA = tyc 5 := Option.some.inj (e1.symm.trans e2)
  subst e3
  have h9 := h p l e R s m args below meth c9 D tyc adK adV A H1 locs (cells + 1) (slots + N) (fun j => if j = σ.1 then q else ad j) d0 ls G hC (by rw [ab_w_newA hR]; exact hP1) (by rw [ab_w_newA hR]; exact hD1) hS1 (by rw [ab_nr_lv hlv]; exact hl) (ab_sa_up hsa hn) hd0 h1 h2 (by omega) (by omega) (fun σ2 ad2 q1 q2 q3 q4 => hG σ2 ad2 (Nat.le_trans (Nat.le_succ _) q1) (fun z hz => (q2 z (Nat.lt_succ_of_lt hz)).trans (if_neg (Nat.ne_of_lt hz))) (fun hb => absurd hb (by omega)) q4) hZ
  rw [show (Value.ref σ.1 :: st).map (ab_cv (fun j => if j = σ.1 then q else ad j)) = Value.ref q :: st.map (ab_cv ad) by rw [List.map_cons, ab_nr_map hst]; simp [ab_cv]] at h9
  exact h9
theorem EC_anew6 {idx b s' N : Nat} {n : Int32} (hk : Cond.classLink M.1.cls idx "CityBrigade$Crew" ∈ ab_G) {pc2 : Nat} (hp : pc + 3 = pc2) (hd : decode M.2.1 pc = .ok (.anewarray idx, 3)) (hneg : ¬ n < 0) (hN : n.toNatClampNeg = N) (hsm : N ≤ 100000) (hn : σ.1 < 1000000) (hR : ab_nR σ) (hlv : ab_nr σ.1 (lv.map (·.2))) (hst : ab_nr σ.1 st) (hb : bc = b + 1) (hs : bs = s' + N) (h : EC M pc2 lv (.ref σ.1 :: st) (ab_newA σ 6 N) d b s' K) : EC M pc lv (.int n :: st) σ d bc bs K := by
  subst hp
  intro p l e R s m args below meth c9 D tyc adK adV A H locs cells slots ad d0 ls G hC hP hD hS hl hsa hd0 h1 h2 h3 h4 hG hZ
  refine va_newq (s := s.setDrawn d0) hC.1 hC.2.1 hC.2.2.2.2.1 ((dr_words hC.2.2.2.2.2.1 d0) _ hk) (ec_Zm (s := s) (U := s.setDrawn d0) (Vm.Alike.refl _) hZ).2.1 hC.2.2.2.2.2.2.2.1 hP hD hS hC.2.2.2.2.2.2.2.2.2.1 hneg hN (by omega) (by omega) (by omega) hd (fun q cA H1 hK1 hP1 hD1 hS1 => ?_)
  have e1 : (s.setDrawn d0).vm.findClass ("[" ++ (FieldType.object "CityBrigade$Crew").toString) = some cA := by
    obtain ⟨_, _, _, _, _, h4⟩ := (hK1.2 9 (cA, .object "CityBrigade$Crew") (by rw [List.getElem?_append_right (by simp [ab_tys])]; simp [ab_tys])).2
    exact h4
  have e2 : (s.setDrawn d0).vm.findClass ("[" ++ (FieldType.object "CityBrigade$Crew").toString) = some (tyc 6) := by
    obtain ⟨_, _, _, _, _, h4⟩ := (hC.2.2.2.2.2.2.2.1.2 6 (tyc 6, .object "CityBrigade$Crew") (ab_tys_at (by decide))).2
    exact h4
  have e3 : cA = tyc 6 := Option.some.inj (e1.symm.trans e2)
  subst e3
  have h9 := h p l e R s m args below meth c9 D tyc adK adV A H1 locs (cells + 1) (slots + N) (fun j => if j = σ.1 then q else ad j) d0 ls G hC (by rw [ab_w_newA hR]; exact hP1) (by rw [ab_w_newA hR]; exact hD1) hS1 (by rw [ab_nr_lv hlv]; exact hl) (ab_sa_up hsa hn) hd0 h1 h2 (by omega) (by omega) (fun σ2 ad2 q1 q2 q3 q4 => hG σ2 ad2 (Nat.le_trans (Nat.le_succ _) q1) (fun z hz => (q2 z (Nat.lt_succ_of_lt hz)).trans (if_neg (Nat.ne_of_lt hz))) (fun hb => absurd hb (by omega)) q4) hZ
  rw [show (Value.ref σ.1 :: st).map (ab_cv (fun j => if j = σ.1 then q else ad j)) = Value.ref q :: st.map (ab_cv ad) by rw [List.map_cons, ab_nr_map hst]; simp [ab_cv]] at h9
  exact h9
theorem EC_anew7 {idx b s' N : Nat} {n : Int32} (hk : Cond.classLink M.1.cls idx "CityBrigade$Call" ∈ ab_G) {pc2 : Nat} (hp : pc + 3 = pc2) (hd : decode M.2.1 pc = .ok (.anewarray idx, 3)) (hneg : ¬ n < 0) (hN : n.toNatClampNeg = N) (hsm : N ≤ 100000) (hn : σ.1 < 1000000) (hR : ab_nR σ) (hlv : ab_nr σ.1 (lv.map (·.2))) (hst : ab_nr σ.1 st) (hb : bc = b + 1) (hs : bs = s' + N) (h : EC M pc2 lv (.ref σ.1 :: st) (ab_newA σ 7 N) d b s' K) : EC M pc lv (.int n :: st) σ d bc bs K := by
  subst hp
  intro p l e R s m args below meth c9 D tyc adK adV A H locs cells slots ad d0 ls G hC hP hD hS hl hsa hd0 h1 h2 h3 h4 hG hZ
  refine va_newq (s := s.setDrawn d0) hC.1 hC.2.1 hC.2.2.2.2.1 ((dr_words hC.2.2.2.2.2.1 d0) _ hk) (ec_Zm (s := s) (U := s.setDrawn d0) (Vm.Alike.refl _) hZ).2.2.1 hC.2.2.2.2.2.2.2.1 hP hD hS hC.2.2.2.2.2.2.2.2.2.1 hneg hN (by omega) (by omega) (by omega) hd (fun q cA H1 hK1 hP1 hD1 hS1 => ?_)
  have e1 : (s.setDrawn d0).vm.findClass ("[" ++ (FieldType.object "CityBrigade$Call").toString) = some cA := by
    obtain ⟨_, _, _, _, _, h4⟩ := (hK1.2 9 (cA, .object "CityBrigade$Call") (by rw [List.getElem?_append_right (by simp [ab_tys])]; simp [ab_tys])).2
    exact h4
  have e2 : (s.setDrawn d0).vm.findClass ("[" ++ (FieldType.object "CityBrigade$Call").toString) = some (tyc 7) := by
    obtain ⟨_, _, _, _, _, h4⟩ := (hC.2.2.2.2.2.2.2.1.2 7 (tyc 7, .object "CityBrigade$Call") (ab_tys_at (by decide))).2
    exact h4
  have e3 : cA = tyc 7 := Option.some.inj (e1.symm.trans e2)
  subst e3
  have h9 := h p l e R s m args below meth c9 D tyc adK adV A H1 locs (cells + 1) (slots + N) (fun j => if j = σ.1 then q else ad j) d0 ls G hC (by rw [ab_w_newA hR]; exact hP1) (by rw [ab_w_newA hR]; exact hD1) hS1 (by rw [ab_nr_lv hlv]; exact hl) (ab_sa_up hsa hn) hd0 h1 h2 (by omega) (by omega) (fun σ2 ad2 q1 q2 q3 q4 => hG σ2 ad2 (Nat.le_trans (Nat.le_succ _) q1) (fun z hz => (q2 z (Nat.lt_succ_of_lt hz)).trans (if_neg (Nat.ne_of_lt hz))) (fun hb => absurd hb (by omega)) q4) hZ
  rw [show (Value.ref σ.1 :: st).map (ab_cv (fun j => if j = σ.1 then q else ad j)) = Value.ref q :: st.map (ab_cv ad) by rw [List.map_cons, ab_nr_map hst]; simp [ab_cv]] at h9
  exact h9
theorem EC_anew8 {idx b s' N : Nat} {n : Int32} (hk : Cond.classLink M.1.cls idx "CityBrigade$Text" ∈ ab_G) {pc2 : Nat} (hp : pc + 3 = pc2) (hd : decode M.2.1 pc = .ok (.anewarray idx, 3)) (hneg : ¬ n < 0) (hN : n.toNatClampNeg = N) (hsm : N ≤ 100000) (hn : σ.1 < 1000000) (hR : ab_nR σ) (hlv : ab_nr σ.1 (lv.map (·.2))) (hst : ab_nr σ.1 st) (hb : bc = b + 1) (hs : bs = s' + N) (h : EC M pc2 lv (.ref σ.1 :: st) (ab_newA σ 8 N) d b s' K) : EC M pc lv (.int n :: st) σ d bc bs K := by
  subst hp
  intro p l e R s m args below meth c9 D tyc adK adV A H locs cells slots ad d0 ls G hC hP hD hS hl hsa hd0 h1 h2 h3 h4 hG hZ
  refine va_newq (s := s.setDrawn d0) hC.1 hC.2.1 hC.2.2.2.2.1 ((dr_words hC.2.2.2.2.2.1 d0) _ hk) (ec_Zm (s := s) (U := s.setDrawn d0) (Vm.Alike.refl _) hZ).2.2.2 hC.2.2.2.2.2.2.2.1 hP hD hS hC.2.2.2.2.2.2.2.2.2.1 hneg hN (by omega) (by omega) (by omega) hd (fun q cA H1 hK1 hP1 hD1 hS1 => ?_)
  have e1 : (s.setDrawn d0).vm.findClass ("[" ++ (FieldType.object "CityBrigade$Text").toString) = some cA := by
    obtain ⟨_, _, _, _, _, h4⟩ := (hK1.2 9 (cA, .object "CityBrigade$Text") (by rw [List.getElem?_append_right (by simp [ab_tys])]; simp [ab_tys])).2
    exact h4
  have e2 : (s.setDrawn d0).vm.findClass ("[" ++ (FieldType.object "CityBrigade$Text").toString) = some (tyc 8) := by
    obtain ⟨_, _, _, _, _, h4⟩ := (hC.2.2.2.2.2.2.2.1.2 8 (tyc 8, .object "CityBrigade$Text") (ab_tys_at (by decide))).2
    exact h4
  have e3 : cA = tyc 8 := Option.some.inj (e1.symm.trans e2)
  subst e3
  have h9 := h p l e R s m args below meth c9 D tyc adK adV A H1 locs (cells + 1) (slots + N) (fun j => if j = σ.1 then q else ad j) d0 ls G hC (by rw [ab_w_newA hR]; exact hP1) (by rw [ab_w_newA hR]; exact hD1) hS1 (by rw [ab_nr_lv hlv]; exact hl) (ab_sa_up hsa hn) hd0 h1 h2 (by omega) (by omega) (fun σ2 ad2 q1 q2 q3 q4 => hG σ2 ad2 (Nat.le_trans (Nat.le_succ _) q1) (fun z hz => (q2 z (Nat.lt_succ_of_lt hz)).trans (if_neg (Nat.ne_of_lt hz))) (fun hb => absurd hb (by omega)) q4) hZ
  rw [show (Value.ref σ.1 :: st).map (ab_cv (fun j => if j = σ.1 then q else ad j)) = Value.ref q :: st.map (ab_cv ad) by rw [List.map_cons, ab_nr_map hst]; simp [ab_cv]] at h9
  exact h9
theorem EC_aast5 {c n v : Nat} {i : Int32} {pc2 : Nat} (hp : pc + 1 = pc2) (hd : decode M.2.1 pc = .ok (.aastore, 1)) (hc : c < σ.1) (hs : σ.2.1 c = .inr (5, n)) (hin : vp_in i n) (hv : v < σ.1) (hvs : σ.2.1 v = .inl 4) (h : EC M pc2 lv st (ab_ur σ c i.toNatClampNeg (some v)) d bc bs K) : EC M pc lv (.ref v :: .int i :: .ref c :: st) σ d bc bs K := by
  subst hp
  intro p l e R s m args below meth c9 D tyc adK adV A H locs cells slots ad d0 ls G hC hP hD hS hl hsa hd0 h1 h2 h3 h4 hG hZ
  refine va_astq (s := s.setDrawn d0) (r := (ab_RX 4, ab_TX 4, ab_N 4)) hC.1 hC.2.1 hC.2.2.2.2.2.2.2.1 hP hD hS c 5 v 4 (by rw [ab_w_at hc, ab_e_a hs]; rfl) (ab_tys_at (by decide)) (by rw [ab_w_at hv, ab_e_o hvs]) (ab_cl_at (by decide)) hin hd (fun H locs hP hD hS => ?_)
  have e9 : (ab_w tyc ad σ).set c (ad c, .inl (tyc 5, n, .inr (.inr (.inr (.inr (va_up (fun j => (σ.2.2.2.2.2 c j).map ad) i.toNatClampNeg (some (ad v)))))))) = ab_w tyc ad (ab_ur σ c i.toNatClampNeg (some v)) := by
    refine ab_w_set rfl ?_ (fun j hj => ?_)
    · rw [ab_e_a (show (ab_ur σ c i.toNatClampNeg (some v)).2.1 c = .inr (5, n) from hs)]
      simp only [ab_a, ab_ur]
      refine congrArg (fun f => Sum.inl (tyc 5, n, Sum.inr (Sum.inr (Sum.inr (Sum.inr f))))) (funext fun j => ?_)
      by_cases hj : j = i.toNatClampNeg
      · subst hj
        simp [va_up]
      · simp [va_up, hj]
    · show (match σ.2.1 j with | .inl ci => (.inr (ci, ab_fs ad (ab_ur σ c i.toNatClampNeg (some v)) j ci) : va_E) | .inr q => .inl (tyc q.1, q.2, ab_a ad (ab_ur σ c i.toNatClampNeg (some v)) j q.1)) = ab_e tyc ad σ j
      unfold ab_e
      cases σ.2.1 j with
      | inl x => simp [ab_fs, ab_ur, hj]; intro a ha; simp [ab_f, hj]
      | inr q => simp [ab_a, ab_ur, hj]
  rw [e9] at hP hD
  exact (h p l e R s m args below meth c9 D tyc adK adV A H locs cells slots ad d0 ls G hC hP hD hS hl hsa hd0 h1 h2 h3 h4 hG hZ)
theorem EC_aast6 {c n v : Nat} {i : Int32} {pc2 : Nat} (hp : pc + 1 = pc2) (hd : decode M.2.1 pc = .ok (.aastore, 1)) (hc : c < σ.1) (hs : σ.2.1 c = .inr (6, n)) (hin : vp_in i n) (hv : v < σ.1) (hvs : σ.2.1 v = .inl 2) (h : EC M pc2 lv st (ab_ur σ c i.toNatClampNeg (some v)) d bc bs K) : EC M pc lv (.ref v :: .int i :: .ref c :: st) σ d bc bs K := by
  subst hp
  intro p l e R s m args below meth c9 D tyc adK adV A H locs cells slots ad d0 ls G hC hP hD hS hl hsa hd0 h1 h2 h3 h4 hG hZ
  refine va_astq (s := s.setDrawn d0) (r := (ab_RX 2, ab_TX 2, ab_N 2)) hC.1 hC.2.1 hC.2.2.2.2.2.2.2.1 hP hD hS c 6 v 2 (by rw [ab_w_at hc, ab_e_a hs]; rfl) (ab_tys_at (by decide)) (by rw [ab_w_at hv, ab_e_o hvs]) (ab_cl_at (by decide)) hin hd (fun H locs hP hD hS => ?_)
  have e9 : (ab_w tyc ad σ).set c (ad c, .inl (tyc 6, n, .inr (.inr (.inr (.inr (va_up (fun j => (σ.2.2.2.2.2 c j).map ad) i.toNatClampNeg (some (ad v)))))))) = ab_w tyc ad (ab_ur σ c i.toNatClampNeg (some v)) := by
    refine ab_w_set rfl ?_ (fun j hj => ?_)
    · rw [ab_e_a (show (ab_ur σ c i.toNatClampNeg (some v)).2.1 c = .inr (6, n) from hs)]
      simp only [ab_a, ab_ur]
      refine congrArg (fun f => Sum.inl (tyc 6, n, Sum.inr (Sum.inr (Sum.inr (Sum.inr f))))) (funext fun j => ?_)
      by_cases hj : j = i.toNatClampNeg
      · subst hj
        simp [va_up]
      · simp [va_up, hj]
    · show (match σ.2.1 j with | .inl ci => (.inr (ci, ab_fs ad (ab_ur σ c i.toNatClampNeg (some v)) j ci) : va_E) | .inr q => .inl (tyc q.1, q.2, ab_a ad (ab_ur σ c i.toNatClampNeg (some v)) j q.1)) = ab_e tyc ad σ j
      unfold ab_e
      cases σ.2.1 j with
      | inl x => simp [ab_fs, ab_ur, hj]; intro a ha; simp [ab_f, hj]
      | inr q => simp [ab_a, ab_ur, hj]
  rw [e9] at hP hD
  exact (h p l e R s m args below meth c9 D tyc adK adV A H locs cells slots ad d0 ls G hC hP hD hS hl hsa hd0 h1 h2 h3 h4 hG hZ)
theorem EC_aast7 {c n v : Nat} {i : Int32} {pc2 : Nat} (hp : pc + 1 = pc2) (hd : decode M.2.1 pc = .ok (.aastore, 1)) (hc : c < σ.1) (hs : σ.2.1 c = .inr (7, n)) (hin : vp_in i n) (hv : v < σ.1) (hvs : σ.2.1 v = .inl 1) (h : EC M pc2 lv st (ab_ur σ c i.toNatClampNeg (some v)) d bc bs K) : EC M pc lv (.ref v :: .int i :: .ref c :: st) σ d bc bs K := by
  subst hp
  intro p l e R s m args below meth c9 D tyc adK adV A H locs cells slots ad d0 ls G hC hP hD hS hl hsa hd0 h1 h2 h3 h4 hG hZ
  refine va_astq (s := s.setDrawn d0) (r := (ab_RX 1, ab_TX 1, ab_N 1)) hC.1 hC.2.1 hC.2.2.2.2.2.2.2.1 hP hD hS c 7 v 1 (by rw [ab_w_at hc, ab_e_a hs]; rfl) (ab_tys_at (by decide)) (by rw [ab_w_at hv, ab_e_o hvs]) (ab_cl_at (by decide)) hin hd (fun H locs hP hD hS => ?_)
  have e9 : (ab_w tyc ad σ).set c (ad c, .inl (tyc 7, n, .inr (.inr (.inr (.inr (va_up (fun j => (σ.2.2.2.2.2 c j).map ad) i.toNatClampNeg (some (ad v)))))))) = ab_w tyc ad (ab_ur σ c i.toNatClampNeg (some v)) := by
    refine ab_w_set rfl ?_ (fun j hj => ?_)
    · rw [ab_e_a (show (ab_ur σ c i.toNatClampNeg (some v)).2.1 c = .inr (7, n) from hs)]
      simp only [ab_a, ab_ur]
      refine congrArg (fun f => Sum.inl (tyc 7, n, Sum.inr (Sum.inr (Sum.inr (Sum.inr f))))) (funext fun j => ?_)
      by_cases hj : j = i.toNatClampNeg
      · subst hj
        simp [va_up]
      · simp [va_up, hj]
    · show (match σ.2.1 j with | .inl ci => (.inr (ci, ab_fs ad (ab_ur σ c i.toNatClampNeg (some v)) j ci) : va_E) | .inr q => .inl (tyc q.1, q.2, ab_a ad (ab_ur σ c i.toNatClampNeg (some v)) j q.1)) = ab_e tyc ad σ j
      unfold ab_e
      cases σ.2.1 j with
      | inl x => simp [ab_fs, ab_ur, hj]; intro a ha; simp [ab_f, hj]
      | inr q => simp [ab_a, ab_ur, hj]
  rw [e9] at hP hD
  exact (h p l e R s m args below meth c9 D tyc adK adV A H locs cells slots ad d0 ls G hC hP hD hS hl hsa hd0 h1 h2 h3 h4 hG hZ)
theorem EC_aast8 {c n v : Nat} {i : Int32} {pc2 : Nat} (hp : pc + 1 = pc2) (hd : decode M.2.1 pc = .ok (.aastore, 1)) (hc : c < σ.1) (hs : σ.2.1 c = .inr (8, n)) (hin : vp_in i n) (hv : v < σ.1) (hvs : σ.2.1 v = .inl 9) (h : EC M pc2 lv st (ab_ur σ c i.toNatClampNeg (some v)) d bc bs K) : EC M pc lv (.ref v :: .int i :: .ref c :: st) σ d bc bs K := by
  subst hp
  intro p l e R s m args below meth c9 D tyc adK adV A H locs cells slots ad d0 ls G hC hP hD hS hl hsa hd0 h1 h2 h3 h4 hG hZ
  refine va_astq (s := s.setDrawn d0) (r := (ab_RX 9, ab_TX 9, ab_N 9)) hC.1 hC.2.1 hC.2.2.2.2.2.2.2.1 hP hD hS c 8 v 9 (by rw [ab_w_at hc, ab_e_a hs]; rfl) (ab_tys_at (by decide)) (by rw [ab_w_at hv, ab_e_o hvs]) (ab_cl_at (by decide)) hin hd (fun H locs hP hD hS => ?_)
  have e9 : (ab_w tyc ad σ).set c (ad c, .inl (tyc 8, n, .inr (.inr (.inr (.inr (va_up (fun j => (σ.2.2.2.2.2 c j).map ad) i.toNatClampNeg (some (ad v)))))))) = ab_w tyc ad (ab_ur σ c i.toNatClampNeg (some v)) := by
    refine ab_w_set rfl ?_ (fun j hj => ?_)
    · rw [ab_e_a (show (ab_ur σ c i.toNatClampNeg (some v)).2.1 c = .inr (8, n) from hs)]
      simp only [ab_a, ab_ur]
      refine congrArg (fun f => Sum.inl (tyc 8, n, Sum.inr (Sum.inr (Sum.inr (Sum.inr f))))) (funext fun j => ?_)
      by_cases hj : j = i.toNatClampNeg
      · subst hj
        simp [va_up]
      · simp [va_up, hj]
    · show (match σ.2.1 j with | .inl ci => (.inr (ci, ab_fs ad (ab_ur σ c i.toNatClampNeg (some v)) j ci) : va_E) | .inr q => .inl (tyc q.1, q.2, ab_a ad (ab_ur σ c i.toNatClampNeg (some v)) j q.1)) = ab_e tyc ad σ j
      unfold ab_e
      cases σ.2.1 j with
      | inl x => simp [ab_fs, ab_ur, hj]; intro a ha; simp [ab_f, hj]
      | inr q => simp [ab_a, ab_ur, hj]
  rw [e9] at hP hD
  exact (h p l e R s m args below meth c9 D tyc adK adV A H locs cells slots ad d0 ls G hC hP hD hS hl hsa hd0 h1 h2 h3 h4 hG hZ)
theorem EC_str_T15 (hm : M.1.cls = "CityBrigade$Tape") {pc2 : Nat} (hp : pc + 2 = pc2) (hd : decode M.2.1 pc = .ok (.ldc 15, 2)) (h : EC M pc2 lv (.ref 1000000 :: st) σ d bc bs K) : EC M pc lv st σ d bc bs K := by
  subst hp
  intro p l e R s m args below meth c9 D tyc adK adV A H locs cells slots ad d0 ls G hC hP hD hS hl hsa hd0 h1 h2 h3 h4 hG hZ
  have h9 := (h p l e R s m args below meth c9 D tyc adK adV A H locs cells slots ad d0 ls G hC hP hD hS hl hsa hd0 h1 h2 h3 h4 hG hZ)
  rw [show (Value.ref 1000000 :: st).map (ab_cv ad) = Value.ref (adK 0) :: st.map (ab_cv ad) by simp [ab_cv, (hsa 0 (by decide)).1]] at h9
  exact va_ldcS (s := s.setDrawn d0) hC.1 hC.2.1 (own := "CityBrigade$Tape") (by rw [← hm]; exact hC.2.2.2.2.1) (hC.2.2.2.2.2.2.2.2.2.2.2.2.2.1.same rfl) hd h9
theorem EC_str_M208 (hm : M.1.cls = "CityBrigadeModel") {pc2 : Nat} (hp : pc + 2 = pc2) (hd : decode M.2.1 pc = .ok (.ldc 208, 2)) (h : EC M pc2 lv (.ref 1000004 :: st) σ d bc bs K) : EC M pc lv st σ d bc bs K := by
  subst hp
  intro p l e R s m args below meth c9 D tyc adK adV A H locs cells slots ad d0 ls G hC hP hD hS hl hsa hd0 h1 h2 h3 h4 hG hZ
  have h9 := (h p l e R s m args below meth c9 D tyc adK adV A H locs cells slots ad d0 ls G hC hP hD hS hl hsa hd0 h1 h2 h3 h4 hG hZ)
  rw [show (Value.ref 1000004 :: st).map (ab_cv ad) = Value.ref (adK 4) :: st.map (ab_cv ad) by simp [ab_cv, (hsa 4 (by decide)).1]] at h9
  exact va_ldcS (s := s.setDrawn d0) hC.1 hC.2.1 (own := "CityBrigadeModel") (by rw [← hm]; exact hC.2.2.2.2.1) (hC.2.2.2.2.2.2.2.2.2.2.2.2.2.2.2.2.2.1.same rfl) hd h9
end ECR
