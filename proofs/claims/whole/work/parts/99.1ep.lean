def ap_nse : String := "java/util/NoSuchElementException"
/-- the end by a throw -/
def ap_X (D : va_G) (tyc : Nat → ClassId) (A : Nat → Prop) (G : ab_St → (Nat → Nat) → Prop) (T : ab_St → Prop) : String → State → State → Prop := fun E st t =>
  E = ap_nse ∧ (∃ (σ : ab_St) (ad : Nat → Nat), T σ ∧ va_P D ab_cl (ab_w tyc ad σ) t.heap ∧ va_D A (ab_w tyc ad σ) ∧ G σ ad) ∧ va_F A st t
/-- the words of the throw that no list of good words holds -/
def ap_N (s : State) : Prop := va_Nw (.castable ap_nse ap_nse) s ∧ va_Nw (.declares (Bundle.init0 "java/lang/RuntimeException")) s ∧ va_Nw (.declares (Bundle.init0 "java/lang/Exception")) s ∧ va_Nw (.declares (Bundle.init0 "java/lang/Throwable")) s
theorem ap_N.warm {s U : State} (hW : s.WarmedH U.vm) (h : ap_N s) : ap_N U := ⟨va_Nw.warmC hW h.1, va_Nw.warmD hW h.2.1, va_Nw.warmD hW h.2.2.1, va_Nw.warmD hW h.2.2.2⟩
theorem ap_N.same {s U : State} (e : s.vm = U.vm) (h : ap_N s) : ap_N U := ⟨va_Nw.same rfl e h.1, va_Nw.same rfl e h.2.1, va_Nw.same rfl e h.2.2.1, va_Nw.same rfl e h.2.2.2⟩
/-- what a throw needs -/
def ap_Z (l : Launch) (A : Nat → Prop) (s : State) : Prop := l.stackTraces = false ∧ vx_Zq Bundle.tN "UNASSIGNED_STACK" Bundle.steD A s s.heap ∧ vx_Zq Bundle.tN "SUPPRESSED_SENTINEL" Bundle.listD A s s.heap ∧ ap_N s
def EP (M : ab_M) (pc : Nat) (lv : List (Nat × Value)) (st : List Value) (σ : ab_St) (d bc bs : Nat) (K : Option Value → ab_St → Prop) (T : ab_St → Prop) : Prop :=
  ∀ (p : Program) (l : Launch) (e : Env) (R : Room) (s : State) (m : MethodId) (args : Array Value) (below : List Frame) (meth : Method) (c : Code) (D : va_G) (tyc : Nat → ClassId) (adK adV : Nat → Nat) (A : Nat → Prop) (H : Heap) (locs : List Loc) (cells slots : Nat) (ad : Nat → Nat) (ls : Array Slot) (G : ab_St → (Nat → Nat) → Prop),
    ab_C M p s m args meth c D tyc adK adV A → va_P D ab_cl (ab_w tyc ad σ) H → va_D A (ab_w tyc ad σ) → va_S A s.heap H locs → lv_has ls M.2.2.1 (lv.map (fun q => (q.1, ab_cv ad q.2))) → ab_sa adK adV ad → d ≤ R.frames → 45 * d ≤ R.locals → cells + bc ≤ R.cells → slots + bs ≤ R.slots →
    (∀ (σ' : ab_St) (ad' : Nat → Nat), σ.1 ≤ σ'.1 → (∀ q, q < σ.1 → ad' q = ad q) → (bc = 0 → ad' = ad) → ab_sa adK adV ad' → G σ' ad') → ((∀ σ', ¬ T σ') ∨ (ap_Z l A s ∧ (∀ x ∈ c.exceptionTable.toList, False) ∧ cells + bc + 1 ≤ R.cells ∧ slots + bs + 6 ≤ R.slots)) →
    W p l e R s m args below meth c H locs cells slots (vx_MQ below (ab_Q D tyc A G K) (ap_X D tyc A G T) args s R.cells R.slots A) (F0 m pc ls (st.map (ab_cv ad)))
theorem EP_mono {M : ab_M} {pc : Nat} {lv : List (Nat × Value)} {st : List Value} {σ : ab_St} {d bc bs : Nat} {K K' : Option Value → ab_St → Prop} {T : ab_St → Prop} (hk : ∀ r σ', K r σ' → K' r σ') (h : EP M pc lv st σ d bc bs K T) : EP M pc lv st σ d bc bs K' T := by
  intro p l e R s m args below meth c D tyc adK adV A H locs cells slots ad ls G hC hP hD hS hl hsa h1 h2 h3 h4 hG hZ U hU X
  obtain ⟨t, a, o, b1, b2, b3⟩ := h p l e R s m args below meth c D tyc adK adV A H locs cells slots ad ls G hC hP hD hS hl hsa h1 h2 h3 h4 hG hZ U hU X
  refine ⟨t, a, o, b1, b2, ?_⟩
  rcases b3 with ⟨⟨⟨r, σ', ad', q1, q2, q3⟩, q4⟩, b4⟩ | b3
  · exact Or.inl ⟨⟨⟨r, σ', ad', q1, hk r σ' q2, q3⟩, q4⟩, b4⟩
  · exact Or.inr b3
section EPR
variable {M : ab_M} {pc : Nat} {lv : List (Nat × Value)} {st : List Value} {σ : ab_St} {d bc bs : Nat} {K : Option Value → ab_St → Prop} {T : ab_St → Prop}
theorem EP_iconst {n : Int} {v : Int32} {pc2 : Nat} (hp : pc + 1 = pc2) (hd : decode M.2.1 pc = .ok (.iconst n, 1)) (hv : Int32.ofInt n = v) (h : EP M pc2 lv (.int v :: st) σ d bc bs K T) : EP M pc lv st σ d bc bs K T := by
  subst hp
  intro p l e R s m args below meth c9 D tyc adK adV A H locs cells slots ad ls G hC hP hD hS hl hsa h1 h2 h3 h4 hG hZ
  exact lv_iconst hC.1 hC.2.1 hd hv (h p l e R s m args below meth c9 D tyc adK adV A H locs cells slots ad ls G hC hP hD hS hl hsa h1 h2 h3 h4 hG hZ)
theorem EP_bipush {n : Int} {v : Int32} {pc2 : Nat} (hp : pc + 2 = pc2) (hd : decode M.2.1 pc = .ok (.bipush n, 2)) (hv : (Int8.ofInt n).toInt32 = v) (h : EP M pc2 lv (.int v :: st) σ d bc bs K T) : EP M pc lv st σ d bc bs K T := by
  subst hp
  intro p l e R s m args below meth c9 D tyc adK adV A H locs cells slots ad ls G hC hP hD hS hl hsa h1 h2 h3 h4 hG hZ
  exact lv_bipush hC.1 hC.2.1 hd hv (h p l e R s m args below meth c9 D tyc adK adV A H locs cells slots ad ls G hC hP hD hS hl hsa h1 h2 h3 h4 hG hZ)
theorem EP_iadd {x y : Int32} {pc2 : Nat} (hp : pc + 1 = pc2) (hd : decode M.2.1 pc = .ok (.iadd, 1))  (h : EP M pc2 lv (.int (x + y) :: st) σ d bc bs K T) : EP M pc lv (.int y :: .int x :: st) σ d bc bs K T := by
  subst hp
  intro p l e R s m args below meth c9 D tyc adK adV A H locs cells slots ad ls G hC hP hD hS hl hsa h1 h2 h3 h4 hG hZ
  exact lv_iadd hC.1 hC.2.1 hd  (h p l e R s m args below meth c9 D tyc adK adV A H locs cells slots ad ls G hC hP hD hS hl hsa h1 h2 h3 h4 hG hZ)
theorem EP_idiv {x y : Int32} {pc2 : Nat} (hp : pc + 1 = pc2) (hd : decode M.2.1 pc = .ok (.idiv, 1)) (hne : ¬ y = 0) (h : EP M pc2 lv (.int (x / y) :: st) σ d bc bs K T) : EP M pc lv (.int y :: .int x :: st) σ d bc bs K T := by
  subst hp
  intro p l e R s m args below meth c9 D tyc adK adV A H locs cells slots ad ls G hC hP hD hS hl hsa h1 h2 h3 h4 hG hZ
  exact lv_idiv hC.1 hC.2.1 hd hne (h p l e R s m args below meth c9 D tyc adK adV A H locs cells slots ad ls G hC hP hD hS hl hsa h1 h2 h3 h4 hG hZ)
theorem EP_iload_n {k : Fin 4} {x : Int32} {pc2 : Nat} (hp : pc + 1 = pc2) (hd : decode M.2.1 pc = .ok (.iload_n k, 1)) (j : Nat) (hj : lv[j]? = some ((k : Nat), .int x)) (h : EP M pc2 lv (.int x :: st) σ d bc bs K T) : EP M pc lv st σ d bc bs K T := by
  subst hp
  intro p l e R s m args below meth c9 D tyc adK adV A H locs cells slots ad ls G hC hP hD hS hl hsa h1 h2 h3 h4 hG hZ
  exact lv_iload_n hC.1 hC.2.1 hd rfl (lv_at hl j (by rw [List.getElem?_map, hj]; rfl)) (h p l e R s m args below meth c9 D tyc adK adV A H locs cells slots ad ls G hC hP hD hS hl hsa h1 h2 h3 h4 hG hZ)
theorem EP_aload_n {k : Fin 4} {x : Nat} {pc2 : Nat} (hp : pc + 1 = pc2) (hd : decode M.2.1 pc = .ok (.aload_n k, 1)) (j : Nat) (hj : lv[j]? = some ((k : Nat), .ref x)) (h : EP M pc2 lv (.ref x :: st) σ d bc bs K T) : EP M pc lv st σ d bc bs K T := by
  subst hp
  intro p l e R s m args below meth c9 D tyc adK adV A H locs cells slots ad ls G hC hP hD hS hl hsa h1 h2 h3 h4 hG hZ
  exact lv_aload_n hC.1 hC.2.1 hd rfl (lv_at hl j (by rw [List.getElem?_map, hj]; rfl)) (h p l e R s m args below meth c9 D tyc adK adV A H locs cells slots ad ls G hC hP hD hS hl hsa h1 h2 h3 h4 hG hZ)
theorem EP_astore_n {k : Fin 4} {x : Nat} {pc2 : Nat} (hpc : pc + 1 = pc2) (hd : decode M.2.1 pc = .ok (.astore_n k, 1)) (hn : (k : Nat) < M.2.2.1) (ks : List Nat) (lv' : List (Nat × Value)) (hp : lv_pick (((k : Nat), .ref x) :: lv.filter (ab_k1 (k : Nat))) ks = lv') (h : EP M pc2 lv' st σ d bc bs K T) : EP M pc lv (.ref x :: st) σ d bc bs K T := by
  subst hpc
  intro p l e R s m args below meth c9 D tyc adK adV A H locs cells slots ad ls G hC hP hD hS hl hsa h1 h2 h3 h4 hG hZ
  refine lv_astore_n hC.1 hC.2.1 hd rfl hl hn rfl (fun ls hl => ?_)
  rw [ab_k1_map] at hl
  exact (h p l e R s m args below meth c9 D tyc adK adV A H locs cells slots ad ls G hC hP hD hS (lv_sub hl ks (ab_pick_map (l := ((k : Nat), .ref x) :: lv.filter (ab_k1 (k : Nat))) ks hp)) hsa h1 h2 h3 h4 hG hZ)
theorem EP_if_eq {x : Int32} {off : Int} {tgt pc2 : Nat} (hp : pc + 3 = pc2) (hd : decode M.2.1 pc = .ok (.ifCond .eq off, 3)) (ht : (pc : Int) + off = (tgt : Int)) (hk : x = 0 → EP M tgt lv st σ d bc bs K T) (hf : ¬ x = 0 → EP M pc2 lv st σ d bc bs K T) : EP M pc lv (.int x :: st) σ d bc bs K T := by
  subst hp
  intro p l e R s m args below meth c9 D tyc adK adV A H locs cells slots ad ls G hC hP hD hS hl hsa h1 h2 h3 h4 hG hZ
  exact lv_if_eq hC.1 hC.2.1 hd ht (fun q => (hk q p l e R s m args below meth c9 D tyc adK adV A H locs cells slots ad ls G hC hP hD hS hl hsa h1 h2 h3 h4 hG hZ)) (fun q => (hf q p l e R s m args below meth c9 D tyc adK adV A H locs cells slots ad ls G hC hP hD hS hl hsa h1 h2 h3 h4 hG hZ))
theorem EP_if_ne {x : Int32} {off : Int} {tgt pc2 : Nat} (hp : pc + 3 = pc2) (hd : decode M.2.1 pc = .ok (.ifCond .ne off, 3)) (ht : (pc : Int) + off = (tgt : Int)) (hk : ¬ x = 0 → EP M tgt lv st σ d bc bs K T) (hf : x = 0 → EP M pc2 lv st σ d bc bs K T) : EP M pc lv (.int x :: st) σ d bc bs K T := by
  subst hp
  intro p l e R s m args below meth c9 D tyc adK adV A H locs cells slots ad ls G hC hP hD hS hl hsa h1 h2 h3 h4 hG hZ
  exact lv_if_ne hC.1 hC.2.1 hd ht (fun q => (hk q p l e R s m args below meth c9 D tyc adK adV A H locs cells slots ad ls G hC hP hD hS hl hsa h1 h2 h3 h4 hG hZ)) (fun q => (hf q p l e R s m args below meth c9 D tyc adK adV A H locs cells slots ad ls G hC hP hD hS hl hsa h1 h2 h3 h4 hG hZ))
theorem EP_if_lt {x : Int32} {off : Int} {tgt pc2 : Nat} (hp : pc + 3 = pc2) (hd : decode M.2.1 pc = .ok (.ifCond .lt off, 3)) (ht : (pc : Int) + off = (tgt : Int)) (hk : x < 0 → EP M tgt lv st σ d bc bs K T) (hf : ¬ x < 0 → EP M pc2 lv st σ d bc bs K T) : EP M pc lv (.int x :: st) σ d bc bs K T := by
  subst hp
  intro p l e R s m args below meth c9 D tyc adK adV A H locs cells slots ad ls G hC hP hD hS hl hsa h1 h2 h3 h4 hG hZ
  exact lv_if_lt hC.1 hC.2.1 hd ht (fun q => (hk q p l e R s m args below meth c9 D tyc adK adV A H locs cells slots ad ls G hC hP hD hS hl hsa h1 h2 h3 h4 hG hZ)) (fun q => (hf q p l e R s m args below meth c9 D tyc adK adV A H locs cells slots ad ls G hC hP hD hS hl hsa h1 h2 h3 h4 hG hZ))
theorem EP_icmp_lt {x y : Int32} {off : Int} {tgt pc2 : Nat} (hp : pc + 3 = pc2) (hd : decode M.2.1 pc = .ok (.if_icmp .lt off, 3)) (ht : (pc : Int) + off = (tgt : Int)) (hk : x < y → EP M tgt lv st σ d bc bs K T) (hf : ¬ x < y → EP M pc2 lv st σ d bc bs K T) : EP M pc lv (.int y :: .int x :: st) σ d bc bs K T := by
  subst hp
  intro p l e R s m args below meth c9 D tyc adK adV A H locs cells slots ad ls G hC hP hD hS hl hsa h1 h2 h3 h4 hG hZ
  exact lv_icmp_lt hC.1 hC.2.1 hd ht (fun q => (hk q p l e R s m args below meth c9 D tyc adK adV A H locs cells slots ad ls G hC hP hD hS hl hsa h1 h2 h3 h4 hG hZ)) (fun q => (hf q p l e R s m args below meth c9 D tyc adK adV A H locs cells slots ad ls G hC hP hD hS hl hsa h1 h2 h3 h4 hG hZ))
theorem EP_icmp_ge {x y : Int32} {off : Int} {tgt pc2 : Nat} (hp : pc + 3 = pc2) (hd : decode M.2.1 pc = .ok (.if_icmp .ge off, 3)) (ht : (pc : Int) + off = (tgt : Int)) (hk : y ≤ x → EP M tgt lv st σ d bc bs K T) (hf : ¬ y ≤ x → EP M pc2 lv st σ d bc bs K T) : EP M pc lv (.int y :: .int x :: st) σ d bc bs K T := by
  subst hp
  intro p l e R s m args below meth c9 D tyc adK adV A H locs cells slots ad ls G hC hP hD hS hl hsa h1 h2 h3 h4 hG hZ
  exact lv_icmp_ge hC.1 hC.2.1 hd ht (fun q => (hk q p l e R s m args below meth c9 D tyc adK adV A H locs cells slots ad ls G hC hP hD hS hl hsa h1 h2 h3 h4 hG hZ)) (fun q => (hf q p l e R s m args below meth c9 D tyc adK adV A H locs cells slots ad ls G hC hP hD hS hl hsa h1 h2 h3 h4 hG hZ))
theorem EP_icmp_gt {x y : Int32} {off : Int} {tgt pc2 : Nat} (hp : pc + 3 = pc2) (hd : decode M.2.1 pc = .ok (.if_icmp .gt off, 3)) (ht : (pc : Int) + off = (tgt : Int)) (hk : y < x → EP M tgt lv st σ d bc bs K T) (hf : ¬ y < x → EP M pc2 lv st σ d bc bs K T) : EP M pc lv (.int y :: .int x :: st) σ d bc bs K T := by
  subst hp
  intro p l e R s m args below meth c9 D tyc adK adV A H locs cells slots ad ls G hC hP hD hS hl hsa h1 h2 h3 h4 hG hZ
  exact lv_icmp_gt hC.1 hC.2.1 hd ht (fun q => (hk q p l e R s m args below meth c9 D tyc adK adV A H locs cells slots ad ls G hC hP hD hS hl hsa h1 h2 h3 h4 hG hZ)) (fun q => (hf q p l e R s m args below meth c9 D tyc adK adV A H locs cells slots ad ls G hC hP hD hS hl hsa h1 h2 h3 h4 hG hZ))
theorem EP_goto {off : Int} {tgt : Nat} (hd : decode M.2.1 pc = .ok (.goto off, 3)) (ht : (pc : Int) + off = (tgt : Int)) (h : EP M tgt lv st σ d bc bs K T) : EP M pc lv st σ d bc bs K T := by
  intro p l e R s m args below meth c9 D tyc adK adV A H locs cells slots ad ls G hC hP hD hS hl hsa h1 h2 h3 h4 hG hZ
  exact lv_goto hC.1 hC.2.1 hd ht (h p l e R s m args below meth c9 D tyc adK adV A H locs cells slots ad ls G hC hP hD hS hl hsa h1 h2 h3 h4 hG hZ)
theorem EP_tabIn {dflt lo hi : Int} {offs : Array Int} {len : Nat} {x : Int32} {off : Int} {tgt : Nat} (hd : decode M.2.1 pc = .ok (.tableswitch dflt lo hi offs, len)) (q1 : ¬ x.toInt < lo) (q2 : ¬ hi < x.toInt) (ho : offs[(x.toInt - lo).toNat]? = some off) (ht : (pc : Int) + off = (tgt : Int)) (h : EP M tgt lv st σ d bc bs K T) : EP M pc lv (.int x :: st) σ d bc bs K T := by
  intro p l e R s m args below meth c9 D tyc adK adV A H locs cells slots ad ls G hC hP hD hS hl hsa h1 h2 h3 h4 hG hZ
  exact lv_tableIn hC.1 hC.2.1 hd q1 q2 ho ht (h p l e R s m args below meth c9 D tyc adK adV A H locs cells slots ad ls G hC hP hD hS hl hsa h1 h2 h3 h4 hG hZ)
theorem EP_tabOut {dflt lo hi : Int} {offs : Array Int} {len : Nat} {x : Int32} {tgt : Nat} (hd : decode M.2.1 pc = .ok (.tableswitch dflt lo hi offs, len)) (q1 : x.toInt < lo ∨ hi < x.toInt) (ht : (pc : Int) + dflt = (tgt : Int)) (h : EP M tgt lv st σ d bc bs K T) : EP M pc lv (.int x :: st) σ d bc bs K T := by
  intro p l e R s m args below meth c9 D tyc adK adV A H locs cells slots ad ls G hC hP hD hS hl hsa h1 h2 h3 h4 hG hZ
  exact lv_tableOut hC.1 hC.2.1 hd q1 ht (h p l e R s m args below meth c9 D tyc adK adV A H locs cells slots ad ls G hC hP hD hS hl hsa h1 h2 h3 h4 hG hZ)
theorem EP_geti {idx ci k c : Nat} (ht : ab_isr (ab_tf ci k) = false) (hL : ab_L M.1.cls idx ci k) {pc2 : Nat} (hp : pc + 3 = pc2) (hd : decode M.2.1 pc = .ok (.getfield idx, 3)) (hc : c < σ.1) (hs : σ.2.1 c = .inl ci) (h : EP M pc2 lv (.int (σ.2.2.1 c k) :: st) σ d bc bs K T) : EP M pc lv (.ref c :: st) σ d bc bs K T := by
  subst hp
  intro p l e R s m args below meth c9 D tyc adK adV A H locs cells slots ad ls G hC hP hD hS hl hsa h1 h2 h3 h4 hG hZ
  obtain ⟨hci, hk, hlink⟩ := hL
  exact va_get (ci := ci) (C := ab_RX ci) (T := ab_TX ci) (N := ab_N ci) hC.1 hC.2.1 hC.2.2.2.2.2.1 (ab_cf ci hci).1 hC.2.2.2.2.1 hC.2.2.2.2.2.2.2.1 hP c (by rw [ab_w_at hc, ab_e_o hs]) (ab_cl_at hci) k hk (hC.2.2.2.2.2.1 _ hlink) (fun _ h9 => h9) (v := .int (σ.2.2.1 c k)) (by rw [ab_fs_at hk]; simp [ab_f, ht]) hd (h p l e R s m args below meth c9 D tyc adK adV A H locs cells slots ad ls G hC hP hD hS hl hsa h1 h2 h3 h4 hG hZ)
theorem EP_getr {idx ci k c : Nat} {r : Nat} (ht : ab_isr (ab_tf ci k) = true) (hr : σ.2.2.2.2.2 c k = some r) (hL : ab_L M.1.cls idx ci k) {pc2 : Nat} (hp : pc + 3 = pc2) (hd : decode M.2.1 pc = .ok (.getfield idx, 3)) (hc : c < σ.1) (hs : σ.2.1 c = .inl ci) (h : EP M pc2 lv (.ref r :: st) σ d bc bs K T) : EP M pc lv (.ref c :: st) σ d bc bs K T := by
  subst hp
  intro p l e R s m args below meth c9 D tyc adK adV A H locs cells slots ad ls G hC hP hD hS hl hsa h1 h2 h3 h4 hG hZ
  obtain ⟨hci, hk, hlink⟩ := hL
  exact va_get (ci := ci) (C := ab_RX ci) (T := ab_TX ci) (N := ab_N ci) hC.1 hC.2.1 hC.2.2.2.2.2.1 (ab_cf ci hci).1 hC.2.2.2.2.1 hC.2.2.2.2.2.2.2.1 hP c (by rw [ab_w_at hc, ab_e_o hs]) (ab_cl_at hci) k hk (hC.2.2.2.2.2.1 _ hlink) (fun _ h9 => h9) (v := .ref (ad r)) (by rw [ab_fs_at hk]; simp [ab_f, ht, hr, va_rf]) hd (h p l e R s m args below meth c9 D tyc adK adV A H locs cells slots ad ls G hC hP hD hS hl hsa h1 h2 h3 h4 hG hZ)
theorem EP_aald6 {c n r : Nat} {i : Int32} {pc2 : Nat} (hp : pc + 1 = pc2) (hd : decode M.2.1 pc = .ok (.aaload, 1)) (hc : c < σ.1) (hs : σ.2.1 c = .inr (6, n)) (hin : vp_in i n) (hr : σ.2.2.2.2.2 c i.toNatClampNeg = some r) (h : EP M pc2 lv (.ref r :: st) σ d bc bs K T) : EP M pc lv (.int i :: .ref c :: st) σ d bc bs K T := by
  subst hp
  intro p l e R s m args below meth c9 D tyc adK adV A H locs cells slots ad ls G hC hP hD hS hl hsa h1 h2 h3 h4 hG hZ
  refine va_aldq (s := s) hC.1 hC.2.1 hC.2.2.2.2.2.2.2.1 hP c 6 (by rw [ab_w_at hc, ab_e_a hs]; rfl) (ab_tys_at (by decide)) hin hd ?_
  have hv : va_rf ((σ.2.2.2.2.2 c i.toNatClampNeg).map ad) = .ref (ad r) := by rw [hr]; rfl
  rw [hv]
  exact (h p l e R s m args below meth c9 D tyc adK adV A H locs cells slots ad ls G hC hP hD hS hl hsa h1 h2 h3 h4 hG hZ)
theorem EP_iret {v : Int32} {ty : FieldType} (hr : M.2.2.2 = some ty) (hn : narrow ty (.int v) = .int v) (hd : decode M.2.1 pc = .ok (.ireturn, 1)) (hk : K (some (.int v)) σ) : EP M pc lv [.int v] σ d bc bs K T := by
  intro p l e R s m args below meth c9 D tyc adK adV A H locs cells slots ad ls G hC hP hD hS hl hsa h1 h2 h3 h4 hG hZ
  refine vx_ret ?_
  refine W.widen (k := R.cells) (n := R.slots) (by omega) (by omega) ?_
  exact W.zret hC.1 hC.2.1 (hC.2.2.1.trans hr) hn (fun t ht hW => ⟨⟨some (.int v), σ, ad, rfl, hk, by rw [ht]; exact hP, hD, hG σ ad (Nat.le_refl _) (fun _ _ => rfl) (fun _ => rfl) hsa⟩, hS.F ht⟩) hS.2.2 hd hC.2.2.2.2.2.2.1
theorem ap_met {l : Launch} {D : va_G} {tyc : Nat → ClassId} {adK adV ad : Nat → Nat} {sz n : Nat} {As : List Value} (hsa : ab_sa adK adV ad) (hM : ab_okM M n) (hlen : (lg_sl As).length ≤ M.2.2.1) (h : EP M 0 (lv_args 0 As) [] σ d bc bs K (fun _ => False)) :
    Met l M.1 (ab_ws M) (ab_rm d bc bs) (va_Pc (As.map (ab_cv ad)) (ab_I D tyc adK adV ad σ sz)) (ab_Q D tyc (va_A (ab_w tyc ad σ) sz) (ab_Gc adK adV σ ad bc) K) bc bs (va_A (ab_w tyc ad σ) sz) := by
  have key : vx_Met l M.1 (ab_ws M) (ab_rm d bc bs) (va_Pc (As.map (ab_cv ad)) (ab_I D tyc adK adV ad σ sz)) (ab_Q D tyc (va_A (ab_w tyc ad σ) sz) (ab_Gc adK adV σ ad bc) K) (ap_X D tyc (va_A (ab_w tyc ad σ) sz) (ab_Gc adK adV σ ad bc) (fun _ => False)) bc bs (va_A (ab_w tyc ad σ) sz) := by
    refine vx_ofW (cc := M.2.1) (maxL := M.2.2.1) (ret := M.2.2.2) hM.1 rfl ?_
    intro p e s m args below meth c s₁ B hml hnt hv
    obtain ⟨rfl, hST, hsz, hP, hK, hD0, hN⟩ := hv
    subst hsz
    have hD := hD0.self (sz := s.heap.size)
    have hl := lv_entry (As.map (ab_cv ad)) (n := M.2.2.1) (by rw [ab_sl_len]; exact hlen)
    rw [lg_entry_eq]
    rw [ab_args_map] at hl
    exact h p l e (headSpec (ab_ws M) (ab_rm d bc bs)).room s m _ below meth c D tyc adK adV (va_A (ab_w tyc ad σ) s.heap.size) s.heap [] 0 0 ad _ (ab_Gc adK adV σ ad bc)
      ⟨B.exec, B.bytes, B.returns, hml, findClass_of_methodNamed B.named, fun w hw => atoms_spec (ws := ab_ws M) B.pre w (List.mem_cons_of_mem _ hw), B.notSynchronized, hK, hN, fun q hq => Or.inr hq, (name_of_methodNamed B.named B.method).1, hST⟩
      hP hD va_S.rf hl hsa (Nat.le_refl _) (Nat.le_refl _) (by show 0 + bc ≤ bc; omega) (by show 0 + bs ≤ bs; omega) (fun σ' ad' q1 q2 q3 q4 => ⟨q4, q1, q2, q3⟩) (Or.inl (fun _ h => h))
  intro p e ha hc hk s m args below hf happ hP hT
  obtain ⟨n, o, h1, h2, h3, h4⟩ := key p e ha hc hk s m args below hf happ hP hT
  refine ⟨n, o, h1, h2, h3, ?_⟩
  rcases h4 with h4 | ⟨q, -, E, ce, L, ⟨-, ⟨_, _, h, -⟩, -⟩, -⟩
  · exact h4
  · exact h.elim
theorem ap_back {p : Program} {l : Launch} {e : Env} {R : Room} {s : State} {m : MethodId} {args : Array Value} {below : List Frame} {meth : Method} {c : Code} {H : Heap} {locs : List Loc} {cells slots : Nat} {Q : State → Prop} {pc : Nat} {ls : Array Slot} {rest st0 : List Value} {a : Array Value} {A0 A1 : Nat → Prop} {H0 : Heap} {mc ms : Nat} {free : Addr → Prop} {D : va_G} {tyc : Nat → ClassId} {G : ab_St → (Nat → Nat) → Prop} {K : Option Value → ab_St → Prop}
    (hr : va_Run p l e R s m args below meth c H locs cells slots mc ms (F0 m pc ls st0) rest (ab_Q D tyc A1 G K a) free) (hS : va_S A0 H0 H locs) (hA : ∀ q, q < H.size → A1 q → A0 q) (hf : ∀ q, free q → A0 q)
    (kk : ∀ (r : Option Value) (σ' : ab_St) (ad' : Nat → Nat) (H1 : Heap) (locs1 : List Loc), K r σ' → va_P D ab_cl (ab_w tyc ad' σ') H1 → va_D A1 (ab_w tyc ad' σ') → G σ' ad' → va_S A0 H0 H1 locs1 → W p l e R s m args below meth c H1 locs1 (cells + mc) (slots + ms) Q (F0 m (pc + 3) ls ((r.map (ab_cv ad')).toList ++ rest))) : W p l e R s m args below meth c H locs cells slots Q (F0 m pc ls st0) := by
  intro T hT X
  obtain ⟨v, st₀, t, T', L, h0, X', hL, e1, e2, ⟨⟨r, σ', ad', hv, hk, hP1, hD1, hG1⟩, hz, hq⟩, st⟩ := hr T hT X
  cases hv
  rw [h0] at hz hq
  obtain ⟨t2, a1, b1⟩ := kk r σ' ad' T'.heap (locs ++ L) hk (by rw [e1]; exact hP1) hD1 hG1
    ⟨Nat.le_trans hS.1 (by rw [e1]; exact hz), fun q h1 h2 => by rw [e1, hq q (Nat.lt_of_lt_of_le h1 hS.1) (fun z => h2 (hA q (Nat.lt_of_lt_of_le h1 hS.1) z))]; exact hS.2.1 q h1 h2, fun q hq => by
      rcases List.mem_append.mp hq with h | h
      · exact hS.2.2 q h
      · exact hf _ (hL q h)⟩ T' rfl X'
  exact ⟨t2, st t2 a1, b1⟩
theorem EP_invS {idx n : Nat} {M' : ab_M} {As rest : List Value} (hlink : Cond.methodLink M.1.cls idx M'.1 ∈ ab_G) (hstat : Cond.static M'.1 ∈ ab_G) {d' bc1 bs1 bc2 bs2 pc2 : Nat} (hp : pc + 3 = pc2) (hM : ab_okM M' n) (hd : decode M.2.1 pc = .ok (.invokestatic idx, 3)) (hst : st = As.reverse ++ rest) (hn : As.length = n) (hlen : (lg_sl (As)).length ≤ M'.2.2.1) (hrm : (rest.map fun v => v.category).sum ≤ 8) (hdd : d' + 1 ≤ d) (hbc : bc1 + bc2 = bc) (hbs : bs1 + bs2 = bs) (hlv : bc1 = 0 ∨ (ab_refs σ.1 rest ∧ ab_refs σ.1 (lv.map (·.2))))
    (h : EP M' 0 (lv_args 0 (As)) [] σ d' bc1 bs1 (fun r σ' => EP M pc2 lv (r.toList ++ rest) σ' d bc2 bs2 K T) (fun _ => False)) : EP M pc lv st σ d bc bs K T := by
  intro p l e R s m args below meth c9 D tyc adK adV A H locs cells slots ad ls G hC hP hD hS hl hsa h1 h2 h3 h4 hG hZ
  subst hst
  subst hp
  have hmet := ap_met (l := l) (D := D) (tyc := tyc) (adK := adK) (adV := adV) (ad := ad) (sz := H.size) hsa hM hlen h
  have hFr : ∀ q, va_A (ab_w tyc ad σ) H.size q → A q := fun q hq => by
    rcases hq with ⟨k, x, hk⟩ | hq
    · exact hD.2 k (q, x) hk
    · exact hC.2.2.2.2.2.2.2.2.2.1 q (Nat.le_trans hS.1 hq)
  have hrm2 : ((rest.map (ab_cv ad)).map fun v => v.category).sum ≤ 8 := by
    rw [List.map_map]
    have : ((fun v => v.category) ∘ ab_cv ad) = fun v : Value => v.category := funext fun v => ab_cv_cat ad v
    rw [this]; exact hrm
  refine ap_back (va_runS (s := s) (As := As.map (ab_cv ad)) (rest := rest.map (ab_cv ad)) (Ts := ab_G) ⟨hC.1, hC.2.1, hC.2.2.2.1, hC.2.2.2.2.1, hC.2.2.2.2.2.1⟩ hmet ⟨(callB_of n hC.2.2.2.2.2.1 (ab_Gin M' hM.2.2.1) rfl rfl rfl (hC.2.2.2.2.2.1 _ hM.2.2.2.1) (hC.2.2.2.2.2.1 _ hlink) ⟨hM.2.1.1, hM.2.1.2, hM.2.2.2.2.1⟩ ⟨by show d' + 1 ≤ R.frames; omega, by show 8 + (M'.2.2.1 + 11) + 45 * d' ≤ R.locals; have := hM.2.2.2.2.2; omega⟩), hC.2.2.2.2.2.1 _ hstat⟩ ⟨ab_I_blind, (fun U hU hW => ⟨rfl, ab_ST.pass (s := s) (A := A) hW (by rw [hU]; exact hS) hFr (hC.2.2.2.2.2.2.2.2.2.2.2.same rfl rfl), by rw [hU], by rw [hU]; exact hP, va_K.moved hW.alike hC.2.2.2.2.2.2.2.1, hD.weaken (fun _ _ _ _ => trivial), ab_NW.moved hW hC.2.2.2.2.2.2.2.2.1⟩)⟩ rfl (by rw [List.length_map]; exact hn) hl.1 (by simp [ab_cv]) (lv_room hrm2) hd ⟨by omega, by omega⟩) hS (fun q _ hq => hFr q hq) hFr (fun r σ' ad' H1 locs1 hk hP1 hD1 hG1 hS1 => ?_)
  obtain ⟨g0, g1, g2, g3⟩ := hG1
  have hrest : rest.map (ab_cv ad') = rest.map (ab_cv ad) := by
    rcases hlv with q | q
    · rw [g3 q]
    · exact ab_refs_map q.1 g2
  have hlvs : lv.map (fun q => (q.1, ab_cv ad' q.2)) = lv.map (fun q => (q.1, ab_cv ad q.2)) := by
    rcases hlv with q | q
    · rw [g3 q]
    · exact ab_refs_lv q.2 g2
  have hstk : (r.map (ab_cv ad')).toList ++ rest.map (ab_cv ad) = (r.toList ++ rest).map (ab_cv ad') := by
    rw [List.map_append, hrest]
    cases r <;> rfl
  rw [hstk]
  exact hk p l e R s m args below meth c9 D tyc adK adV A H1 locs1 (cells + bc1) (slots + bs1) ad' ls G hC hP1 (hD1.weaken (fun _ q _ hq => hFr q.1 hq)) hS1 (by rw [hlvs]; exact hl) g0 h1 h2 (by omega) (by omega)
    (fun σ2 ad2 q1 q2 q3 q4 => hG σ2 ad2 (Nat.le_trans g1 q1) (fun q hq => (q2 q (Nat.lt_of_lt_of_le hq g1)).trans (g2 q hq)) (fun hb => (q3 (by omega)).trans (g3 (by omega))) q4) (hZ.imp id (fun z => ⟨z.1, z.2.1, by have := z.2.2.1; omega, by have := z.2.2.2; omega⟩))
theorem EP_invV {idx n : Nat} {M' : ab_M} {As rest : List Value} {b ci : Nat} (hlink : Cond.methodLink M.1.cls idx M'.1 ∈ ab_G) (hinst : Cond.instanceMethod M'.1 ∈ ab_G) (hsel : Cond.selects M'.1.cls M'.1 M'.1 ∈ ab_G) (hc : b < σ.1) (hs : σ.2.1 b = .inl ci) (hci : ci ≤ 12) (hcl : ab_RX ci = M'.1.cls) {d' bc1 bs1 bc2 bs2 pc2 : Nat} (hp : pc + 3 = pc2) (hM : ab_okM M' n) (hd : decode M.2.1 pc = .ok (.invokevirtual idx, 3)) (hst : st = As.reverse ++ .ref b :: rest) (hn : As.length = n) (hlen : (lg_sl (.ref b :: As)).length ≤ M'.2.2.1) (hrm : (rest.map fun v => v.category).sum ≤ 8) (hdd : d' + 1 ≤ d) (hbc : bc1 + bc2 = bc) (hbs : bs1 + bs2 = bs) (hlv : bc1 = 0 ∨ (ab_refs σ.1 rest ∧ ab_refs σ.1 (lv.map (·.2))))
    (h : EP M' 0 (lv_args 0 (.ref b :: As)) [] σ d' bc1 bs1 (fun r σ' => EP M pc2 lv (r.toList ++ rest) σ' d bc2 bs2 K T) (fun _ => False)) : EP M pc lv st σ d bc bs K T := by
  intro p l e R s m args below meth c9 D tyc adK adV A H locs cells slots ad ls G hC hP hD hS hl hsa h1 h2 h3 h4 hG hZ
  subst hst
  subst hp
  have hmet := ap_met (l := l) (D := D) (tyc := tyc) (adK := adK) (adV := adV) (ad := ad) (sz := H.size) hsa hM hlen h
  have hFr : ∀ q, va_A (ab_w tyc ad σ) H.size q → A q := fun q hq => by
    rcases hq with ⟨k, x, hk⟩ | hq
    · exact hD.2 k (q, x) hk
    · exact hC.2.2.2.2.2.2.2.2.2.1 q (Nat.le_trans hS.1 hq)
  have hrm2 : ((rest.map (ab_cv ad)).map fun v => v.category).sum ≤ 8 := by
    rw [List.map_map]
    have : ((fun v => v.category) ∘ ab_cv ad) = fun v : Value => v.category := funext fun v => ab_cv_cat ad v
    rw [this]; exact hrm
  refine ap_back (va_runV (C := M'.1.cls) (b := ad b) (s := s) (As := As.map (ab_cv ad)) (rest := rest.map (ab_cv ad)) (Ts := ab_G) ⟨hC.1, hC.2.1, hC.2.2.2.1, hC.2.2.2.2.1, hC.2.2.2.2.2.1⟩ hmet ⟨(callB_of n hC.2.2.2.2.2.1 (ab_Gin M' hM.2.2.1) rfl rfl rfl (hC.2.2.2.2.2.1 _ hM.2.2.2.1) (hC.2.2.2.2.2.1 _ hlink) ⟨hM.2.1.1, hM.2.1.2, hM.2.2.2.2.1⟩ ⟨by show d' + 1 ≤ R.frames; omega, by show 8 + (M'.2.2.1 + 11) + 45 * d' ≤ R.locals; have := hM.2.2.2.2.2; omega⟩), hC.2.2.2.2.2.1 _ hinst, hC.2.2.2.2.2.1 _ hsel⟩ ⟨ab_I_blind, by rw [← hcl]; exact va_recv (s := s) hC.2.2.2.2.2.2.2.1 hP (ab_cl_at hci) (by rw [ab_w_at hc, ab_e_o hs]), (fun U hU hW => ⟨rfl, ab_ST.pass (s := s) (A := A) hW (by rw [hU]; exact hS) hFr (hC.2.2.2.2.2.2.2.2.2.2.2.same rfl rfl), by rw [hU], by rw [hU]; exact hP, va_K.moved hW.alike hC.2.2.2.2.2.2.2.1, hD.weaken (fun _ _ _ _ => trivial), ab_NW.moved hW hC.2.2.2.2.2.2.2.2.1⟩)⟩ rfl (by rw [List.length_map]; exact hn) hl.1 (by simp [ab_cv]) (lv_room hrm2) hd ⟨by omega, by omega⟩) hS (fun q _ hq => hFr q hq) hFr (fun r σ' ad' H1 locs1 hk hP1 hD1 hG1 hS1 => ?_)
  obtain ⟨g0, g1, g2, g3⟩ := hG1
  have hrest : rest.map (ab_cv ad') = rest.map (ab_cv ad) := by
    rcases hlv with q | q
    · rw [g3 q]
    · exact ab_refs_map q.1 g2
  have hlvs : lv.map (fun q => (q.1, ab_cv ad' q.2)) = lv.map (fun q => (q.1, ab_cv ad q.2)) := by
    rcases hlv with q | q
    · rw [g3 q]
    · exact ab_refs_lv q.2 g2
  have hstk : (r.map (ab_cv ad')).toList ++ rest.map (ab_cv ad) = (r.toList ++ rest).map (ab_cv ad') := by
    rw [List.map_append, hrest]
    cases r <;> rfl
  rw [hstk]
  exact hk p l e R s m args below meth c9 D tyc adK adV A H1 locs1 (cells + bc1) (slots + bs1) ad' ls G hC hP1 (hD1.weaken (fun _ q _ hq => hFr q.1 hq)) hS1 (by rw [hlvs]; exact hl) g0 h1 h2 (by omega) (by omega)
    (fun σ2 ad2 q1 q2 q3 q4 => hG σ2 ad2 (Nat.le_trans g1 q1) (fun q hq => (q2 q (Nat.lt_of_lt_of_le hq g1)).trans (g2 q hq)) (fun hb => (q3 (by omega)).trans (g3 (by omega))) q4) (hZ.imp id (fun z => ⟨z.1, z.2.1, by have := z.2.2.1; omega, by have := z.2.2.2; omega⟩))
theorem EP_invSN {idx n : Nat} {M' : ab_M} {As rest : List Value} {host : String} (hlink : Cond.methodLinkNest M.1.cls idx M'.1 host ∈ tables_1.filter ab_isN) (hstat : Cond.static M'.1 ∈ ab_G) {d' bc1 bs1 bc2 bs2 pc2 : Nat} (hp : pc + 3 = pc2) (hM : ab_okM M' n) (hd : decode M.2.1 pc = .ok (.invokestatic idx, 3)) (hst : st = As.reverse ++ rest) (hn : As.length = n) (hlen : (lg_sl (As)).length ≤ M'.2.2.1) (hrm : (rest.map fun v => v.category).sum ≤ 8) (hdd : d' + 1 ≤ d) (hbc : bc1 + bc2 = bc) (hbs : bs1 + bs2 = bs) (hlv : bc1 = 0 ∨ (ab_refs σ.1 rest ∧ ab_refs σ.1 (lv.map (·.2))))
    (h : EP M' 0 (lv_args 0 (As)) [] σ d' bc1 bs1 (fun r σ' => EP M pc2 lv (r.toList ++ rest) σ' d bc2 bs2 K T) (fun _ => False)) : EP M pc lv st σ d bc bs K T := by
  intro p l e R s m args below meth c9 D tyc adK adV A H locs cells slots ad ls G hC hP hD hS hl hsa h1 h2 h3 h4 hG hZ
  subst hst
  subst hp
  have hmet := ap_met (l := l) (D := D) (tyc := tyc) (adK := adK) (adV := adV) (ad := ad) (sz := H.size) hsa hM hlen h
  have hFr : ∀ q, va_A (ab_w tyc ad σ) H.size q → A q := fun q hq => by
    rcases hq with ⟨k, x, hk⟩ | hq
    · exact hD.2 k (q, x) hk
    · exact hC.2.2.2.2.2.2.2.2.2.1 q (Nat.le_trans hS.1 hq)
  have hrm2 : ((rest.map (ab_cv ad)).map fun v => v.category).sum ≤ 8 := by
    rw [List.map_map]
    have : ((fun v => v.category) ∘ ab_cv ad) = fun v : Value => v.category := funext fun v => ab_cv_cat ad v
    rw [this]; exact hrm
  refine ap_back (va_runSN (s := s) (As := As.map (ab_cv ad)) (rest := rest.map (ab_cv ad)) (Ts := ab_G) ⟨hC.1, hC.2.1, hC.2.2.2.1, hC.2.2.2.2.1, hC.2.2.2.2.2.1⟩ hmet ⟨(va_cnB n hC.2.2.2.2.2.1 (ab_Gin M' hM.2.2.1) rfl rfl rfl (hC.2.2.2.2.2.2.2.2.1 _ hlink) (hC.2.2.2.2.2.1 _ hM.2.2.2.1) ⟨hM.2.1.1, hM.2.1.2, hM.2.2.2.2.1⟩ ⟨by show d' + 1 ≤ R.frames; omega, by show 8 + (M'.2.2.1 + 11) + 45 * d' ≤ R.locals; have := hM.2.2.2.2.2; omega⟩), hC.2.2.2.2.2.1 _ hstat, trivial⟩ ⟨ab_I_blind, (fun U hU hW => ⟨rfl, ab_ST.pass (s := s) (A := A) hW (by rw [hU]; exact hS) hFr (hC.2.2.2.2.2.2.2.2.2.2.2.same rfl rfl), by rw [hU], by rw [hU]; exact hP, va_K.moved hW.alike hC.2.2.2.2.2.2.2.1, hD.weaken (fun _ _ _ _ => trivial), ab_NW.moved hW hC.2.2.2.2.2.2.2.2.1⟩)⟩ rfl (by rw [List.length_map]; exact hn) hl.1 (by simp [ab_cv]) (lv_room hrm2) hd ⟨by omega, by omega⟩) hS (fun q _ hq => hFr q hq) hFr (fun r σ' ad' H1 locs1 hk hP1 hD1 hG1 hS1 => ?_)
  obtain ⟨g0, g1, g2, g3⟩ := hG1
  have hrest : rest.map (ab_cv ad') = rest.map (ab_cv ad) := by
    rcases hlv with q | q
    · rw [g3 q]
    · exact ab_refs_map q.1 g2
  have hlvs : lv.map (fun q => (q.1, ab_cv ad' q.2)) = lv.map (fun q => (q.1, ab_cv ad q.2)) := by
    rcases hlv with q | q
    · rw [g3 q]
    · exact ab_refs_lv q.2 g2
  have hstk : (r.map (ab_cv ad')).toList ++ rest.map (ab_cv ad) = (r.toList ++ rest).map (ab_cv ad') := by
    rw [List.map_append, hrest]
    cases r <;> rfl
  rw [hstk]
  exact hk p l e R s m args below meth c9 D tyc adK adV A H1 locs1 (cells + bc1) (slots + bs1) ad' ls G hC hP1 (hD1.weaken (fun _ q _ hq => hFr q.1 hq)) hS1 (by rw [hlvs]; exact hl) g0 h1 h2 (by omega) (by omega)
    (fun σ2 ad2 q1 q2 q3 q4 => hG σ2 ad2 (Nat.le_trans g1 q1) (fun q hq => (q2 q (Nat.lt_of_lt_of_le hq g1)).trans (g2 q hq)) (fun hb => (q3 (by omega)).trans (g3 (by omega))) q4) (hZ.imp id (fun z => ⟨z.1, z.2.1, by have := z.2.2.1; omega, by have := z.2.2.2; omega⟩))
end EPR
section EPA
variable {M : ab_M} {pc : Nat} {lv : List (Nat × Value)} {st : List Value} {x : ab_X} {d bc bs : Nat} {K : Option Value → ab_St → Prop} {T : ab_St → Prop}
theorem AP_geti {idx ci k c : Nat} (hL : ab_L M.1.cls idx ci k ∧ ab_isr (ab_tf ci k) = false) {pc2 : Nat} (hp : pc + 3 = pc2) (hd : decode M.2.1 pc = .ok (.getfield idx, 3)) (hc : c < 338 ∧ SH c = .inl ci) (h : EP M pc2 lv (.int (x.1 c k) :: st) (aS x) d bc bs K T) : EP M pc lv (.ref c :: st) (aS x) d bc bs K T := EP_geti hL.2 hL.1 hp hd hc.1 hc.2 h
theorem AP_getr {idx ci k c r : Nat} (hL : ab_L M.1.cls idx ci k ∧ ab_isr (ab_tf ci k) = true) {pc2 : Nat} (hp : pc + 3 = pc2) (hd : decode M.2.1 pc = .ok (.getfield idx, 3)) (hc : c < 338 ∧ SH c = .inl ci) (hr : RF x.2.2.2.1 x.2.2.2.2.1 x.2.2.2.2.2 c k = some r) (h : EP M pc2 lv (.ref r :: st) (aS x) d bc bs K T) : EP M pc lv (.ref c :: st) (aS x) d bc bs K T := EP_getr hL.2 hr hL.1 hp hd hc.1 hc.2 h
theorem AP_aald6 {i : Int32} {pc2 : Nat} (hp : pc + 1 = pc2) (hd : decode M.2.1 pc = .ok (.aaload, 1)) (hin : vp_in i 16) (h : EP M pc2 lv (.ref (82 + i.toNatClampNeg) :: st) (aS x) d bc bs K T) : EP M pc lv (.int i :: .ref 67 :: st) (aS x) d bc bs K T := EP_aald6 hp hd q67.1 q67.2 hin (by show RF x.2.2.2.1 x.2.2.2.2.1 x.2.2.2.2.2 67 _ = _; simp [RF, cl_lt hin]) h
theorem AP_zret {v : Int32} (hr : M.2.2.2 = some .boolean) (hv : isB v) (hd : decode M.2.1 pc = .ok (.ireturn, 1)) (hk : K (some (.int v)) (aS x)) : EP M pc lv [.int v] (aS x) d bc bs K T := EP_iret hr hv.n hd hk
theorem AP_iret {v : Int32} (hr : M.2.2.2 = some .int) (hd : decode M.2.1 pc = .ok (.ireturn, 1)) (hk : K (some (.int v)) (aS x)) : EP M pc lv [.int v] (aS x) d bc bs K T := EP_iret hr rfl hd hk
theorem AP_invS {idx n : Nat} {M' : ab_M} {rest : List Value} (As : List Value) {d' : Nat} (hl : Cond.methodLink M.1.cls idx M'.1 ∈ ab_G ∧ Cond.static M'.1 ∈ ab_G) (hM : ab_okM M' n) {pc2 : Nat} (hp : pc + 3 = pc2) (hd : decode M.2.1 pc = .ok (.invokestatic idx, 3)) (hst : st = As.reverse ++ rest) (hn : As.length = n) (hlen : (lg_sl As).length ≤ M'.2.2.1) (hrm : (rest.map fun v => v.category).sum ≤ 8) (hdd : d' + 1 ≤ d)
    (h : EP M' 0 (lv_args 0 As) [] (aS x) d' 0 0 (fun r σ' => EP M pc2 lv (r.toList ++ rest) σ' d bc bs K T) (fun _ => False)) : EP M pc lv st (aS x) d bc bs K T := EP_invS hl.1 hl.2 hp hM hd hst hn hlen hrm hdd (Nat.zero_add _) (Nat.zero_add _) (Or.inl rfl) h
theorem AP_invSN {idx n : Nat} {M' : ab_M} {rest : List Value} (As : List Value) {d' : Nat} {host : String} (hl : Cond.methodLinkNest M.1.cls idx M'.1 host ∈ tables_1.filter ab_isN ∧ Cond.static M'.1 ∈ ab_G) (hM : ab_okM M' n) {pc2 : Nat} (hp : pc + 3 = pc2) (hd : decode M.2.1 pc = .ok (.invokestatic idx, 3)) (hst : st = As.reverse ++ rest) (hn : As.length = n) (hlen : (lg_sl As).length ≤ M'.2.2.1) (hrm : (rest.map fun v => v.category).sum ≤ 8) (hdd : d' + 1 ≤ d)
    (h : EP M' 0 (lv_args 0 As) [] (aS x) d' 0 0 (fun r σ' => EP M pc2 lv (r.toList ++ rest) σ' d bc bs K T) (fun _ => False)) : EP M pc lv st (aS x) d bc bs K T := EP_invSN hl.1 hl.2 hp hM hd hst hn hlen hrm hdd (Nat.zero_add _) (Nat.zero_add _) (Or.inl rfl) h
theorem AP_invV {idx n b ci : Nat} {M' : ab_M} {rest : List Value} (As : List Value) {d' : Nat} (hl : Cond.methodLink M.1.cls idx M'.1 ∈ ab_G ∧ Cond.instanceMethod M'.1 ∈ ab_G ∧ Cond.selects M'.1.cls M'.1 M'.1 ∈ ab_G) (hM : ab_okM M' n) {pc2 : Nat} (hp : pc + 3 = pc2) (hd : decode M.2.1 pc = .ok (.invokevirtual idx, 3)) (hst : st = As.reverse ++ .ref b :: rest) (hn : As.length = n) (hlen : (lg_sl (.ref b :: As)).length ≤ M'.2.2.1) (hrm : (rest.map fun v => v.category).sum ≤ 8) (hdd : d' + 1 ≤ d) (hc : b < 338 ∧ SH b = .inl ci) (hcl : ci ≤ 12 ∧ ab_RX ci = M'.1.cls)
    (h : EP M' 0 (lv_args 0 (.ref b :: As)) [] (aS x) d' 0 0 (fun r σ' => EP M pc2 lv (r.toList ++ rest) σ' d bc bs K T) (fun _ => False)) : EP M pc lv st (aS x) d bc bs K T := EP_invV hl.1 hl.2.1 hl.2.2 hc.1 hc.2 hcl.1 hcl.2 hp hM hd hst hn hlen hrm hdd (Nat.zero_add _) (Nat.zero_add _) (Or.inl rfl) h
end EPA
theorem eX11_below (v0 : Int32) (v1 : Int32)  (x : ab_X) (K : Int32 → Prop) (d bc bs : Nat) (hdp : 0 ≤ d) (h : wX11_below v0 v1 x K) : EP MX11_below 0 [(0, .int v0), (1, .int v1)] [] (aS x) d bc bs (liP x K) (fun _ => False) := by
  unfold wX11_below at h
  refine EP_iload_n (pc2 := 1) rfl dX11_below_0 0 rfl ?_
  refine EP_if_lt (tgt := 13) (pc2 := 4) rfl dX11_below_1 (by decide) (fun q => ?_) (fun q => ?_)
  · replace h := h.1 q
    refine EP_iconst (pc2 := 14) (v := 0) rfl dX11_below_13 (by decide) ?_
    exact AP_zret rfl isB0 dX11_below_14 ⟨_, rfl, rfl, h⟩
  · replace h := h.2 q
    refine EP_iload_n (pc2 := 5) rfl dX11_below_4 0 rfl ?_
    refine EP_iload_n (pc2 := 6) rfl dX11_below_5 1 rfl ?_
    refine EP_icmp_ge (tgt := 13) (pc2 := 9) rfl dX11_below_6 (by decide) (fun q => ?_) (fun q => ?_)
    · replace h := h.1 q
      refine EP_iconst (pc2 := 14) (v := 0) rfl dX11_below_13 (by decide) ?_
      exact AP_zret rfl isB0 dX11_below_14 ⟨_, rfl, rfl, h⟩
    · replace h := h.2 q
      refine EP_iconst (pc2 := 10) (v := 1) rfl dX11_below_9 (by decide) ?_
      refine EP_goto (tgt := 14) dX11_below_10 (by decide) ?_
      exact AP_zret rfl isB1 dX11_below_14 ⟨_, rfl, rfl, h⟩
theorem eX11_within (v0 : Int32) (v1 : Int32) (v2 : Int32)  (x : ab_X) (K : Int32 → Prop) (d bc bs : Nat) (hdp : 0 ≤ d) (h : wX11_within v0 v1 v2 x K) : EP MX11_within 0 [(0, .int v0), (1, .int v1), (2, .int v2)] [] (aS x) d bc bs (liP x K) (fun _ => False) := by
  unfold wX11_within at h
  refine EP_iload_n (pc2 := 1) rfl dX11_within_0 0 rfl ?_
  refine EP_iload_n (pc2 := 2) rfl dX11_within_1 1 rfl ?_
  refine EP_icmp_lt (tgt := 14) (pc2 := 5) rfl dX11_within_2 (by decide) (fun q => ?_) (fun q => ?_)
  · replace h := h.1 q
    refine EP_iconst (pc2 := 15) (v := 0) rfl dX11_within_14 (by decide) ?_
    exact AP_zret rfl isB0 dX11_within_15 ⟨_, rfl, rfl, h⟩
  · replace h := h.2 q
    refine EP_iload_n (pc2 := 6) rfl dX11_within_5 0 rfl ?_
    refine EP_iload_n (pc2 := 7) rfl dX11_within_6 2 rfl ?_
    refine EP_icmp_gt (tgt := 14) (pc2 := 10) rfl dX11_within_7 (by decide) (fun q => ?_) (fun q => ?_)
    · replace h := h.1 q
      refine EP_iconst (pc2 := 15) (v := 0) rfl dX11_within_14 (by decide) ?_
      exact AP_zret rfl isB0 dX11_within_15 ⟨_, rfl, rfl, h⟩
    · replace h := h.2 q
      refine EP_iconst (pc2 := 11) (v := 1) rfl dX11_within_10 (by decide) ?_
      refine EP_goto (tgt := 15) dX11_within_11 (by decide) ?_
      exact AP_zret rfl isB1 dX11_within_15 ⟨_, rfl, rfl, h⟩
theorem eX2_slow (v0 : Nat) (hv0 : isW v0) (x : ab_X) (K : Int32 → Prop) (d bc bs : Nat) (hdp : 0 ≤ d) (h : wX2_slow v0 x K) : EP MX2_slow 0 [(0, .ref v0)] [] (aS x) d bc bs (liP x K) (fun _ => False) := by
  unfold wX2_slow at h
  refine EP_aload_n (pc2 := 1) rfl dX2_slow_0 0 rfl ?_
  refine AP_geti ⟨gfRX2_33, rfl⟩ (pc2 := 4) rfl dX2_slow_1 (isW.o hv0) ?_
  refine EP_if_eq (tgt := 21) (pc2 := 7) rfl dX2_slow_4 (by decide) (fun q => ?_) (fun q => ?_)
  · replace h := h.1 q
    refine EP_aload_n (pc2 := 22) rfl dX2_slow_21 0 rfl ?_
    refine AP_geti ⟨gfRX2_37, rfl⟩ (pc2 := 25) rfl dX2_slow_22 (isW.o hv0) ?_
    exact AP_iret rfl dX2_slow_25 ⟨_, rfl, rfl, h⟩
  · replace h := h.2 q
    refine EP_aload_n (pc2 := 8) rfl dX2_slow_7 0 rfl ?_
    refine AP_geti ⟨gfRX2_37, rfl⟩ (pc2 := 11) rfl dX2_slow_8 (isW.o hv0) ?_
    refine EP_aload_n (pc2 := 12) rfl dX2_slow_11 0 rfl ?_
    refine AP_geti ⟨gfRX2_40, rfl⟩ (pc2 := 15) rfl dX2_slow_12 (isW.o hv0) ?_
    refine EP_iconst (pc2 := 16) (v := 3) rfl dX2_slow_15 (by decide) ?_
    refine EP_idiv (pc2 := 17) rfl dX2_slow_16 (by decide) ?_
    refine EP_iadd (pc2 := 18) rfl dX2_slow_17 ?_
    refine EP_goto (tgt := 25) dX2_slow_18 (by decide) ?_
    exact AP_iret rfl dX2_slow_25 ⟨_, rfl, rfl, h⟩
theorem eX0_has (v1 : Int32)  (x : ab_X) (K : Int32 → Prop) (d bc bs : Nat) (hdp : 1 ≤ d) (h : wX0_has v1 x K) : EP MX0_has 0 [(0, .ref 66), (1, .int v1)] [] (aS x) d bc bs (liP x K) (fun _ => False) := by
  unfold wX0_has at h
  refine EP_iload_n (pc2 := 1) rfl dX0_has_0 1 rfl ?_
  refine EP_aload_n (pc2 := 2) rfl dX0_has_1 0 rfl ?_
  refine AP_geti ⟨gfRX0_55, rfl⟩ (pc2 := 5) rfl dX0_has_2 q66 ?_
  refine AP_invSN (M' := MX11_below) [.int v1, .int (x.1 66 3)] (rest := []) mlRX0_59 okX11_below (pc2 := 8) rfl dX0_has_5 rfl rfl (Nat.le_of_ble_eq_true rfl) (Nat.le_of_ble_eq_true rfl) (d' := 0) (by omega) (EP_mono (fun _ _ hr => ?_) (eX11_below v1 (x.1 66 3)  x _ _ 0 0 (Nat.le_refl _) h))
  obtain ⟨r1, rfl, rfl, h⟩ := hr
  obtain ⟨z2, h⟩ := h
  exact AP_zret rfl z2 dX0_has_8 ⟨_, rfl, rfl, h⟩
