section EWC
variable {M : ab_M} {pc : Nat} {lv : List (Nat × Value)} {st : List Value} {σ : ab_St} {d bc bs : Nat} {K : Option Value → ab_St → Prop}
theorem ab_NW.drawn {U : State} {d : Drawn} (h : ab_NW U) : ab_NW (U.setDrawn d) := by
  intro w hw
  have h1 := h w hw
  obtain ⟨-, h2⟩ := List.mem_filter.mp hw
  cases w <;> first | exact va_Nw.same rfl rfl h1 | (simp [ab_isN] at h2; done)
def ab_I (D : va_G) (tyc : Nat → ClassId) (adK adV ad : Nat → Nat) (σ : ab_St) (sz : Nat) (U : State) : Prop := ab_ST adK adV (va_A (ab_w tyc ad σ) sz) U ∧ U.heap.size = sz ∧ va_P D ab_cl (ab_w tyc ad σ) U.heap ∧ va_K D ab_cl (ab_tys tyc) U ∧ va_D (fun _ => True) (ab_w tyc ad σ) ∧ ab_NW U
def ab_Gc (adK adV : Nat → Nat) (σ : ab_St) (ad : Nat → Nat) (bc : Nat) : ab_St → (Nat → Nat) → Prop := fun σ' ad' => ab_sa adK adV ad' ∧ σ.1 ≤ σ'.1 ∧ (∀ q, q < σ.1 → ad' q = ad q) ∧ (bc = 0 → ad' = ad)
/-- what is known of a method that is called: n parameters -/
def ab_okM (M : ab_M) (n : Nat) : Prop := plainName M.1.cls = true ∧ (M.1.cls ≠ "java/lang/invoke/MethodHandle" ∧ M.1.cls ≠ "java/lang/invoke/VarHandle") ∧ Cond.code M.1 M.2.1 M.2.2.1 M.2.2.2 ∈ ab_G ∧ Cond.initialized M.1.cls ∈ ab_G ∧ (parseMethodDescriptor M.1.desc).map (fun d => d.parameters.length) = some n ∧ M.2.2.1 ≤ 26
theorem ab_args_map (ad : Nat → Nat) : ∀ (As : List Value) (i : Nat), lv_args i (As.map (ab_cv ad)) = (lv_args i As).map (fun q => (q.1, ab_cv ad q.2))
  | [], _ => rfl
  | v :: vs, i => by
    show (i, ab_cv ad v) :: lv_args (if (ab_cv ad v).category = 2 then i + 2 else i + 1) (vs.map (ab_cv ad)) = _
    rw [ab_args_map ad vs, ab_cv_cat]
    rfl
theorem ab_sl_len (ad : Nat → Nat) (As : List Value) : (lg_sl (As.map (ab_cv ad))).length = (lg_sl As).length := by
  induction As with
  | nil => rfl
  | cons v vs ih =>
    simp only [lg_sl, List.map_cons, List.flatMap_cons, List.length_append] at ih ⊢
    rw [ih, ab_cv_cat]
    by_cases h : v.category = 2 <;> simp [h]
theorem ab_met {l : Launch} {D : va_G} {tyc : Nat → ClassId} {adK adV ad : Nat → Nat} {sz n : Nat} {As : List Value} (hsa : ab_sa adK adV ad) (hM : ab_okM M n) (hlen : (lg_sl As).length ≤ M.2.2.1) (h : EW M 0 (lv_args 0 As) [] σ d bc bs K) :
    MetD lw_cs l M.1 (ab_ws M) (ab_rm d bc bs) (va_Pc (As.map (ab_cv ad)) (ab_I D tyc adK adV ad σ sz)) (ab_Q D tyc (va_A (ab_w tyc ad σ) sz) (ab_Gc adK adV σ ad bc) K) bc bs (va_A (ab_w tyc ad σ) sz) := by
  refine MetD.ofW (cc := M.2.1) (maxL := M.2.2.1) (ret := M.2.2.2) hM.1 rfl ?_
  intro p e s m args below meth c s₁ B hml hv hd0
  obtain ⟨rfl, hST, hsz, hP, hK, hD0, hN⟩ := hv
  subst hsz
  have hD := hD0.self (sz := s.heap.size)
  have hl := lv_entry (As.map (ab_cv ad)) (n := M.2.2.1) (by rw [ab_sl_len]; exact hlen)
  rw [lg_entry_eq]
  rw [ab_args_map] at hl
  exact h p l e (headSpec (ab_ws M) (ab_rm d bc bs)).room s m _ below meth c D tyc adK adV (va_A (ab_w tyc ad σ) s.heap.size) s.heap [] 0 0 ad s.drawn _ (ab_Gc adK adV σ ad bc)
    ⟨B.exec, B.bytes, B.returns, hml, findClass_of_methodNamed B.named, fun w hw => atoms_spec (ws := ab_ws M) B.pre w (List.mem_cons_of_mem _ hw), B.notSynchronized, hK, hN, fun q hq => Or.inr hq, (name_of_methodNamed B.named B.method).1, hST⟩
    hP hD va_S.rf hl hsa hd0 (Nat.le_refl _) (Nat.le_refl _) (by show 0 + bc ≤ bc; omega) (by show 0 + bs ≤ bs; omega) (fun σ' ad' q1 q2 q3 q4 => ⟨q4, q1, q2, q3⟩)
theorem ab_Gin (M : ab_M) (hc : Cond.code M.1 M.2.1 M.2.2.1 M.2.2.2 ∈ ab_G) : GoodIn ab_G (ab_ws M) := by
  intro w hw
  have h2 : w ∈ ab_G := by
    rcases List.mem_cons.mp hw with rfl | h
    · exact hc
    · exact h
  exact ⟨h2, good_of_word (List.mem_filter.mp h2).2⟩
theorem ab_I_blind {D : va_G} {tyc : Nat → ClassId} {adK adV ad : Nat → Nat} {sz : Nat} {As : List Value} : FrameBlind (va_Pc As (ab_I D tyc adK adV ad σ sz)) := by
  intro a U g mk q
  obtain ⟨q0, qT, q1, qP, qK, qD, qN⟩ := q
  exact ⟨q0, qT.same rfl rfl, q1, qP, va_K.moved (u := U) (U := U.calling g mk a) (Vm.Alike.refl U.vm) qK, qD, qN.calling⟩
/-- the caller goes on, over the callee's end -/
theorem ab_back {p : Program} {l : Launch} {e : Env} {R : Room} {s : State} {m : MethodId} {args : Array Value} {below : List Frame} {meth : Method} {c : Code} {H : Heap} {locs : List Loc} {cells slots : Nat} {Q : State → Prop} {pc : Nat} {ls : Array Slot} {rest st0 : List Value} {a : Array Value} {A0 A1 : Nat → Prop} {H0 : Heap} {mc ms : Nat} {free : Addr → Prop} {d0 : Drawn} {D : va_G} {tyc : Nat → ClassId} {G : ab_St → (Nat → Nat) → Prop}
    (hd0 : s.drawn.sameBut d0 lw_cs) (hr : va_RunD lw_cs p l e R (s.setDrawn d0) m args below meth c H locs cells slots mc ms (F0 m pc ls st0) rest (ab_Q D tyc A1 G K a) free) (hS : va_S A0 H0 H locs) (hA : ∀ q, q < H.size → A1 q → A0 q) (hf : ∀ q, free q → A0 q)
    (kk : ∀ (r : Option Value) (σ' : ab_St) (ad' : Nat → Nat) (H1 : Heap) (locs1 : List Loc) (d1 : Drawn), K r σ' → va_P D ab_cl (ab_w tyc ad' σ') H1 → va_D A1 (ab_w tyc ad' σ') → G σ' ad' → va_S A0 H0 H1 locs1 → s.drawn.sameBut d1 lw_cs → W p l e R (s.setDrawn d1) m args below meth c H1 locs1 (cells + mc) (slots + ms) Q (F0 m (pc + 3) ls ((r.map (ab_cv ad')).toList ++ rest))) : W p l e R (s.setDrawn d0) m args below meth c H locs cells slots Q (F0 m pc ls st0) := by
  intro T hT X
  obtain ⟨v, st₀, t, T', L, d', hd', h0, X', hL, e1, e2, ⟨⟨r, σ', ad', hv, hk, hP1, hD1, hG1⟩, hz, hq⟩, st⟩ := hr T hT X
  cases hv
  rw [h0] at hz hq
  obtain ⟨t2, a1, b1⟩ := kk r σ' ad' T'.heap (locs ++ L) d' hk (by rw [e1]; exact hP1) hD1 hG1
    ⟨Nat.le_trans hS.1 (by rw [e1]; exact hz), fun q h1 h2 => by rw [e1, hq q (Nat.lt_of_lt_of_le h1 hS.1) (fun z => h2 (hA q (Nat.lt_of_lt_of_le h1 hS.1) z))]; exact hS.2.1 q h1 h2, fun q hq => by
      rcases List.mem_append.mp hq with h | h
      · exact hS.2.2 q h
      · exact hf _ (hL q h)⟩ (hd0.trans hd') T' rfl X'
  exact ⟨t2, st t2 a1, b1⟩
/-- the references among values lie among the first n cells -/
def ab_refs (n : Nat) (vs : List Value) : Prop := ∀ v ∈ vs, ∀ x, v = .ref x → x < n
theorem ab_refs_map {n : Nat} {vs : List Value} {ad ad' : Nat → Nat} (h : ab_refs n vs) (ha : ∀ q, q < n → ad' q = ad q) : vs.map (ab_cv ad') = vs.map (ab_cv ad) := by
  refine List.map_congr_left fun v hv => ?_
  cases v <;> first | rfl | skip
  rename_i x
  show Value.ref (ad' x) = Value.ref (ad x)
  rw [ha x (h _ hv x rfl)]
theorem ab_refs_lv {n : Nat} {lv : List (Nat × Value)} {ad ad' : Nat → Nat} (h : ab_refs n (lv.map (·.2))) (ha : ∀ q, q < n → ad' q = ad q) : lv.map (fun q => (q.1, ab_cv ad' q.2)) = lv.map (fun q => (q.1, ab_cv ad q.2)) := by
  refine List.map_congr_left fun v hv => ?_
  obtain ⟨i, v⟩ := v
  have h1 := h v (List.mem_map.mpr ⟨_, hv, rfl⟩)
  cases v <;> first | rfl | skip
  rename_i x
  show (i, Value.ref (ad' x)) = (i, Value.ref (ad x))
  rw [ha x (h1 x rfl)]
theorem EW_invS {idx n : Nat} {M' : ab_M} {As rest : List Value} (hlink : Cond.methodLink M.1.cls idx M'.1 ∈ ab_G) (hstat : Cond.static M'.1 ∈ ab_G) {d' bc1 bs1 bc2 bs2 pc2 : Nat} (hp : pc + 3 = pc2) (hM : ab_okM M' n) (hd : decode M.2.1 pc = .ok (.invokestatic idx, 3)) (hst : st = As.reverse ++ rest) (hn : As.length = n) (hlen : (lg_sl (As)).length ≤ M'.2.2.1) (hrm : (rest.map fun v => v.category).sum ≤ 8) (hdd : d' + 1 ≤ d) (hbc : bc1 + bc2 = bc) (hbs : bs1 + bs2 = bs) (hlv : bc1 = 0 ∨ (ab_refs σ.1 rest ∧ ab_refs σ.1 (lv.map (·.2))))
    (h : EW M' 0 (lv_args 0 (As)) [] σ d' bc1 bs1 (fun r σ' => EW M pc2 lv (r.toList ++ rest) σ' d bc2 bs2 K)) : EW M pc lv st σ d bc bs K := by
  intro p l e R s m args below meth c9 D tyc adK adV A H locs cells slots ad d0 ls G hC hP hD hS hl hsa hd0 h1 h2 h3 h4 hG
  subst hst
  subst hp
  have hmet := ab_met (l := l) (D := D) (tyc := tyc) (adK := adK) (adV := adV) (ad := ad) (sz := H.size) hsa hM hlen h
  have hFr : ∀ q, va_A (ab_w tyc ad σ) H.size q → A q := fun q hq => by
    rcases hq with ⟨k, x, hk⟩ | hq
    · exact hD.2 k (q, x) hk
    · exact hC.2.2.2.2.2.2.2.2.2.1 q (Nat.le_trans hS.1 hq)
  have hrm2 : ((rest.map (ab_cv ad)).map fun v => v.category).sum ≤ 8 := by
    rw [List.map_map]
    have : ((fun v => v.category) ∘ ab_cv ad) = fun v : Value => v.category := funext fun v => ab_cv_cat ad v
    rw [this]; exact hrm
  refine ab_back hd0 (va_runS_D (s := s.setDrawn d0) (As := As.map (ab_cv ad)) (rest := rest.map (ab_cv ad)) (Ts := ab_G) ⟨hC.1, hC.2.1, hC.2.2.2.1, hC.2.2.2.2.1, (dr_words hC.2.2.2.2.2.1 d0)⟩ hmet ⟨(callB_of n (dr_words hC.2.2.2.2.2.1 d0) (ab_Gin M' hM.2.2.1) rfl rfl rfl ((dr_words hC.2.2.2.2.2.1 d0) _ hM.2.2.2.1) ((dr_words hC.2.2.2.2.2.1 d0) _ hlink) ⟨hM.2.1.1, hM.2.1.2, hM.2.2.2.2.1⟩ ⟨by show d' + 1 ≤ R.frames; omega, by show 8 + (M'.2.2.1 + 11) + 45 * d' ≤ R.locals; have := hM.2.2.2.2.2; omega⟩), (dr_words hC.2.2.2.2.2.1 d0) _ hstat⟩ ⟨ab_I_blind, (fun U hU hW => ⟨rfl, ab_ST.pass (s := s.setDrawn d0) (A := A) hW (by rw [hU]; exact hS) hFr (hC.2.2.2.2.2.2.2.2.2.2.2.same rfl rfl), by rw [hU], by rw [hU]; exact hP, va_K.moved hW.alike hC.2.2.2.2.2.2.2.1, hD.weaken (fun _ _ _ _ => trivial), ab_NW.moved hW (ab_NW.drawn (d := d0) hC.2.2.2.2.2.2.2.2.1)⟩)⟩ rfl (by rw [List.length_map]; exact hn) hl.1 (by simp [ab_cv]) (lv_room hrm2) hd ⟨by omega, by omega⟩) hS (fun q _ hq => hFr q hq) hFr (fun r σ' ad' H1 locs1 d1 hk hP1 hD1 hG1 hS1 hd1 => ?_)
  obtain ⟨g0, g1, g2, g3⟩ := hG1
  have hrest : rest.map (ab_cv ad') = rest.map (ab_cv ad) := by
    rcases hlv with q | q
    · rw [g3 q]
    · exact ab_refs_map q.1 g2
  have hlvs : lv.map (fun q => (q.1, ab_cv ad' q.2)) = lv.map (fun q => (q.1, ab_cv ad q.2)) := by
    rcases hlv with q | q
    · rw [g3 q]
    · exact ab_refs_lv q.2 g2
  have hstk : (r.map (ab_cv ad')).toList ++ rest.map (ab_cv ad) = (r.toList ++ rest).map (ab_cv ad') := by
    rw [List.map_append, hrest]
    cases r <;> rfl
  rw [hstk]
  exact hk p l e R s m args below meth c9 D tyc adK adV A H1 locs1 (cells + bc1) (slots + bs1) ad' d1 ls G hC hP1 (hD1.weaken (fun _ q _ hq => hFr q.1 hq)) hS1 (by rw [hlvs]; exact hl) g0 hd1 h1 h2 (by omega) (by omega)
    (fun σ2 ad2 q1 q2 q3 q4 => hG σ2 ad2 (Nat.le_trans g1 q1) (fun q hq => (q2 q (Nat.lt_of_lt_of_le hq g1)).trans (g2 q hq)) (fun hb => (q3 (by omega)).trans (g3 (by omega))) q4)
theorem EW_invV {idx n : Nat} {M' : ab_M} {As rest : List Value} {b ci : Nat} (hlink : Cond.methodLink M.1.cls idx M'.1 ∈ ab_G) (hinst : Cond.instanceMethod M'.1 ∈ ab_G) (hsel : Cond.selects M'.1.cls M'.1 M'.1 ∈ ab_G) (hc : b < σ.1) (hs : σ.2.1 b = .inl ci) (hci : ci ≤ 12) (hcl : ab_RX ci = M'.1.cls) {d' bc1 bs1 bc2 bs2 pc2 : Nat} (hp : pc + 3 = pc2) (hM : ab_okM M' n) (hd : decode M.2.1 pc = .ok (.invokevirtual idx, 3)) (hst : st = As.reverse ++ .ref b :: rest) (hn : As.length = n) (hlen : (lg_sl (.ref b :: As)).length ≤ M'.2.2.1) (hrm : (rest.map fun v => v.category).sum ≤ 8) (hdd : d' + 1 ≤ d) (hbc : bc1 + bc2 = bc) (hbs : bs1 + bs2 = bs) (hlv : bc1 = 0 ∨ (ab_refs σ.1 rest ∧ ab_refs σ.1 (lv.map (·.2))))
    (h : EW M' 0 (lv_args 0 (.ref b :: As)) [] σ d' bc1 bs1 (fun r σ' => EW M pc2 lv (r.toList ++ rest) σ' d bc2 bs2 K)) : EW M pc lv st σ d bc bs K := by
  intro p l e R s m args below meth c9 D tyc adK adV A H locs cells slots ad d0 ls G hC hP hD hS hl hsa hd0 h1 h2 h3 h4 hG
  subst hst
  subst hp
  have hmet := ab_met (l := l) (D := D) (tyc := tyc) (adK := adK) (adV := adV) (ad := ad) (sz := H.size) hsa hM hlen h
  have hFr : ∀ q, va_A (ab_w tyc ad σ) H.size q → A q := fun q hq => by
    rcases hq with ⟨k, x, hk⟩ | hq
    · exact hD.2 k (q, x) hk
    · exact hC.2.2.2.2.2.2.2.2.2.1 q (Nat.le_trans hS.1 hq)
  have hrm2 : ((rest.map (ab_cv ad)).map fun v => v.category).sum ≤ 8 := by
    rw [List.map_map]
    have : ((fun v => v.category) ∘ ab_cv ad) = fun v : Value => v.category := funext fun v => ab_cv_cat ad v
    rw [this]; exact hrm
  refine ab_back hd0 (va_runV_D (C := M'.1.cls) (b := ad b) (s := s.setDrawn d0) (As := As.map (ab_cv ad)) (rest := rest.map (ab_cv ad)) (Ts := ab_G) ⟨hC.1, hC.2.1, hC.2.2.2.1, hC.2.2.2.2.1, (dr_words hC.2.2.2.2.2.1 d0)⟩ hmet ⟨(callB_of n (dr_words hC.2.2.2.2.2.1 d0) (ab_Gin M' hM.2.2.1) rfl rfl rfl ((dr_words hC.2.2.2.2.2.1 d0) _ hM.2.2.2.1) ((dr_words hC.2.2.2.2.2.1 d0) _ hlink) ⟨hM.2.1.1, hM.2.1.2, hM.2.2.2.2.1⟩ ⟨by show d' + 1 ≤ R.frames; omega, by show 8 + (M'.2.2.1 + 11) + 45 * d' ≤ R.locals; have := hM.2.2.2.2.2; omega⟩), (dr_words hC.2.2.2.2.2.1 d0) _ hinst, (dr_words hC.2.2.2.2.2.1 d0) _ hsel⟩ ⟨ab_I_blind, by rw [← hcl]; exact va_recv (s := s) hC.2.2.2.2.2.2.2.1 hP (ab_cl_at hci) (by rw [ab_w_at hc, ab_e_o hs]), (fun U hU hW => ⟨rfl, ab_ST.pass (s := s.setDrawn d0) (A := A) hW (by rw [hU]; exact hS) hFr (hC.2.2.2.2.2.2.2.2.2.2.2.same rfl rfl), by rw [hU], by rw [hU]; exact hP, va_K.moved hW.alike hC.2.2.2.2.2.2.2.1, hD.weaken (fun _ _ _ _ => trivial), ab_NW.moved hW (ab_NW.drawn (d := d0) hC.2.2.2.2.2.2.2.2.1)⟩)⟩ rfl (by rw [List.length_map]; exact hn) hl.1 (by simp [ab_cv]) (lv_room hrm2) hd ⟨by omega, by omega⟩) hS (fun q _ hq => hFr q hq) hFr (fun r σ' ad' H1 locs1 d1 hk hP1 hD1 hG1 hS1 hd1 => ?_)
  obtain ⟨g0, g1, g2, g3⟩ := hG1
  have hrest : rest.map (ab_cv ad') = rest.map (ab_cv ad) := by
    rcases hlv with q | q
    · rw [g3 q]
    · exact ab_refs_map q.1 g2
  have hlvs : lv.map (fun q => (q.1, ab_cv ad' q.2)) = lv.map (fun q => (q.1, ab_cv ad q.2)) := by
    rcases hlv with q | q
    · rw [g3 q]
    · exact ab_refs_lv q.2 g2
  have hstk : (r.map (ab_cv ad')).toList ++ rest.map (ab_cv ad) = (r.toList ++ rest).map (ab_cv ad') := by
    rw [List.map_append, hrest]
    cases r <;> rfl
  rw [hstk]
  exact hk p l e R s m args below meth c9 D tyc adK adV A H1 locs1 (cells + bc1) (slots + bs1) ad' d1 ls G hC hP1 (hD1.weaken (fun _ q _ hq => hFr q.1 hq)) hS1 (by rw [hlvs]; exact hl) g0 hd1 h1 h2 (by omega) (by omega)
    (fun σ2 ad2 q1 q2 q3 q4 => hG σ2 ad2 (Nat.le_trans g1 q1) (fun q hq => (q2 q (Nat.lt_of_lt_of_le hq g1)).trans (g2 q hq)) (fun hb => (q3 (by omega)).trans (g3 (by omega))) q4)
theorem EW_invI {idx n : Nat} {M' : ab_M} {As rest : List Value} {b : Nat} (hlink : Cond.methodLink M.1.cls idx M'.1 ∈ ab_G) (hinst : Cond.instanceMethod M'.1 ∈ ab_G) (hini : M'.1.name = "<init>") (hvoid : M'.2.2.2 = none) {d' bc1 bs1 bc2 bs2 pc2 : Nat} (hp : pc + 3 = pc2) (hM : ab_okM M' n) (hd : decode M.2.1 pc = .ok (.invokespecial idx, 3)) (hst : st = As.reverse ++ .ref b :: rest) (hn : As.length = n) (hlen : (lg_sl (.ref b :: As)).length ≤ M'.2.2.1) (hrm : (rest.map fun v => v.category).sum ≤ 8) (hdd : d' + 1 ≤ d) (hbc : bc1 + bc2 = bc) (hbs : bs1 + bs2 = bs) (hlv : bc1 = 0 ∨ (ab_refs σ.1 rest ∧ ab_refs σ.1 (lv.map (·.2))))
    (h : EW M' 0 (lv_args 0 (.ref b :: As)) [] σ d' bc1 bs1 (fun r σ' => EW M pc2 lv (r.toList ++ rest) σ' d bc2 bs2 K)) : EW M pc lv st σ d bc bs K := by
  intro p l e R s m args below meth c9 D tyc adK adV A H locs cells slots ad d0 ls G hC hP hD hS hl hsa hd0 h1 h2 h3 h4 hG
  subst hst
  subst hp
  have hmet := ab_met (l := l) (D := D) (tyc := tyc) (adK := adK) (adV := adV) (ad := ad) (sz := H.size) hsa hM hlen h
  have hFr : ∀ q, va_A (ab_w tyc ad σ) H.size q → A q := fun q hq => by
    rcases hq with ⟨k, x, hk⟩ | hq
    · exact hD.2 k (q, x) hk
    · exact hC.2.2.2.2.2.2.2.2.2.1 q (Nat.le_trans hS.1 hq)
  have hrm2 : ((rest.map (ab_cv ad)).map fun v => v.category).sum ≤ 8 := by
    rw [List.map_map]
    have : ((fun v => v.category) ∘ ab_cv ad) = fun v : Value => v.category := funext fun v => ab_cv_cat ad v
    rw [this]; exact hrm
  refine ab_back hd0 (va_runI_D (b := ad b) (s := s.setDrawn d0) (As := As.map (ab_cv ad)) (rest := rest.map (ab_cv ad)) (Ts := ab_G) ⟨hC.1, hC.2.1, hC.2.2.2.1, hC.2.2.2.2.1, (dr_words hC.2.2.2.2.2.1 d0)⟩ hmet ⟨by rw [← hvoid]; exact (callB_of n (dr_words hC.2.2.2.2.2.1 d0) (ab_Gin M' hM.2.2.1) rfl rfl rfl ((dr_words hC.2.2.2.2.2.1 d0) _ hM.2.2.2.1) ((dr_words hC.2.2.2.2.2.1 d0) _ hlink) ⟨hM.2.1.1, hM.2.1.2, hM.2.2.2.2.1⟩ ⟨by show d' + 1 ≤ R.frames; omega, by show 8 + (M'.2.2.1 + 11) + 45 * d' ≤ R.locals; have := hM.2.2.2.2.2; omega⟩), hini, (dr_words hC.2.2.2.2.2.1 d0) _ hinst⟩ ⟨ab_I_blind, (fun U hU hW => ⟨rfl, ab_ST.pass (s := s.setDrawn d0) (A := A) hW (by rw [hU]; exact hS) hFr (hC.2.2.2.2.2.2.2.2.2.2.2.same rfl rfl), by rw [hU], by rw [hU]; exact hP, va_K.moved hW.alike hC.2.2.2.2.2.2.2.1, hD.weaken (fun _ _ _ _ => trivial), ab_NW.moved hW (ab_NW.drawn (d := d0) hC.2.2.2.2.2.2.2.2.1)⟩)⟩ rfl (by rw [List.length_map]; exact hn) hl.1 (by simp [ab_cv]) (lv_room hrm2) hd ⟨by omega, by omega⟩) hS (fun q _ hq => hFr q hq) hFr (fun r σ' ad' H1 locs1 d1 hk hP1 hD1 hG1 hS1 hd1 => ?_)
  obtain ⟨g0, g1, g2, g3⟩ := hG1
  have hrest : rest.map (ab_cv ad') = rest.map (ab_cv ad) := by
    rcases hlv with q | q
    · rw [g3 q]
    · exact ab_refs_map q.1 g2
  have hlvs : lv.map (fun q => (q.1, ab_cv ad' q.2)) = lv.map (fun q => (q.1, ab_cv ad q.2)) := by
    rcases hlv with q | q
    · rw [g3 q]
    · exact ab_refs_lv q.2 g2
  have hstk : (r.map (ab_cv ad')).toList ++ rest.map (ab_cv ad) = (r.toList ++ rest).map (ab_cv ad') := by
    rw [List.map_append, hrest]
    cases r <;> rfl
  rw [hstk]
  exact hk p l e R s m args below meth c9 D tyc adK adV A H1 locs1 (cells + bc1) (slots + bs1) ad' d1 ls G hC hP1 (hD1.weaken (fun _ q _ hq => hFr q.1 hq)) hS1 (by rw [hlvs]; exact hl) g0 hd1 h1 h2 (by omega) (by omega)
    (fun σ2 ad2 q1 q2 q3 q4 => hG σ2 ad2 (Nat.le_trans g1 q1) (fun q hq => (q2 q (Nat.lt_of_lt_of_le hq g1)).trans (g2 q hq)) (fun hb => (q3 (by omega)).trans (g3 (by omega))) q4)
theorem EW_invSN {idx n : Nat} {M' : ab_M} {As rest : List Value} {host : String} (hlink : Cond.methodLinkNest M.1.cls idx M'.1 host ∈ tables_1.filter ab_isN) (hstat : Cond.static M'.1 ∈ ab_G) {d' bc1 bs1 bc2 bs2 pc2 : Nat} (hp : pc + 3 = pc2) (hM : ab_okM M' n) (hd : decode M.2.1 pc = .ok (.invokestatic idx, 3)) (hst : st = As.reverse ++ rest) (hn : As.length = n) (hlen : (lg_sl (As)).length ≤ M'.2.2.1) (hrm : (rest.map fun v => v.category).sum ≤ 8) (hdd : d' + 1 ≤ d) (hbc : bc1 + bc2 = bc) (hbs : bs1 + bs2 = bs) (hlv : bc1 = 0 ∨ (ab_refs σ.1 rest ∧ ab_refs σ.1 (lv.map (·.2))))
    (h : EW M' 0 (lv_args 0 (As)) [] σ d' bc1 bs1 (fun r σ' => EW M pc2 lv (r.toList ++ rest) σ' d bc2 bs2 K)) : EW M pc lv st σ d bc bs K := by
  intro p l e R s m args below meth c9 D tyc adK adV A H locs cells slots ad d0 ls G hC hP hD hS hl hsa hd0 h1 h2 h3 h4 hG
  subst hst
  subst hp
  have hmet := ab_met (l := l) (D := D) (tyc := tyc) (adK := adK) (adV := adV) (ad := ad) (sz := H.size) hsa hM hlen h
  have hFr : ∀ q, va_A (ab_w tyc ad σ) H.size q → A q := fun q hq => by
    rcases hq with ⟨k, x, hk⟩ | hq
    · exact hD.2 k (q, x) hk
    · exact hC.2.2.2.2.2.2.2.2.2.1 q (Nat.le_trans hS.1 hq)
  have hrm2 : ((rest.map (ab_cv ad)).map fun v => v.category).sum ≤ 8 := by
    rw [List.map_map]
    have : ((fun v => v.category) ∘ ab_cv ad) = fun v : Value => v.category := funext fun v => ab_cv_cat ad v
    rw [this]; exact hrm
  refine ab_back hd0 (va_runSN_D (s := s.setDrawn d0) (As := As.map (ab_cv ad)) (rest := rest.map (ab_cv ad)) (Ts := ab_G) ⟨hC.1, hC.2.1, hC.2.2.2.1, hC.2.2.2.2.1, (dr_words hC.2.2.2.2.2.1 d0)⟩ hmet ⟨(va_cnB n (dr_words hC.2.2.2.2.2.1 d0) (ab_Gin M' hM.2.2.1) rfl rfl rfl ((ab_NW.drawn (d := d0) hC.2.2.2.2.2.2.2.2.1) _ hlink) ((dr_words hC.2.2.2.2.2.1 d0) _ hM.2.2.2.1) ⟨hM.2.1.1, hM.2.1.2, hM.2.2.2.2.1⟩ ⟨by show d' + 1 ≤ R.frames; omega, by show 8 + (M'.2.2.1 + 11) + 45 * d' ≤ R.locals; have := hM.2.2.2.2.2; omega⟩), (dr_words hC.2.2.2.2.2.1 d0) _ hstat, trivial⟩ ⟨ab_I_blind, (fun U hU hW => ⟨rfl, ab_ST.pass (s := s.setDrawn d0) (A := A) hW (by rw [hU]; exact hS) hFr (hC.2.2.2.2.2.2.2.2.2.2.2.same rfl rfl), by rw [hU], by rw [hU]; exact hP, va_K.moved hW.alike hC.2.2.2.2.2.2.2.1, hD.weaken (fun _ _ _ _ => trivial), ab_NW.moved hW (ab_NW.drawn (d := d0) hC.2.2.2.2.2.2.2.2.1)⟩)⟩ rfl (by rw [List.length_map]; exact hn) hl.1 (by simp [ab_cv]) (lv_room hrm2) hd ⟨by omega, by omega⟩) hS (fun q _ hq => hFr q hq) hFr (fun r σ' ad' H1 locs1 d1 hk hP1 hD1 hG1 hS1 hd1 => ?_)
  obtain ⟨g0, g1, g2, g3⟩ := hG1
  have hrest : rest.map (ab_cv ad') = rest.map (ab_cv ad) := by
    rcases hlv with q | q
    · rw [g3 q]
    · exact ab_refs_map q.1 g2
  have hlvs : lv.map (fun q => (q.1, ab_cv ad' q.2)) = lv.map (fun q => (q.1, ab_cv ad q.2)) := by
    rcases hlv with q | q
    · rw [g3 q]
    · exact ab_refs_lv q.2 g2
  have hstk : (r.map (ab_cv ad')).toList ++ rest.map (ab_cv ad) = (r.toList ++ rest).map (ab_cv ad') := by
    rw [List.map_append, hrest]
    cases r <;> rfl
  rw [hstk]
  exact hk p l e R s m args below meth c9 D tyc adK adV A H1 locs1 (cells + bc1) (slots + bs1) ad' d1 ls G hC hP1 (hD1.weaken (fun _ q _ hq => hFr q.1 hq)) hS1 (by rw [hlvs]; exact hl) g0 hd1 h1 h2 (by omega) (by omega)
    (fun σ2 ad2 q1 q2 q3 q4 => hG σ2 ad2 (Nat.le_trans g1 q1) (fun q hq => (q2 q (Nat.lt_of_lt_of_le hq g1)).trans (g2 q hq)) (fun hb => (q3 (by omega)).trans (g3 (by omega))) q4)
theorem EW_invIN {idx n : Nat} {M' : ab_M} {As rest : List Value} {b : Nat} {host : String} (hlink : Cond.methodLinkNest M.1.cls idx M'.1 host ∈ tables_1.filter ab_isN) (hinst : Cond.instanceMethod M'.1 ∈ ab_G) (hini : M'.1.name = "<init>") (hvoid : M'.2.2.2 = none) {d' bc1 bs1 bc2 bs2 pc2 : Nat} (hp : pc + 3 = pc2) (hM : ab_okM M' n) (hd : decode M.2.1 pc = .ok (.invokespecial idx, 3)) (hst : st = As.reverse ++ .ref b :: rest) (hn : As.length = n) (hlen : (lg_sl (.ref b :: As)).length ≤ M'.2.2.1) (hrm : (rest.map fun v => v.category).sum ≤ 8) (hdd : d' + 1 ≤ d) (hbc : bc1 + bc2 = bc) (hbs : bs1 + bs2 = bs) (hlv : bc1 = 0 ∨ (ab_refs σ.1 rest ∧ ab_refs σ.1 (lv.map (·.2))))
    (h : EW M' 0 (lv_args 0 (.ref b :: As)) [] σ d' bc1 bs1 (fun r σ' => EW M pc2 lv (r.toList ++ rest) σ' d bc2 bs2 K)) : EW M pc lv st σ d bc bs K := by
  intro p l e R s m args below meth c9 D tyc adK adV A H locs cells slots ad d0 ls G hC hP hD hS hl hsa hd0 h1 h2 h3 h4 hG
  subst hst
  subst hp
  have hmet := ab_met (l := l) (D := D) (tyc := tyc) (adK := adK) (adV := adV) (ad := ad) (sz := H.size) hsa hM hlen h
  have hFr : ∀ q, va_A (ab_w tyc ad σ) H.size q → A q := fun q hq => by
    rcases hq with ⟨k, x, hk⟩ | hq
    · exact hD.2 k (q, x) hk
    · exact hC.2.2.2.2.2.2.2.2.2.1 q (Nat.le_trans hS.1 hq)
  have hrm2 : ((rest.map (ab_cv ad)).map fun v => v.category).sum ≤ 8 := by
    rw [List.map_map]
    have : ((fun v => v.category) ∘ ab_cv ad) = fun v : Value => v.category := funext fun v => ab_cv_cat ad v
    rw [this]; exact hrm
  refine ab_back hd0 (va_runIN_D (b := ad b) (s := s.setDrawn d0) (As := As.map (ab_cv ad)) (rest := rest.map (ab_cv ad)) (Ts := ab_G) ⟨hC.1, hC.2.1, hC.2.2.2.1, hC.2.2.2.2.1, (dr_words hC.2.2.2.2.2.1 d0)⟩ hmet ⟨by rw [← hvoid]; exact (va_cnB n (dr_words hC.2.2.2.2.2.1 d0) (ab_Gin M' hM.2.2.1) rfl rfl rfl ((ab_NW.drawn (d := d0) hC.2.2.2.2.2.2.2.2.1) _ hlink) ((dr_words hC.2.2.2.2.2.1 d0) _ hM.2.2.2.1) ⟨hM.2.1.1, hM.2.1.2, hM.2.2.2.2.1⟩ ⟨by show d' + 1 ≤ R.frames; omega, by show 8 + (M'.2.2.1 + 11) + 45 * d' ≤ R.locals; have := hM.2.2.2.2.2; omega⟩), hini, (dr_words hC.2.2.2.2.2.1 d0) _ hinst⟩ ⟨ab_I_blind, (fun U hU hW => ⟨rfl, ab_ST.pass (s := s.setDrawn d0) (A := A) hW (by rw [hU]; exact hS) hFr (hC.2.2.2.2.2.2.2.2.2.2.2.same rfl rfl), by rw [hU], by rw [hU]; exact hP, va_K.moved hW.alike hC.2.2.2.2.2.2.2.1, hD.weaken (fun _ _ _ _ => trivial), ab_NW.moved hW (ab_NW.drawn (d := d0) hC.2.2.2.2.2.2.2.2.1)⟩)⟩ rfl (by rw [List.length_map]; exact hn) hl.1 (by simp [ab_cv]) (lv_room hrm2) hd ⟨by omega, by omega⟩) hS (fun q _ hq => hFr q hq) hFr (fun r σ' ad' H1 locs1 d1 hk hP1 hD1 hG1 hS1 hd1 => ?_)
  obtain ⟨g0, g1, g2, g3⟩ := hG1
  have hrest : rest.map (ab_cv ad') = rest.map (ab_cv ad) := by
    rcases hlv with q | q
    · rw [g3 q]
    · exact ab_refs_map q.1 g2
  have hlvs : lv.map (fun q => (q.1, ab_cv ad' q.2)) = lv.map (fun q => (q.1, ab_cv ad q.2)) := by
    rcases hlv with q | q
    · rw [g3 q]
    · exact ab_refs_lv q.2 g2
  have hstk : (r.map (ab_cv ad')).toList ++ rest.map (ab_cv ad) = (r.toList ++ rest).map (ab_cv ad') := by
    rw [List.map_append, hrest]
    cases r <;> rfl
  rw [hstk]
  exact hk p l e R s m args below meth c9 D tyc adK adV A H1 locs1 (cells + bc1) (slots + bs1) ad' d1 ls G hC hP1 (hD1.weaken (fun _ q _ hq => hFr q.1 hq)) hS1 (by rw [hlvs]; exact hl) g0 hd1 h1 h2 (by omega) (by omega)
    (fun σ2 ad2 q1 q2 q3 q4 => hG σ2 ad2 (Nat.le_trans g1 q1) (fun q hq => (q2 q (Nat.lt_of_lt_of_le hq g1)).trans (g2 q hq)) (fun hb => (q3 (by omega)).trans (g3 (by omega))) q4)
end EWC
