/-! NEW CELLS. -/
def ab_new (σ : ab_St) (ci : Nat) : ab_St := (σ.1 + 1, (fun c => if c = σ.1 then .inl ci else σ.2.1 c), (fun c => if c = σ.1 then (fun _ => 0) else σ.2.2.1 c), σ.2.2.2.1, σ.2.2.2.2.1, (fun c => if c = σ.1 then (fun _ => none) else σ.2.2.2.2.2 c))
def ab_newA (σ : ab_St) (t n : Nat) : ab_St := (σ.1 + 1, (fun c => if c = σ.1 then .inr (t, n) else σ.2.1 c), (fun c => if c = σ.1 then (fun _ => 0) else σ.2.2.1 c), (fun c => if c = σ.1 then (fun _ => 0) else σ.2.2.2.1 c), (fun c => if c = σ.1 then (fun _ => 0) else σ.2.2.2.2.1 c), (fun c => if c = σ.1 then (fun _ => none) else σ.2.2.2.2.2 c))
/-- nothing names the next cell -/
def ab_nr (n : Nat) (vs : List Value) : Prop := ∀ v ∈ vs, v ≠ .ref n
def ab_nR (σ : ab_St) : Prop := ∀ c k, c < σ.1 → σ.2.2.2.2.2 c k ≠ some σ.1
theorem ab_nr_map {n q : Nat} {vs : List Value} {ad : Nat → Nat} (h : ab_nr n vs) : vs.map (ab_cv (fun j => if j = n then q else ad j)) = vs.map (ab_cv ad) := by
  refine List.map_congr_left fun v hv => ?_
  have h1 := h v hv
  cases v <;> first | rfl | skip
  rename_i x
  have hx : ¬ x = n := fun e => h1 (by rw [e])
  show Value.ref (if x = n then q else ad x) = Value.ref (ad x)
  rw [if_neg hx]
theorem ab_nr_lv {n q : Nat} {lv : List (Nat × Value)} {ad : Nat → Nat} (h : ab_nr n (lv.map (·.2))) : lv.map (fun z => (z.1, ab_cv (fun j => if j = n then q else ad j) z.2)) = lv.map (fun z => (z.1, ab_cv ad z.2)) := by
  refine List.map_congr_left fun v hv => ?_
  obtain ⟨i, v⟩ := v
  have h1 := h v (List.mem_map.mpr ⟨_, hv, rfl⟩)
  cases v <;> first | rfl | skip
  rename_i x
  have hx : ¬ x = n := fun e => h1 (by rw [e])
  show (i, Value.ref (if x = n then q else ad x)) = (i, Value.ref (ad x))
  rw [if_neg hx]
theorem ab_map_ad {n q : Nat} {ad : Nat → Nat} {r : Option Nat} (h : r ≠ some n) : r.map (fun j => if j = n then q else ad j) = r.map ad := by
  cases r with
  | none => rfl
  | some x =>
    have hx : ¬ x = n := fun e => h (by rw [e])
    simp [hx]
theorem ab_df : ∀ ci, ci ≤ 12 → ∀ j, j < ab_N ci → defaultValue (ab_tf ci j) = (if ab_isr (ab_tf ci j) = true then .null else .int 0) := by
  intro ci h
  match ci, h with
  | 0, _ => exact (by decide : ∀ j, j < ab_N 0 → defaultValue (ab_tf 0 j) = (if ab_isr (ab_tf 0 j) = true then .null else .int 0))
  | 1, _ => exact (by decide : ∀ j, j < ab_N 1 → defaultValue (ab_tf 1 j) = (if ab_isr (ab_tf 1 j) = true then .null else .int 0))
  | 2, _ => exact (by decide : ∀ j, j < ab_N 2 → defaultValue (ab_tf 2 j) = (if ab_isr (ab_tf 2 j) = true then .null else .int 0))
  | 3, _ => exact (by decide : ∀ j, j < ab_N 3 → defaultValue (ab_tf 3 j) = (if ab_isr (ab_tf 3 j) = true then .null else .int 0))
  | 4, _ => exact (by decide : ∀ j, j < ab_N 4 → defaultValue (ab_tf 4 j) = (if ab_isr (ab_tf 4 j) = true then .null else .int 0))
  | 5, _ => exact (by decide : ∀ j, j < ab_N 5 → defaultValue (ab_tf 5 j) = (if ab_isr (ab_tf 5 j) = true then .null else .int 0))
  | 6, _ => exact (by decide : ∀ j, j < ab_N 6 → defaultValue (ab_tf 6 j) = (if ab_isr (ab_tf 6 j) = true then .null else .int 0))
  | 7, _ => exact (by decide : ∀ j, j < ab_N 7 → defaultValue (ab_tf 7 j) = (if ab_isr (ab_tf 7 j) = true then .null else .int 0))
  | 8, _ => exact (by decide : ∀ j, j < ab_N 8 → defaultValue (ab_tf 8 j) = (if ab_isr (ab_tf 8 j) = true then .null else .int 0))
  | 9, _ => exact (by decide : ∀ j, j < ab_N 9 → defaultValue (ab_tf 9 j) = (if ab_isr (ab_tf 9 j) = true then .null else .int 0))
  | 10, _ => exact (by decide : ∀ j, j < ab_N 10 → defaultValue (ab_tf 10 j) = (if ab_isr (ab_tf 10 j) = true then .null else .int 0))
  | 11, _ => exact (by decide : ∀ j, j < ab_N 11 → defaultValue (ab_tf 11 j) = (if ab_isr (ab_tf 11 j) = true then .null else .int 0))
  | 12, _ => exact (by decide : ∀ j, j < ab_N 12 → defaultValue (ab_tf 12 j) = (if ab_isr (ab_tf 12 j) = true then .null else .int 0))
  | n + 13, h => omega
theorem ab_w_new {σ : ab_St} {tyc : Nat → ClassId} {ad : Nat → Nat} {q ci : Nat} (hR : ab_nR σ) : ab_w tyc (fun j => if j = σ.1 then q else ad j) (ab_new σ ci) = ab_w tyc ad σ ++ [(q, .inr (ci, (List.range (ab_N ci)).map (fun k => if ab_isr (ab_tf ci k) = true then .null else .int 0)))] := by
  show (List.range (σ.1 + 1)).map _ = _
  rw [List.range_succ, List.map_append]
  congr 1
  · refine List.map_congr_left fun c hc => ?_
    have hc : c < σ.1 := List.mem_range.mp hc
    have hn : ¬ c = σ.1 := Nat.ne_of_lt hc
    refine Prod.ext (by simp [hn]) ?_
    show ab_e _ _ (ab_new σ ci) c = ab_e _ _ σ c
    unfold ab_e
    show (match (if c = σ.1 then .inl ci else σ.2.1 c) with | .inl ci => (.inr (ci, ab_fs _ (ab_new σ _) c ci) : va_E) | .inr q => .inl (tyc q.1, q.2, ab_a _ (ab_new σ _) c q.1)) = _
    rw [if_neg hn]
    cases σ.2.1 c with
    | inl z => simp [ab_fs]; intro a ha; simp [ab_f, ab_new, hn, ab_map_ad (hR c a hc)]
    | inr z => simp [ab_a, ab_new, hn, fun j => ab_map_ad (q := q) (ad := ad) (hR c j hc)]
  · simp [ab_e, ab_new, ab_fs, ab_f, va_rf]
theorem ab_w_newA {σ : ab_St} {tyc : Nat → ClassId} {ad : Nat → Nat} {q t n : Nat} (hR : ab_nR σ) : ab_w tyc (fun j => if j = σ.1 then q else ad j) (ab_newA σ t n) = ab_w tyc ad σ ++ [(q, .inl (tyc t, n, if t < 3 then .inl (fun _ => 0) else if t = 3 then .inr (.inl (fun _ => 0)) else if t = 4 then .inr (.inr (.inr (.inl (fun _ => 0)))) else .inr (.inr (.inr (.inr (fun _ => none))))))] := by
  show (List.range (σ.1 + 1)).map _ = _
  rw [List.range_succ, List.map_append]
  congr 1
  · refine List.map_congr_left fun c hc => ?_
    have hc : c < σ.1 := List.mem_range.mp hc
    have hn : ¬ c = σ.1 := Nat.ne_of_lt hc
    refine Prod.ext (by simp [hn]) ?_
    show ab_e _ _ (ab_newA σ t n) c = ab_e _ _ σ c
    unfold ab_e
    show (match (if c = σ.1 then .inr (t, n) else σ.2.1 c) with | .inl ci => (.inr (ci, ab_fs _ (ab_newA σ t n) c ci) : va_E) | .inr q => .inl (tyc q.1, q.2, ab_a _ (ab_newA σ t n) c q.1)) = _
    rw [if_neg hn]
    cases σ.2.1 c with
    | inl z => simp [ab_fs]; intro a ha; simp [ab_f, ab_newA, hn, ab_map_ad (hR c a hc)]
    | inr z => simp [ab_a, ab_newA, hn, fun j => ab_map_ad (q := q) (ad := ad) (hR c j hc)]
  · simp [ab_e, ab_newA, ab_a]
theorem ab_sa_up {adK adV ad : Nat → Nat} {n q : Nat} (h : ab_sa adK adV ad) (hn : n < 1000000) : ab_sa adK adV (fun j => if j = n then q else ad j) := by
  intro j hj
  have h1 : ¬ 1000000 + j = n := by omega
  have h2 : ¬ 2000000 + j = n := by omega
  simp only [h1, h2, if_false]
  exact h j hj
section EWN
variable {M : ab_M} {pc : Nat} {lv : List (Nat × Value)} {st : List Value} {σ : ab_St} {d bc bs : Nat} {K : Option Value → ab_St → Prop}
theorem EW_new {idx ci b s' : Nat} (hci : ci ≤ 12) (hk : Cond.classLink M.1.cls idx (ab_RX ci) ∈ ab_G ∧ Cond.instantiable (ab_RX ci) (ab_N ci) ∈ ab_G ∧ Cond.initialized (ab_RX ci) ∈ ab_G) {pc2 : Nat} (hp : pc + 3 = pc2) (hd : decode M.2.1 pc = .ok (.new idx, 3)) (hn : σ.1 < 1000000) (hR : ab_nR σ) (hlv : ab_nr σ.1 (lv.map (·.2))) (hst : ab_nr σ.1 st) (hb : bc = b + 1) (hs : bs = s' + ab_N ci) (h : EW M pc2 lv (.ref σ.1 :: st) (ab_new σ ci) d b s' K) : EW M pc lv st σ d bc bs K := by
  subst hp
  intro p l e R s m args below meth c9 D tyc adK adV A H locs cells slots ad d0 ls G hC hP hD hS hl hsa hd0 h1 h2 h3 h4 hG
  obtain ⟨f1, f2, f3⟩ := ab_cf ci hci
  refine va_new (s := s.setDrawn d0) (ci := ci) (C := ab_RX ci) (T := ab_TX ci) (N := ab_N ci) (fs := (List.range (ab_N ci)).map (fun k => if ab_isr (ab_tf ci k) = true then .null else .int 0)) hC.1 hC.2.1 (dr_words hC.2.2.2.2.2.1 d0) f1 (ab_tf ci) f2 hC.2.2.2.2.1 ((dr_words hC.2.2.2.2.2.1 d0) _ hk.1) ((dr_words hC.2.2.2.2.2.1 d0) _ hk.2.1) ((dr_words hC.2.2.2.2.2.1 d0) _ hk.2.2) hC.2.2.2.2.2.2.2.1 hP hD hS hC.2.2.2.2.2.2.2.2.2.1 (ab_cl_at hci) (fun j hj => ?_) (by omega) (by omega) hd (fun q H1 hP1 hD1 hS1 => ?_)
  · rw [ab_df ci hci j hj]
    simp [vp_V, List.getD_eq_getElem?_getD, List.getElem?_map, List.getElem?_range hj]
  · have h9 := h p l e R s m args below meth c9 D tyc adK adV A H1 locs (cells + 1) (slots + ab_N ci) (fun j => if j = σ.1 then q else ad j) d0 ls G hC (by rw [ab_w_new hR]; exact hP1) (by rw [ab_w_new hR]; exact hD1) hS1 (by rw [ab_nr_lv hlv]; exact hl) (ab_sa_up hsa hn) hd0 h1 h2 (by omega) (by omega) (fun σ2 ad2 q1 q2 q3 q4 => hG σ2 ad2 (Nat.le_trans (Nat.le_succ _) q1) (fun z hz => (q2 z (Nat.lt_succ_of_lt hz)).trans (if_neg (Nat.ne_of_lt hz))) (fun hb => absurd hb (by omega)) q4)
    rw [show (Value.ref σ.1 :: st).map (ab_cv (fun j => if j = σ.1 then q else ad j)) = Value.ref q :: st.map (ab_cv ad) by rw [List.map_cons, ab_nr_map hst]; simp [ab_cv]] at h9
    exact h9
theorem EW_objInit {idx c : Nat} (hk : Cond.methodLink M.1.cls idx objectInit ∈ ab_G ∧ Cond.instanceMethod objectInit ∈ ab_G ∧ Cond.code objectInit ⟨#[0xb1]⟩ 1 none ∈ ab_G) {pc2 : Nat} (hp : pc + 3 = pc2) (hd : decode M.2.1 pc = .ok (.invokespecial idx, 3)) (hrm : (st.map fun v => v.category).sum ≤ 8) (hdd : 1 ≤ d) (h : EW M pc2 lv st σ d bc bs K) : EW M pc lv (.ref c :: st) σ d bc bs K := by
  subst hp
  intro p l e R s m args below meth c9 D tyc adK adV A H locs cells slots ad d0 ls G hC hP hD hS hl hsa hd0 h1 h2 h3 h4 hG
  have hrm2 : ((st.map (ab_cv ad)).map fun v => v.category).sum ≤ 8 := by
    rw [List.map_map]
    have : ((fun v => v.category) ∘ ab_cv ad) = fun v : Value => v.category := funext fun v => ab_cv_cat ad v
    rw [this]; exact hrm
  refine W.objInit (s := s.setDrawn d0) (a := ad c) (rest := st.map (ab_cv ad)) hC.1 hC.2.1 hC.2.2.2.2.1 ((dr_words hC.2.2.2.2.2.1 d0) _ hk.1) ((dr_words hC.2.2.2.2.2.1 d0) _ hk.2.1) ((dr_words hC.2.2.2.2.2.1 d0) _ hk.2.2) rfl (by rw [hC.2.2.2.1]; exact hl.1) rfl hd (by omega) (by show 2 * 0 + _ + 12 ≤ _; omega) ?_
  exact (h p l e R s m args below meth c9 D tyc adK adV A H locs cells slots ad d0 ls G hC hP hD hS hl hsa hd0 h1 h2 h3 h4 hG)
theorem EW_newa_int {b s' N : Nat} {n : Int32} (hk : Cond.arrayClass .int ∈ ab_G) {pc2 : Nat} (hp : pc + 2 = pc2) (hd : decode M.2.1 pc = .ok (.newarray .int, 2)) (hneg : ¬ n < 0) (hN : n.toNatClampNeg = N) (hsm : N ≤ 100000) (hn : σ.1 < 1000000) (hR : ab_nR σ) (hlv : ab_nr σ.1 (lv.map (·.2))) (hst : ab_nr σ.1 st) (hb : bc = b + 1) (hs : bs = s' + N) (h : EW M pc2 lv (.ref σ.1 :: st) (ab_newA σ 0 N) d b s' K) : EW M pc lv (.int n :: st) σ d bc bs K := by
  subst hp
  intro p l e R s m args below meth c9 D tyc adK adV A H locs cells slots ad d0 ls G hC hP hD hS hl hsa hd0 h1 h2 h3 h4 hG
  have h8 : componentBytes .int ≤ 8 := by decide
  refine va_newa (s := s.setDrawn d0) (atype := .int) (ty := .int) (N' := N) (a0 := (N, .inl (fun _ => 0))) hC.1 hC.2.1 ((dr_words hC.2.2.2.2.2.1 d0) _ hk) rfl hC.2.2.2.2.2.2.2.1 hP hD hS hC.2.2.2.2.2.2.2.2.2.1 (fun cA => rfl) hneg hN (Nat.le_trans (Nat.mul_le_mul hsm h8) (by decide)) (by omega) (by omega) hd (fun q cA H1 hK1 hP1 hD1 hS1 => ?_)
  have e1 : (s.setDrawn d0).vm.findClass ("[" ++ (.int : FieldType).toString) = some cA := (hK1.2 9 (cA, .int) (by rw [List.getElem?_append_right (by simp [ab_tys])]; simp [ab_tys])).2
  have e2 : (s.setDrawn d0).vm.findClass ("[" ++ (.int : FieldType).toString) = some (tyc 0) := (hC.2.2.2.2.2.2.2.1.2 0 (tyc 0, .int) (ab_tys_at (by decide))).2
  have e3 : cA = tyc 0 := Option.some.inj (e1.symm.trans e2)
  subst e3
  have h9 := h p l e R s m args below meth c9 D tyc adK adV A H1 locs (cells + 1) (slots + N) (fun j => if j = σ.1 then q else ad j) d0 ls G hC (by rw [ab_w_newA hR]; exact hP1) (by rw [ab_w_newA hR]; exact hD1) hS1 (by rw [ab_nr_lv hlv]; exact hl) (ab_sa_up hsa hn) hd0 h1 h2 (by omega) (by omega) (fun σ2 ad2 q1 q2 q3 q4 => hG σ2 ad2 (Nat.le_trans (Nat.le_succ _) q1) (fun z hz => (q2 z (Nat.lt_succ_of_lt hz)).trans (if_neg (Nat.ne_of_lt hz))) (fun hb => absurd hb (by omega)) q4)
  rw [show (Value.ref σ.1 :: st).map (ab_cv (fun j => if j = σ.1 then q else ad j)) = Value.ref q :: st.map (ab_cv ad) by rw [List.map_cons, ab_nr_map hst]; simp [ab_cv]] at h9
  exact h9
theorem EW_newa_bool {b s' N : Nat} {n : Int32} (hk : Cond.arrayClass .boolean ∈ ab_G) {pc2 : Nat} (hp : pc + 2 = pc2) (hd : decode M.2.1 pc = .ok (.newarray .boolean, 2)) (hneg : ¬ n < 0) (hN : n.toNatClampNeg = N) (hsm : N ≤ 100000) (hn : σ.1 < 1000000) (hR : ab_nR σ) (hlv : ab_nr σ.1 (lv.map (·.2))) (hst : ab_nr σ.1 st) (hb : bc = b + 1) (hs : bs = s' + N) (h : EW M pc2 lv (.ref σ.1 :: st) (ab_newA σ 1 N) d b s' K) : EW M pc lv (.int n :: st) σ d bc bs K := by
  subst hp
  intro p l e R s m args below meth c9 D tyc adK adV A H locs cells slots ad d0 ls G hC hP hD hS hl hsa hd0 h1 h2 h3 h4 hG
  have h8 : componentBytes .boolean ≤ 8 := by decide
  refine va_newa (s := s.setDrawn d0) (atype := .boolean) (ty := .boolean) (N' := N) (a0 := (N, .inl (fun _ => 0))) hC.1 hC.2.1 ((dr_words hC.2.2.2.2.2.1 d0) _ hk) rfl hC.2.2.2.2.2.2.2.1 hP hD hS hC.2.2.2.2.2.2.2.2.2.1 (fun cA => rfl) hneg hN (Nat.le_trans (Nat.mul_le_mul hsm h8) (by decide)) (by omega) (by omega) hd (fun q cA H1 hK1 hP1 hD1 hS1 => ?_)
  have e1 : (s.setDrawn d0).vm.findClass ("[" ++ (.boolean : FieldType).toString) = some cA := (hK1.2 9 (cA, .boolean) (by rw [List.getElem?_append_right (by simp [ab_tys])]; simp [ab_tys])).2
  have e2 : (s.setDrawn d0).vm.findClass ("[" ++ (.boolean : FieldType).toString) = some (tyc 1) := (hC.2.2.2.2.2.2.2.1.2 1 (tyc 1, .boolean) (ab_tys_at (by decide))).2
  have e3 : cA = tyc 1 := Option.some.inj (e1.symm.trans e2)
  subst e3
  have h9 := h p l e R s m args below meth c9 D tyc adK adV A H1 locs (cells + 1) (slots + N) (fun j => if j = σ.1 then q else ad j) d0 ls G hC (by rw [ab_w_newA hR]; exact hP1) (by rw [ab_w_newA hR]; exact hD1) hS1 (by rw [ab_nr_lv hlv]; exact hl) (ab_sa_up hsa hn) hd0 h1 h2 (by omega) (by omega) (fun σ2 ad2 q1 q2 q3 q4 => hG σ2 ad2 (Nat.le_trans (Nat.le_succ _) q1) (fun z hz => (q2 z (Nat.lt_succ_of_lt hz)).trans (if_neg (Nat.ne_of_lt hz))) (fun hb => absurd hb (by omega)) q4)
  rw [show (Value.ref σ.1 :: st).map (ab_cv (fun j => if j = σ.1 then q else ad j)) = Value.ref q :: st.map (ab_cv ad) by rw [List.map_cons, ab_nr_map hst]; simp [ab_cv]] at h9
  exact h9
theorem EW_newa_byte {b s' N : Nat} {n : Int32} (hk : Cond.arrayClass .byte ∈ ab_G) {pc2 : Nat} (hp : pc + 2 = pc2) (hd : decode M.2.1 pc = .ok (.newarray .byte, 2)) (hneg : ¬ n < 0) (hN : n.toNatClampNeg = N) (hsm : N ≤ 100000) (hn : σ.1 < 1000000) (hR : ab_nR σ) (hlv : ab_nr σ.1 (lv.map (·.2))) (hst : ab_nr σ.1 st) (hb : bc = b + 1) (hs : bs = s' + N) (h : EW M pc2 lv (.ref σ.1 :: st) (ab_newA σ 2 N) d b s' K) : EW M pc lv (.int n :: st) σ d bc bs K := by
  subst hp
  intro p l e R s m args below meth c9 D tyc adK adV A H locs cells slots ad d0 ls G hC hP hD hS hl hsa hd0 h1 h2 h3 h4 hG
  have h8 : componentBytes .byte ≤ 8 := by decide
  refine va_newa (s := s.setDrawn d0) (atype := .byte) (ty := .byte) (N' := N) (a0 := (N, .inl (fun _ => 0))) hC.1 hC.2.1 ((dr_words hC.2.2.2.2.2.1 d0) _ hk) rfl hC.2.2.2.2.2.2.2.1 hP hD hS hC.2.2.2.2.2.2.2.2.2.1 (fun cA => rfl) hneg hN (Nat.le_trans (Nat.mul_le_mul hsm h8) (by decide)) (by omega) (by omega) hd (fun q cA H1 hK1 hP1 hD1 hS1 => ?_)
  have e1 : (s.setDrawn d0).vm.findClass ("[" ++ (.byte : FieldType).toString) = some cA := (hK1.2 9 (cA, .byte) (by rw [List.getElem?_append_right (by simp [ab_tys])]; simp [ab_tys])).2
  have e2 : (s.setDrawn d0).vm.findClass ("[" ++ (.byte : FieldType).toString) = some (tyc 2) := (hC.2.2.2.2.2.2.2.1.2 2 (tyc 2, .byte) (ab_tys_at (by decide))).2
  have e3 : cA = tyc 2 := Option.some.inj (e1.symm.trans e2)
  subst e3
  have h9 := h p l e R s m args below meth c9 D tyc adK adV A H1 locs (cells + 1) (slots + N) (fun j => if j = σ.1 then q else ad j) d0 ls G hC (by rw [ab_w_newA hR]; exact hP1) (by rw [ab_w_newA hR]; exact hD1) hS1 (by rw [ab_nr_lv hlv]; exact hl) (ab_sa_up hsa hn) hd0 h1 h2 (by omega) (by omega) (fun σ2 ad2 q1 q2 q3 q4 => hG σ2 ad2 (Nat.le_trans (Nat.le_succ _) q1) (fun z hz => (q2 z (Nat.lt_succ_of_lt hz)).trans (if_neg (Nat.ne_of_lt hz))) (fun hb => absurd hb (by omega)) q4)
  rw [show (Value.ref σ.1 :: st).map (ab_cv (fun j => if j = σ.1 then q else ad j)) = Value.ref q :: st.map (ab_cv ad) by rw [List.map_cons, ab_nr_map hst]; simp [ab_cv]] at h9
  exact h9
theorem EW_newa_long {b s' N : Nat} {n : Int32} (hk : Cond.arrayClass .long ∈ ab_G) {pc2 : Nat} (hp : pc + 2 = pc2) (hd : decode M.2.1 pc = .ok (.newarray .long, 2)) (hneg : ¬ n < 0) (hN : n.toNatClampNeg = N) (hsm : N ≤ 100000) (hn : σ.1 < 1000000) (hR : ab_nR σ) (hlv : ab_nr σ.1 (lv.map (·.2))) (hst : ab_nr σ.1 st) (hb : bc = b + 1) (hs : bs = s' + N) (h : EW M pc2 lv (.ref σ.1 :: st) (ab_newA σ 3 N) d b s' K) : EW M pc lv (.int n :: st) σ d bc bs K := by
  subst hp
  intro p l e R s m args below meth c9 D tyc adK adV A H locs cells slots ad d0 ls G hC hP hD hS hl hsa hd0 h1 h2 h3 h4 hG
  have h8 : componentBytes .long ≤ 8 := by decide
  refine va_newa (s := s.setDrawn d0) (atype := .long) (ty := .long) (N' := N) (a0 := (N, .inr (.inl (fun _ => 0)))) hC.1 hC.2.1 ((dr_words hC.2.2.2.2.2.1 d0) _ hk) rfl hC.2.2.2.2.2.2.2.1 hP hD hS hC.2.2.2.2.2.2.2.2.2.1 (fun cA => rfl) hneg hN (Nat.le_trans (Nat.mul_le_mul hsm h8) (by decide)) (by omega) (by omega) hd (fun q cA H1 hK1 hP1 hD1 hS1 => ?_)
  have e1 : (s.setDrawn d0).vm.findClass ("[" ++ (.long : FieldType).toString) = some cA := (hK1.2 9 (cA, .long) (by rw [List.getElem?_append_right (by simp [ab_tys])]; simp [ab_tys])).2
  have e2 : (s.setDrawn d0).vm.findClass ("[" ++ (.long : FieldType).toString) = some (tyc 3) := (hC.2.2.2.2.2.2.2.1.2 3 (tyc 3, .long) (ab_tys_at (by decide))).2
  have e3 : cA = tyc 3 := Option.some.inj (e1.symm.trans e2)
  subst e3
  have h9 := h p l e R s m args below meth c9 D tyc adK adV A H1 locs (cells + 1) (slots + N) (fun j => if j = σ.1 then q else ad j) d0 ls G hC (by rw [ab_w_newA hR]; exact hP1) (by rw [ab_w_newA hR]; exact hD1) hS1 (by rw [ab_nr_lv hlv]; exact hl) (ab_sa_up hsa hn) hd0 h1 h2 (by omega) (by omega) (fun σ2 ad2 q1 q2 q3 q4 => hG σ2 ad2 (Nat.le_trans (Nat.le_succ _) q1) (fun z hz => (q2 z (Nat.lt_succ_of_lt hz)).trans (if_neg (Nat.ne_of_lt hz))) (fun hb => absurd hb (by omega)) q4)
  rw [show (Value.ref σ.1 :: st).map (ab_cv (fun j => if j = σ.1 then q else ad j)) = Value.ref q :: st.map (ab_cv ad) by rw [List.map_cons, ab_nr_map hst]; simp [ab_cv]] at h9
  exact h9
theorem EW_newa_dbl {b s' N : Nat} {n : Int32} (hk : Cond.arrayClass .double ∈ ab_G) {pc2 : Nat} (hp : pc + 2 = pc2) (hd : decode M.2.1 pc = .ok (.newarray .double, 2)) (hneg : ¬ n < 0) (hN : n.toNatClampNeg = N) (hsm : N ≤ 100000) (hn : σ.1 < 1000000) (hR : ab_nR σ) (hlv : ab_nr σ.1 (lv.map (·.2))) (hst : ab_nr σ.1 st) (hb : bc = b + 1) (hs : bs = s' + N) (h : EW M pc2 lv (.ref σ.1 :: st) (ab_newA σ 4 N) d b s' K) : EW M pc lv (.int n :: st) σ d bc bs K := by
  subst hp
  intro p l e R s m args below meth c9 D tyc adK adV A H locs cells slots ad d0 ls G hC hP hD hS hl hsa hd0 h1 h2 h3 h4 hG
  have h8 : componentBytes .double ≤ 8 := by decide
  refine va_newa (s := s.setDrawn d0) (atype := .double) (ty := .double) (N' := N) (a0 := (N, .inr (.inr (.inr (.inl (fun _ => 0)))))) hC.1 hC.2.1 ((dr_words hC.2.2.2.2.2.1 d0) _ hk) rfl hC.2.2.2.2.2.2.2.1 hP hD hS hC.2.2.2.2.2.2.2.2.2.1 (fun cA => rfl) hneg hN (Nat.le_trans (Nat.mul_le_mul hsm h8) (by decide)) (by omega) (by omega) hd (fun q cA H1 hK1 hP1 hD1 hS1 => ?_)
  have e1 : (s.setDrawn d0).vm.findClass ("[" ++ (.double : FieldType).toString) = some cA := (hK1.2 9 (cA, .double) (by rw [List.getElem?_append_right (by simp [ab_tys])]; simp [ab_tys])).2
  have e2 : (s.setDrawn d0).vm.findClass ("[" ++ (.double : FieldType).toString) = some (tyc 4) := (hC.2.2.2.2.2.2.2.1.2 4 (tyc 4, .double) (ab_tys_at (by decide))).2
  have e3 : cA = tyc 4 := Option.some.inj (e1.symm.trans e2)
  subst e3
  have h9 := h p l e R s m args below meth c9 D tyc adK adV A H1 locs (cells + 1) (slots + N) (fun j => if j = σ.1 then q else ad j) d0 ls G hC (by rw [ab_w_newA hR]; exact hP1) (by rw [ab_w_newA hR]; exact hD1) hS1 (by rw [ab_nr_lv hlv]; exact hl) (ab_sa_up hsa hn) hd0 h1 h2 (by omega) (by omega) (fun σ2 ad2 q1 q2 q3 q4 => hG σ2 ad2 (Nat.le_trans (Nat.le_succ _) q1) (fun z hz => (q2 z (Nat.lt_succ_of_lt hz)).trans (if_neg (Nat.ne_of_lt hz))) (fun hb => absurd hb (by omega)) q4)
  rw [show (Value.ref σ.1 :: st).map (ab_cv (fun j => if j = σ.1 then q else ad j)) = Value.ref q :: st.map (ab_cv ad) by rw [List.map_cons, ab_nr_map hst]; simp [ab_cv]] at h9
  exact h9
theorem EW_anew5 {idx b s' N : Nat} {n : Int32} (hk : Cond.classLink M.1.cls idx "CityBrigade$House" ∈ ab_G) {pc2 : Nat} (hp : pc + 3 = pc2) (hd : decode M.2.1 pc = .ok (.anewarray idx, 3)) (hneg : ¬ n < 0) (hN : n.toNatClampNeg = N) (hsm : N ≤ 100000) (hn : σ.1 < 1000000) (hR : ab_nR σ) (hlv : ab_nr σ.1 (lv.map (·.2))) (hst : ab_nr σ.1 st) (hb : bc = b + 1) (hs : bs = s' + N) (hAO : ∀ (s : State) (a : Array Value), (∀ w ∈ ab_G, w.before a s = true) → va_AO "CityBrigade$House" s) (h : EW M pc2 lv (.ref σ.1 :: st) (ab_newA σ 5 N) d b s' K) : EW M pc lv (.int n :: st) σ d bc bs K := by
  subst hp
  intro p l e R s m args below meth c9 D tyc adK adV A H locs cells slots ad d0 ls G hC hP hD hS hl hsa hd0 h1 h2 h3 h4 hG
  refine va_newq (s := s.setDrawn d0) hC.1 hC.2.1 hC.2.2.2.2.1 ((dr_words hC.2.2.2.2.2.1 d0) _ hk) (hAO _ _ (dr_words hC.2.2.2.2.2.1 d0)) hC.2.2.2.2.2.2.2.1 hP hD hS hC.2.2.2.2.2.2.2.2.2.1 hneg hN (by omega) (by omega) (by omega) hd (fun q cA H1 hK1 hP1 hD1 hS1 => ?_)
  have e1 : (s.setDrawn d0).vm.findClass ("[" ++ (FieldType.object "CityBrigade$House").toString) = some cA := by
    obtain ⟨_, _, _, _, _, h4⟩ := (hK1.2 9 (cA, .object "CityBrigade$House") (by rw [List.getElem?_append_right (by simp [ab_tys])]; simp [ab_tys])).2
    exact h4
  have e2 : (s.setDrawn d0).vm.findClass ("[" ++ (FieldType.object "CityBrigade$House").toString) = some (tyc 5) := by
    obtain ⟨_, _, _, _, _, h4⟩ := (hC.2.2.2.2.2.2.2.1.2 5 (tyc 5, .object "CityBrigade$House") (ab_tys_at (by decide))).2
    exact h4
  have e3 : cA = tyc 5 := Option.some.inj (e1.symm.trans e2)
  subst e3
  have h9 := h p l e R s m args below meth c9 D tyc adK adV A H1 locs (cells + 1) (slots + N) (fun j => if j = σ.1 then q else ad j) d0 ls G hC (by rw [ab_w_newA hR]; exact hP1) (by rw [ab_w_newA hR]; exact hD1) hS1 (by rw [ab_nr_lv hlv]; exact hl) (ab_sa_up hsa hn) hd0 h1 h2 (by omega) (by omega) (fun σ2 ad2 q1 q2 q3 q4 => hG σ2 ad2 (Nat.le_trans (Nat.le_succ _) q1) (fun z hz => (q2 z (Nat.lt_succ_of_lt hz)).trans (if_neg (Nat.ne_of_lt hz))) (fun hb => absurd hb (by omega)) q4)
  rw [show (Value.ref σ.1 :: st).map (ab_cv (fun j => if j = σ.1 then q else ad j)) = Value.ref q :: st.map (ab_cv ad) by rw [List.map_cons, ab_nr_map hst]; simp [ab_cv]] at h9
  exact h9
theorem EW_aast5 {c n v : Nat} {i : Int32} {pc2 : Nat} (hp : pc + 1 = pc2) (hd : decode M.2.1 pc = .ok (.aastore, 1)) (hc : c < σ.1) (hs : σ.2.1 c = .inr (5, n)) (hin : vp_in i n) (hv : v < σ.1) (hvs : σ.2.1 v = .inl 4) (h : EW M pc2 lv st (ab_ur σ c i.toNatClampNeg (some v)) d bc bs K) : EW M pc lv (.ref v :: .int i :: .ref c :: st) σ d bc bs K := by
  subst hp
  intro p l e R s m args below meth c9 D tyc adK adV A H locs cells slots ad d0 ls G hC hP hD hS hl hsa hd0 h1 h2 h3 h4 hG
  refine va_astq (s := s.setDrawn d0) (r := (ab_RX 4, ab_TX 4, ab_N 4)) hC.1 hC.2.1 hC.2.2.2.2.2.2.2.1 hP hD hS c 5 v 4 (by rw [ab_w_at hc, ab_e_a hs]; rfl) (ab_tys_at (by decide)) (by rw [ab_w_at hv, ab_e_o hvs]) (ab_cl_at (by decide)) hin hd (fun H locs hP hD hS => ?_)
  have e9 : (ab_w tyc ad σ).set c (ad c, .inl (tyc 5, n, .inr (.inr (.inr (.inr (va_up (fun j => (σ.2.2.2.2.2 c j).map ad) i.toNatClampNeg (some (ad v)))))))) = ab_w tyc ad (ab_ur σ c i.toNatClampNeg (some v)) := by
    refine ab_w_set rfl ?_ (fun j hj => ?_)
    · rw [ab_e_a (show (ab_ur σ c i.toNatClampNeg (some v)).2.1 c = .inr (5, n) from hs)]
      simp only [ab_a, ab_ur]
      refine congrArg (fun f => Sum.inl (tyc 5, n, Sum.inr (Sum.inr (Sum.inr (Sum.inr f))))) (funext fun j => ?_)
      by_cases hj : j = i.toNatClampNeg
      · subst hj
        simp [va_up]
      · simp [va_up, hj]
    · show (match σ.2.1 j with | .inl ci => (.inr (ci, ab_fs ad (ab_ur σ c i.toNatClampNeg (some v)) j ci) : va_E) | .inr q => .inl (tyc q.1, q.2, ab_a ad (ab_ur σ c i.toNatClampNeg (some v)) j q.1)) = ab_e tyc ad σ j
      unfold ab_e
      cases σ.2.1 j with
      | inl x => simp [ab_fs, ab_ur, hj]; intro a ha; simp [ab_f, hj]
      | inr q => simp [ab_a, ab_ur, hj]
  rw [e9] at hP hD
  exact (h p l e R s m args below meth c9 D tyc adK adV A H locs cells slots ad d0 ls G hC hP hD hS hl hsa hd0 h1 h2 h3 h4 hG)
theorem EW_anew6 {idx b s' N : Nat} {n : Int32} (hk : Cond.classLink M.1.cls idx "CityBrigade$Crew" ∈ ab_G) {pc2 : Nat} (hp : pc + 3 = pc2) (hd : decode M.2.1 pc = .ok (.anewarray idx, 3)) (hneg : ¬ n < 0) (hN : n.toNatClampNeg = N) (hsm : N ≤ 100000) (hn : σ.1 < 1000000) (hR : ab_nR σ) (hlv : ab_nr σ.1 (lv.map (·.2))) (hst : ab_nr σ.1 st) (hb : bc = b + 1) (hs : bs = s' + N) (hAO : ∀ (s : State) (a : Array Value), (∀ w ∈ ab_G, w.before a s = true) → va_AO "CityBrigade$Crew" s) (h : EW M pc2 lv (.ref σ.1 :: st) (ab_newA σ 6 N) d b s' K) : EW M pc lv (.int n :: st) σ d bc bs K := by
  subst hp
  intro p l e R s m args below meth c9 D tyc adK adV A H locs cells slots ad d0 ls G hC hP hD hS hl hsa hd0 h1 h2 h3 h4 hG
  refine va_newq (s := s.setDrawn d0) hC.1 hC.2.1 hC.2.2.2.2.1 ((dr_words hC.2.2.2.2.2.1 d0) _ hk) (hAO _ _ (dr_words hC.2.2.2.2.2.1 d0)) hC.2.2.2.2.2.2.2.1 hP hD hS hC.2.2.2.2.2.2.2.2.2.1 hneg hN (by omega) (by omega) (by omega) hd (fun q cA H1 hK1 hP1 hD1 hS1 => ?_)
  have e1 : (s.setDrawn d0).vm.findClass ("[" ++ (FieldType.object "CityBrigade$Crew").toString) = some cA := by
    obtain ⟨_, _, _, _, _, h4⟩ := (hK1.2 9 (cA, .object "CityBrigade$Crew") (by rw [List.getElem?_append_right (by simp [ab_tys])]; simp [ab_tys])).2
    exact h4
  have e2 : (s.setDrawn d0).vm.findClass ("[" ++ (FieldType.object "CityBrigade$Crew").toString) = some (tyc 6) := by
    obtain ⟨_, _, _, _, _, h4⟩ := (hC.2.2.2.2.2.2.2.1.2 6 (tyc 6, .object "CityBrigade$Crew") (ab_tys_at (by decide))).2
    exact h4
  have e3 : cA = tyc 6 := Option.some.inj (e1.symm.trans e2)
  subst e3
  have h9 := h p l e R s m args below meth c9 D tyc adK adV A H1 locs (cells + 1) (slots + N) (fun j => if j = σ.1 then q else ad j) d0 ls G hC (by rw [ab_w_newA hR]; exact hP1) (by rw [ab_w_newA hR]; exact hD1) hS1 (by rw [ab_nr_lv hlv]; exact hl) (ab_sa_up hsa hn) hd0 h1 h2 (by omega) (by omega) (fun σ2 ad2 q1 q2 q3 q4 => hG σ2 ad2 (Nat.le_trans (Nat.le_succ _) q1) (fun z hz => (q2 z (Nat.lt_succ_of_lt hz)).trans (if_neg (Nat.ne_of_lt hz))) (fun hb => absurd hb (by omega)) q4)
  rw [show (Value.ref σ.1 :: st).map (ab_cv (fun j => if j = σ.1 then q else ad j)) = Value.ref q :: st.map (ab_cv ad) by rw [List.map_cons, ab_nr_map hst]; simp [ab_cv]] at h9
  exact h9
theorem EW_aast6 {c n v : Nat} {i : Int32} {pc2 : Nat} (hp : pc + 1 = pc2) (hd : decode M.2.1 pc = .ok (.aastore, 1)) (hc : c < σ.1) (hs : σ.2.1 c = .inr (6, n)) (hin : vp_in i n) (hv : v < σ.1) (hvs : σ.2.1 v = .inl 2) (h : EW M pc2 lv st (ab_ur σ c i.toNatClampNeg (some v)) d bc bs K) : EW M pc lv (.ref v :: .int i :: .ref c :: st) σ d bc bs K := by
  subst hp
  intro p l e R s m args below meth c9 D tyc adK adV A H locs cells slots ad d0 ls G hC hP hD hS hl hsa hd0 h1 h2 h3 h4 hG
  refine va_astq (s := s.setDrawn d0) (r := (ab_RX 2, ab_TX 2, ab_N 2)) hC.1 hC.2.1 hC.2.2.2.2.2.2.2.1 hP hD hS c 6 v 2 (by rw [ab_w_at hc, ab_e_a hs]; rfl) (ab_tys_at (by decide)) (by rw [ab_w_at hv, ab_e_o hvs]) (ab_cl_at (by decide)) hin hd (fun H locs hP hD hS => ?_)
  have e9 : (ab_w tyc ad σ).set c (ad c, .inl (tyc 6, n, .inr (.inr (.inr (.inr (va_up (fun j => (σ.2.2.2.2.2 c j).map ad) i.toNatClampNeg (some (ad v)))))))) = ab_w tyc ad (ab_ur σ c i.toNatClampNeg (some v)) := by
    refine ab_w_set rfl ?_ (fun j hj => ?_)
    · rw [ab_e_a (show (ab_ur σ c i.toNatClampNeg (some v)).2.1 c = .inr (6, n) from hs)]
      simp only [ab_a, ab_ur]
      refine congrArg (fun f => Sum.inl (tyc 6, n, Sum.inr (Sum.inr (Sum.inr (Sum.inr f))))) (funext fun j => ?_)
      by_cases hj : j = i.toNatClampNeg
      · subst hj
        simp [va_up]
      · simp [va_up, hj]
    · show (match σ.2.1 j with | .inl ci => (.inr (ci, ab_fs ad (ab_ur σ c i.toNatClampNeg (some v)) j ci) : va_E) | .inr q => .inl (tyc q.1, q.2, ab_a ad (ab_ur σ c i.toNatClampNeg (some v)) j q.1)) = ab_e tyc ad σ j
      unfold ab_e
      cases σ.2.1 j with
      | inl x => simp [ab_fs, ab_ur, hj]; intro a ha; simp [ab_f, hj]
      | inr q => simp [ab_a, ab_ur, hj]
  rw [e9] at hP hD
  exact (h p l e R s m args below meth c9 D tyc adK adV A H locs cells slots ad d0 ls G hC hP hD hS hl hsa hd0 h1 h2 h3 h4 hG)
theorem EW_anew7 {idx b s' N : Nat} {n : Int32} (hk : Cond.classLink M.1.cls idx "CityBrigade$Call" ∈ ab_G) {pc2 : Nat} (hp : pc + 3 = pc2) (hd : decode M.2.1 pc = .ok (.anewarray idx, 3)) (hneg : ¬ n < 0) (hN : n.toNatClampNeg = N) (hsm : N ≤ 100000) (hn : σ.1 < 1000000) (hR : ab_nR σ) (hlv : ab_nr σ.1 (lv.map (·.2))) (hst : ab_nr σ.1 st) (hb : bc = b + 1) (hs : bs = s' + N) (hAO : ∀ (s : State) (a : Array Value), (∀ w ∈ ab_G, w.before a s = true) → va_AO "CityBrigade$Call" s) (h : EW M pc2 lv (.ref σ.1 :: st) (ab_newA σ 7 N) d b s' K) : EW M pc lv (.int n :: st) σ d bc bs K := by
  subst hp
  intro p l e R s m args below meth c9 D tyc adK adV A H locs cells slots ad d0 ls G hC hP hD hS hl hsa hd0 h1 h2 h3 h4 hG
  refine va_newq (s := s.setDrawn d0) hC.1 hC.2.1 hC.2.2.2.2.1 ((dr_words hC.2.2.2.2.2.1 d0) _ hk) (hAO _ _ (dr_words hC.2.2.2.2.2.1 d0)) hC.2.2.2.2.2.2.2.1 hP hD hS hC.2.2.2.2.2.2.2.2.2.1 hneg hN (by omega) (by omega) (by omega) hd (fun q cA H1 hK1 hP1 hD1 hS1 => ?_)
  have e1 : (s.setDrawn d0).vm.findClass ("[" ++ (FieldType.object "CityBrigade$Call").toString) = some cA := by
    obtain ⟨_, _, _, _, _, h4⟩ := (hK1.2 9 (cA, .object "CityBrigade$Call") (by rw [List.getElem?_append_right (by simp [ab_tys])]; simp [ab_tys])).2
    exact h4
  have e2 : (s.setDrawn d0).vm.findClass ("[" ++ (FieldType.object "CityBrigade$Call").toString) = some (tyc 7) := by
    obtain ⟨_, _, _, _, _, h4⟩ := (hC.2.2.2.2.2.2.2.1.2 7 (tyc 7, .object "CityBrigade$Call") (ab_tys_at (by decide))).2
    exact h4
  have e3 : cA = tyc 7 := Option.some.inj (e1.symm.trans e2)
  subst e3
  have h9 := h p l e R s m args below meth c9 D tyc adK adV A H1 locs (cells + 1) (slots + N) (fun j => if j = σ.1 then q else ad j) d0 ls G hC (by rw [ab_w_newA hR]; exact hP1) (by rw [ab_w_newA hR]; exact hD1) hS1 (by rw [ab_nr_lv hlv]; exact hl) (ab_sa_up hsa hn) hd0 h1 h2 (by omega) (by omega) (fun σ2 ad2 q1 q2 q3 q4 => hG σ2 ad2 (Nat.le_trans (Nat.le_succ _) q1) (fun z hz => (q2 z (Nat.lt_succ_of_lt hz)).trans (if_neg (Nat.ne_of_lt hz))) (fun hb => absurd hb (by omega)) q4)
  rw [show (Value.ref σ.1 :: st).map (ab_cv (fun j => if j = σ.1 then q else ad j)) = Value.ref q :: st.map (ab_cv ad) by rw [List.map_cons, ab_nr_map hst]; simp [ab_cv]] at h9
  exact h9
theorem EW_aast7 {c n v : Nat} {i : Int32} {pc2 : Nat} (hp : pc + 1 = pc2) (hd : decode M.2.1 pc = .ok (.aastore, 1)) (hc : c < σ.1) (hs : σ.2.1 c = .inr (7, n)) (hin : vp_in i n) (hv : v < σ.1) (hvs : σ.2.1 v = .inl 1) (h : EW M pc2 lv st (ab_ur σ c i.toNatClampNeg (some v)) d bc bs K) : EW M pc lv (.ref v :: .int i :: .ref c :: st) σ d bc bs K := by
  subst hp
  intro p l e R s m args below meth c9 D tyc adK adV A H locs cells slots ad d0 ls G hC hP hD hS hl hsa hd0 h1 h2 h3 h4 hG
  refine va_astq (s := s.setDrawn d0) (r := (ab_RX 1, ab_TX 1, ab_N 1)) hC.1 hC.2.1 hC.2.2.2.2.2.2.2.1 hP hD hS c 7 v 1 (by rw [ab_w_at hc, ab_e_a hs]; rfl) (ab_tys_at (by decide)) (by rw [ab_w_at hv, ab_e_o hvs]) (ab_cl_at (by decide)) hin hd (fun H locs hP hD hS => ?_)
  have e9 : (ab_w tyc ad σ).set c (ad c, .inl (tyc 7, n, .inr (.inr (.inr (.inr (va_up (fun j => (σ.2.2.2.2.2 c j).map ad) i.toNatClampNeg (some (ad v)))))))) = ab_w tyc ad (ab_ur σ c i.toNatClampNeg (some v)) := by
    refine ab_w_set rfl ?_ (fun j hj => ?_)
    · rw [ab_e_a (show (ab_ur σ c i.toNatClampNeg (some v)).2.1 c = .inr (7, n) from hs)]
      simp only [ab_a, ab_ur]
      refine congrArg (fun f => Sum.inl (tyc 7, n, Sum.inr (Sum.inr (Sum.inr (Sum.inr f))))) (funext fun j => ?_)
      by_cases hj : j = i.toNatClampNeg
      · subst hj
        simp [va_up]
      · simp [va_up, hj]
    · show (match σ.2.1 j with | .inl ci => (.inr (ci, ab_fs ad (ab_ur σ c i.toNatClampNeg (some v)) j ci) : va_E) | .inr q => .inl (tyc q.1, q.2, ab_a ad (ab_ur σ c i.toNatClampNeg (some v)) j q.1)) = ab_e tyc ad σ j
      unfold ab_e
      cases σ.2.1 j with
      | inl x => simp [ab_fs, ab_ur, hj]; intro a ha; simp [ab_f, hj]
      | inr q => simp [ab_a, ab_ur, hj]
  rw [e9] at hP hD
  exact (h p l e R s m args below meth c9 D tyc adK adV A H locs cells slots ad d0 ls G hC hP hD hS hl hsa hd0 h1 h2 h3 h4 hG)
theorem EW_anew8 {idx b s' N : Nat} {n : Int32} (hk : Cond.classLink M.1.cls idx "CityBrigade$Text" ∈ ab_G) {pc2 : Nat} (hp : pc + 3 = pc2) (hd : decode M.2.1 pc = .ok (.anewarray idx, 3)) (hneg : ¬ n < 0) (hN : n.toNatClampNeg = N) (hsm : N ≤ 100000) (hn : σ.1 < 1000000) (hR : ab_nR σ) (hlv : ab_nr σ.1 (lv.map (·.2))) (hst : ab_nr σ.1 st) (hb : bc = b + 1) (hs : bs = s' + N) (hAO : ∀ (s : State) (a : Array Value), (∀ w ∈ ab_G, w.before a s = true) → va_AO "CityBrigade$Text" s) (h : EW M pc2 lv (.ref σ.1 :: st) (ab_newA σ 8 N) d b s' K) : EW M pc lv (.int n :: st) σ d bc bs K := by
  subst hp
  intro p l e R s m args below meth c9 D tyc adK adV A H locs cells slots ad d0 ls G hC hP hD hS hl hsa hd0 h1 h2 h3 h4 hG
  refine va_newq (s := s.setDrawn d0) hC.1 hC.2.1 hC.2.2.2.2.1 ((dr_words hC.2.2.2.2.2.1 d0) _ hk) (hAO _ _ (dr_words hC.2.2.2.2.2.1 d0)) hC.2.2.2.2.2.2.2.1 hP hD hS hC.2.2.2.2.2.2.2.2.2.1 hneg hN (by omega) (by omega) (by omega) hd (fun q cA H1 hK1 hP1 hD1 hS1 => ?_)
  have e1 : (s.setDrawn d0).vm.findClass ("[" ++ (FieldType.object "CityBrigade$Text").toString) = some cA := by
    obtain ⟨_, _, _, _, _, h4⟩ := (hK1.2 9 (cA, .object "CityBrigade$Text") (by rw [List.getElem?_append_right (by simp [ab_tys])]; simp [ab_tys])).2
    exact h4
  have e2 : (s.setDrawn d0).vm.findClass ("[" ++ (FieldType.object "CityBrigade$Text").toString) = some (tyc 8) := by
    obtain ⟨_, _, _, _, _, h4⟩ := (hC.2.2.2.2.2.2.2.1.2 8 (tyc 8, .object "CityBrigade$Text") (ab_tys_at (by decide))).2
    exact h4
  have e3 : cA = tyc 8 := Option.some.inj (e1.symm.trans e2)
  subst e3
  have h9 := h p l e R s m args below meth c9 D tyc adK adV A H1 locs (cells + 1) (slots + N) (fun j => if j = σ.1 then q else ad j) d0 ls G hC (by rw [ab_w_newA hR]; exact hP1) (by rw [ab_w_newA hR]; exact hD1) hS1 (by rw [ab_nr_lv hlv]; exact hl) (ab_sa_up hsa hn) hd0 h1 h2 (by omega) (by omega) (fun σ2 ad2 q1 q2 q3 q4 => hG σ2 ad2 (Nat.le_trans (Nat.le_succ _) q1) (fun z hz => (q2 z (Nat.lt_succ_of_lt hz)).trans (if_neg (Nat.ne_of_lt hz))) (fun hb => absurd hb (by omega)) q4)
  rw [show (Value.ref σ.1 :: st).map (ab_cv (fun j => if j = σ.1 then q else ad j)) = Value.ref q :: st.map (ab_cv ad) by rw [List.map_cons, ab_nr_map hst]; simp [ab_cv]] at h9
  exact h9
theorem EW_aast8 {c n v : Nat} {i : Int32} {pc2 : Nat} (hp : pc + 1 = pc2) (hd : decode M.2.1 pc = .ok (.aastore, 1)) (hc : c < σ.1) (hs : σ.2.1 c = .inr (8, n)) (hin : vp_in i n) (hv : v < σ.1) (hvs : σ.2.1 v = .inl 9) (h : EW M pc2 lv st (ab_ur σ c i.toNatClampNeg (some v)) d bc bs K) : EW M pc lv (.ref v :: .int i :: .ref c :: st) σ d bc bs K := by
  subst hp
  intro p l e R s m args below meth c9 D tyc adK adV A H locs cells slots ad d0 ls G hC hP hD hS hl hsa hd0 h1 h2 h3 h4 hG
  refine va_astq (s := s.setDrawn d0) (r := (ab_RX 9, ab_TX 9, ab_N 9)) hC.1 hC.2.1 hC.2.2.2.2.2.2.2.1 hP hD hS c 8 v 9 (by rw [ab_w_at hc, ab_e_a hs]; rfl) (ab_tys_at (by decide)) (by rw [ab_w_at hv, ab_e_o hvs]) (ab_cl_at (by decide)) hin hd (fun H locs hP hD hS => ?_)
  have e9 : (ab_w tyc ad σ).set c (ad c, .inl (tyc 8, n, .inr (.inr (.inr (.inr (va_up (fun j => (σ.2.2.2.2.2 c j).map ad) i.toNatClampNeg (some (ad v)))))))) = ab_w tyc ad (ab_ur σ c i.toNatClampNeg (some v)) := by
    refine ab_w_set rfl ?_ (fun j hj => ?_)
    · rw [ab_e_a (show (ab_ur σ c i.toNatClampNeg (some v)).2.1 c = .inr (8, n) from hs)]
      simp only [ab_a, ab_ur]
      refine congrArg (fun f => Sum.inl (tyc 8, n, Sum.inr (Sum.inr (Sum.inr (Sum.inr f))))) (funext fun j => ?_)
      by_cases hj : j = i.toNatClampNeg
      · subst hj
        simp [va_up]
      · simp [va_up, hj]
    · show (match σ.2.1 j with | .inl ci => (.inr (ci, ab_fs ad (ab_ur σ c i.toNatClampNeg (some v)) j ci) : va_E) | .inr q => .inl (tyc q.1, q.2, ab_a ad (ab_ur σ c i.toNatClampNeg (some v)) j q.1)) = ab_e tyc ad σ j
      unfold ab_e
      cases σ.2.1 j with
      | inl x => simp [ab_fs, ab_ur, hj]; intro a ha; simp [ab_f, hj]
      | inr q => simp [ab_a, ab_ur, hj]
  rw [e9] at hP hD
  exact (h p l e R s m args below meth c9 D tyc adK adV A H locs cells slots ad d0 ls G hC hP hD hS hl hsa hd0 h1 h2 h3 h4 hG)
end EWN
