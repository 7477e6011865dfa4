def isSB (t : Nat) : Prop := ∃ i, i < 5 ∧ t = 2000000 + i
theorem isS.b {t : Nat} (h : isS t) : isSB (t + 1000000) := by
  obtain ⟨i, hi, rfl⟩ := h
  exact ⟨i, hi, by omega⟩
def slen (t : Nat) : Nat := ab_slen.getD (t - 2000000) 0
def sbyte (t k : Nat) : Int32 := (ab_sbyt.getD (t - 2000000) []).getD k 0
def lmin (x y : Int64) : Int64 := if y < x then y else x
def lmax (x y : Int64) : Int64 := if y < x then x else y
/-- a whole row is put -/
def wrA (x : ab_X) (c : Nat) (f : Nat → Int32) : ab_X := ((fun j => if j = c then f else x.1 j), x.2)
def ab_uA (σ : ab_St) (c : Nat) (f : Nat → Int32) : ab_St := (σ.1, σ.2.1, (fun j => if j = c then f else σ.2.2.1 j), σ.2.2.2)
theorem ab_uA_a {σ : ab_St} {tyc : Nat → ClassId} {ad : Nat → Nat} {c t n : Nat} {f : Nat → Int32} (hs : σ.2.1 c = .inr (t, n)) (ht : t < 3) : (ab_w tyc ad σ).set c (ad c, .inl (tyc t, n, .inl f)) = ab_w tyc ad (ab_uA σ c f) := by
  refine ab_w_set rfl ?_ (fun j hj => ?_)
  · rw [ab_e_a (show (ab_uA σ c f).2.1 c = .inr (t, n) from hs)]
    simp [ab_a, ht, ab_uA]
  · show (match σ.2.1 j with | .inl ci => (.inr (ci, ab_fs ad (ab_uA σ c f) j ci) : va_E) | .inr q => .inl (tyc q.1, q.2, ab_a ad (ab_uA σ c f) j q.1)) = ab_e tyc ad σ j
    unfold ab_e
    cases σ.2.1 j with
    | inl x => simp [ab_fs, ab_uA, hj]; intro a ha; simp [ab_f, hj]
    | inr q => simp [ab_a, ab_uA, hj]
theorem ab_RFlt (lt mt mk r : Nat) : (fun j => if j = 158 then va_up (RF lt mt mk 158) 3 (some r) else RF lt mt mk j) = RF r mt mk := by
  funext j k
  by_cases hj : j = 158
  · subst hj
    by_cases hk : k = 3
    · subst hk
      simp [va_up, RF]
    · simp [va_up, RF, hk]
  · simp [RF, hj]
theorem ab_RFmt (lt mt mk r : Nat) : (fun j => if j = 246 then va_up (RF lt mt mk 246) 76 (some r) else RF lt mt mk j) = RF lt r mk := by
  funext j k
  by_cases hj : j = 246
  · subst hj
    by_cases hk : k = 76
    · subst hk
      simp [va_up, RF]
    · by_cases hk2 : k = 77
      · subst hk2
        simp [va_up, RF]
      · simp [va_up, RF, hk, hk2]
  · simp [RF, hj]
theorem ab_RFmk (lt mt mk r : Nat) : (fun j => if j = 246 then va_up (RF lt mt mk 246) 77 (some r) else RF lt mt mk j) = RF lt mt r := by
  funext j k
  by_cases hj : j = 246
  · subst hj
    by_cases hk : k = 77
    · subst hk
      simp [va_up, RF]
    · by_cases hk2 : k = 76
      · subst hk2
        simp [va_up, RF]
      · simp [va_up, RF, hk, hk2]
  · simp [RF, hj]
def wlt (x : ab_X) (r : Nat) : ab_X := (x.1, x.2.1, x.2.2.1, r, x.2.2.2.2)
def wmt (x : ab_X) (r : Nat) : ab_X := (x.1, x.2.1, x.2.2.1, x.2.2.2.1, r, x.2.2.2.2.2)
def wmk (x : ab_X) (r : Nat) : ab_X := (x.1, x.2.1, x.2.2.1, x.2.2.2.1, x.2.2.2.2.1, r)
theorem aS_lt (x : ab_X) (r : Nat) : ab_ur (aS x) 158 3 (some r) = aS (wlt x r) := by
  show ((aS x).1, (aS x).2.1, (aS x).2.2.1, (aS x).2.2.2.1, (aS x).2.2.2.2.1, _) = _
  exact congrArg (fun f => ((aS x).1, (aS x).2.1, (aS x).2.2.1, (aS x).2.2.2.1, (aS x).2.2.2.2.1, f)) (ab_RFlt _ _ _ r)
theorem aS_mt (x : ab_X) (r : Nat) : ab_ur (aS x) 246 76 (some r) = aS (wmt x r) := by
  show ((aS x).1, (aS x).2.1, (aS x).2.2.1, (aS x).2.2.2.1, (aS x).2.2.2.2.1, _) = _
  exact congrArg (fun f => ((aS x).1, (aS x).2.1, (aS x).2.2.1, (aS x).2.2.2.1, (aS x).2.2.2.2.1, f)) (ab_RFmt _ _ _ r)
theorem aS_mk (x : ab_X) (r : Nat) : ab_ur (aS x) 246 77 (some r) = aS (wmk x r) := by
  show ((aS x).1, (aS x).2.1, (aS x).2.2.1, (aS x).2.2.2.1, (aS x).2.2.2.2.1, _) = _
  exact congrArg (fun f => ((aS x).1, (aS x).2.1, (aS x).2.2.1, (aS x).2.2.2.1, (aS x).2.2.2.2.1, f)) (ab_RFmk _ _ _ r)
section AWM
variable {M : ab_M} {pc : Nat} {lv : List (Nat × Value)} {st : List Value} {x : ab_X} {d bc bs : Nat} {K : Option Value → ab_St → Prop}
theorem AW_putlt {idx r : Nat} (hL : ab_L M.1.cls idx 8 3) {pc2 : Nat} (hp : pc + 3 = pc2) (hd : decode M.2.1 pc = .ok (.putfield idx, 3)) (h : EW M pc2 lv st (aS (wlt x r)) d bc bs K) : EW M pc lv (.ref r :: .ref 158 :: st) (aS x) d bc bs K := EW_putr rfl rfl (fun _ => rfl) (fun _ => rfl) hL hp hd q158.1 q158.2 (by rw [aS_lt]; exact h)
theorem AW_putmt {idx r : Nat} (hL : ab_L M.1.cls idx 12 76) {pc2 : Nat} (hp : pc + 3 = pc2) (hd : decode M.2.1 pc = .ok (.putfield idx, 3)) (h : EW M pc2 lv st (aS (wmt x r)) d bc bs K) : EW M pc lv (.ref r :: .ref 246 :: st) (aS x) d bc bs K := EW_putr rfl rfl (fun _ => rfl) (fun _ => rfl) hL hp hd q246.1 q246.2 (by rw [aS_mt]; exact h)
theorem AW_putmk {idx r : Nat} (hL : ab_L M.1.cls idx 12 77) {pc2 : Nat} (hp : pc + 3 = pc2) (hd : decode M.2.1 pc = .ok (.putfield idx, 3)) (h : EW M pc2 lv st (aS (wmk x r)) d bc bs K) : EW M pc lv (.ref r :: .ref 246 :: st) (aS x) d bc bs K := EW_putr rfl rfl (fun _ => rfl) (fun _ => rfl) hL hp hd q246.1 q246.2 (by rw [aS_mk]; exact h)
theorem AW_mminl {idx : Nat} {a b : Int64} (hl' : Cond.methodLink M.1.cls idx Lib.MathLoose.min_long.x ∈ ab_G ∧ Cond.static Lib.MathLoose.min_long.x ∈ ab_G ∧ Cond.initialized "java/lang/Math" ∈ ab_G ∧ Cond.code Lib.MathLoose.min_long.x Lib.MathLoose.min_long.code 4 (some .long) ∈ ab_G) {pc2 : Nat} (hp : pc + 3 = pc2) (hd : decode M.2.1 pc = .ok (.invokestatic idx, 3)) (hrm : (st.map fun v => v.category).sum ≤ 8) (hdd : 1 ≤ d) (h : EW M pc2 lv (.long (lmin a b) :: st) (aS x) d bc bs K) : EW M pc lv (.long b :: .long a :: st) (aS x) d bc bs K := by
  subst hp
  intro p l e R s m args below meth c9 D tyc adK adV A H locs cells slots ad d0 ls G hC hP hD hS hl hsa hd0 h1 h2 h3 h4 hG
  have hrm2 : ((st.map (ab_cv ad)).map fun v => v.category).sum ≤ 8 := by
    rw [List.map_map]
    have : ((fun v => v.category) ∘ ab_cv ad) = fun v : Value => v.category := funext fun v => ab_cv_cat ad v
    rw [this]; exact hrm
  exact va_mmin_long (s := s.setDrawn d0) (x := a) (y := b) hC.1 hC.2.1 (hC.2.2.2.1.trans hl.1.symm) hC.2.2.2.2.1 ((dr_words hC.2.2.2.2.2.1 d0) _ hl'.1) ((dr_words hC.2.2.2.2.2.1 d0) _ hl'.2.1) ((dr_words hC.2.2.2.2.2.1 d0) _ hl'.2.2.1) ((dr_words hC.2.2.2.2.2.1 d0) _ hl'.2.2.2) (by omega) (by omega) (by omega) (by omega) hd (h p l e R s m args below meth c9 D tyc adK adV A H locs cells slots ad d0 ls G hC hP hD hS hl hsa hd0 h1 h2 h3 h4 hG)
theorem AW_mmaxl {idx : Nat} {a b : Int64} (hl' : Cond.methodLink M.1.cls idx Lib.MathLoose.max_long.x ∈ ab_G ∧ Cond.static Lib.MathLoose.max_long.x ∈ ab_G ∧ Cond.initialized "java/lang/Math" ∈ ab_G ∧ Cond.code Lib.MathLoose.max_long.x Lib.MathLoose.max_long.code 4 (some .long) ∈ ab_G) {pc2 : Nat} (hp : pc + 3 = pc2) (hd : decode M.2.1 pc = .ok (.invokestatic idx, 3)) (hrm : (st.map fun v => v.category).sum ≤ 8) (hdd : 1 ≤ d) (h : EW M pc2 lv (.long (lmax a b) :: st) (aS x) d bc bs K) : EW M pc lv (.long b :: .long a :: st) (aS x) d bc bs K := by
  subst hp
  intro p l e R s m args below meth c9 D tyc adK adV A H locs cells slots ad d0 ls G hC hP hD hS hl hsa hd0 h1 h2 h3 h4 hG
  have hrm2 : ((st.map (ab_cv ad)).map fun v => v.category).sum ≤ 8 := by
    rw [List.map_map]
    have : ((fun v => v.category) ∘ ab_cv ad) = fun v : Value => v.category := funext fun v => ab_cv_cat ad v
    rw [this]; exact hrm
  exact va_mmax_long (s := s.setDrawn d0) (x := a) (y := b) hC.1 hC.2.1 (hC.2.2.2.1.trans hl.1.symm) hC.2.2.2.2.1 ((dr_words hC.2.2.2.2.2.1 d0) _ hl'.1) ((dr_words hC.2.2.2.2.2.1 d0) _ hl'.2.1) ((dr_words hC.2.2.2.2.2.1 d0) _ hl'.2.2.1) ((dr_words hC.2.2.2.2.2.1 d0) _ hl'.2.2.2) (by omega) (by omega) (by omega) (by omega) hd (h p l e R s m args below meth c9 D tyc adK adV A H locs cells slots ad d0 ls G hC hP hD hS hl hsa hd0 h1 h2 h3 h4 hG)
theorem EW_i2d {a : Int32} {pc2 : Nat} (hp : pc + 1 = pc2) (hd : decode M.2.1 pc = .ok (.i2d, 1)) (h : EW M pc2 lv (.double (FP.i2d a) :: st) (aS x) d bc bs K) : EW M pc lv (.int a :: st) (aS x) d bc bs K := by
  subst hp
  intro p l e R s m args below meth c9 D tyc adK adV A H locs cells slots ad d0 ls G hC hP hD hS hl hsa hd0 h1 h2 h3 h4 hG
  exact lv_i2d hC.1 hC.2.1 hd (h p l e R s m args below meth c9 D tyc adK adV A H locs cells slots ad d0 ls G hC hP hD hS hl hsa hd0 h1 h2 h3 h4 hG)
theorem EW_i2f {a : Int32} {pc2 : Nat} (hp : pc + 1 = pc2) (hd : decode M.2.1 pc = .ok (.i2f, 1)) (h : EW M pc2 lv (.float (FP.i2f a) :: st) (aS x) d bc bs K) : EW M pc lv (.int a :: st) (aS x) d bc bs K := by
  subst hp
  intro p l e R s m args below meth c9 D tyc adK adV A H locs cells slots ad d0 ls G hC hP hD hS hl hsa hd0 h1 h2 h3 h4 hG
  exact lv_i2f hC.1 hC.2.1 hd (h p l e R s m args below meth c9 D tyc adK adV A H locs cells slots ad d0 ls G hC hP hD hS hl hsa hd0 h1 h2 h3 h4 hG)
theorem EW_dcmp {a b : UInt64} {op : CmpOp} {pc2 : Nat} (hp : pc + 1 = pc2) (hd : decode M.2.1 pc = .ok (.dcmp op, 1)) (h : EW M pc2 lv (.int (Op.cmpValue (FP.dcmp a b) op) :: st) (aS x) d bc bs K) : EW M pc lv (.double b :: .double a :: st) (aS x) d bc bs K := by
  subst hp
  intro p l e R s m args below meth c9 D tyc adK adV A H locs cells slots ad d0 ls G hC hP hD hS hl hsa hd0 h1 h2 h3 h4 hG
  exact lv_dcmp hC.1 hC.2.1 hd (h p l e R s m args below meth c9 D tyc adK adV A H locs cells slots ad d0 ls G hC hP hD hS hl hsa hd0 h1 h2 h3 h4 hG)
theorem EW_fdiv_any {a b : UInt32} {pc2 : Nat} (hp : pc + 1 = pc2) (hd : decode M.2.1 pc = .ok (.fdiv, 1)) (h : ∀ r, alike32 r (FP.fdiv a b) = true → EW M pc2 lv (.float r :: st) (aS x) d bc bs K) : EW M pc lv (.float b :: .float a :: st) (aS x) d bc bs K := by
  subst hp
  intro p l e R s m args below meth c9 D tyc adK adV A H locs cells slots ad d0 ls G hC hP hD hS hl hsa hd0 h1 h2 h3 h4 hG
  exact lv_fdiv_any hd0 lw_bits hC.1 hC.2.1 hd (fun r d1 hal hd1 => (h r hal p l e R s m args below meth c9 D tyc adK adV A H locs cells slots ad d1 ls G hC hP hD hS hl hsa hd1 h1 h2 h3 h4 hG))
theorem EW_f2d_any {a : UInt32} {pc2 : Nat} (hp : pc + 1 = pc2) (hd : decode M.2.1 pc = .ok (.f2d, 1)) (h : ∀ r, alike64 r (FP.f2d a) = true → EW M pc2 lv (.double r :: st) (aS x) d bc bs K) : EW M pc lv (.float a :: st) (aS x) d bc bs K := by
  subst hp
  intro p l e R s m args below meth c9 D tyc adK adV A H locs cells slots ad d0 ls G hC hP hD hS hl hsa hd0 h1 h2 h3 h4 hG
  exact lv_f2d_any hd0 lw_bits hC.1 hC.2.1 hd (fun r d1 hal hd1 => (h r hal p l e R s m args below meth c9 D tyc adK adV A H locs cells slots ad d1 ls G hC hP hD hS hl hsa hd1 h1 h2 h3 h4 hG))
theorem EW_dmul_any {a b : UInt64} {pc2 : Nat} (hp : pc + 1 = pc2) (hd : decode M.2.1 pc = .ok (.dmul, 1)) (h : ∀ r, alike64 r (FP.dmul a b) = true → EW M pc2 lv (.double r :: st) (aS x) d bc bs K) : EW M pc lv (.double b :: .double a :: st) (aS x) d bc bs K := by
  subst hp
  intro p l e R s m args below meth c9 D tyc adK adV A H locs cells slots ad d0 ls G hC hP hD hS hl hsa hd0 h1 h2 h3 h4 hG
  exact lv_dmul_any hd0 lw_bits hC.1 hC.2.1 hd (fun r d1 hal hd1 => (h r hal p l e R s m args below meth c9 D tyc adK adV A H locs cells slots ad d1 ls G hC hP hD hS hl hsa hd1 h1 h2 h3 h4 hG))
theorem EW_dadd_any {a b : UInt64} {pc2 : Nat} (hp : pc + 1 = pc2) (hd : decode M.2.1 pc = .ok (.dadd, 1)) (h : ∀ r, alike64 r (FP.dadd a b) = true → EW M pc2 lv (.double r :: st) (aS x) d bc bs K) : EW M pc lv (.double b :: .double a :: st) (aS x) d bc bs K := by
  subst hp
  intro p l e R s m args below meth c9 D tyc adK adV A H locs cells slots ad d0 ls G hC hP hD hS hl hsa hd0 h1 h2 h3 h4 hG
  exact lv_dadd_any hd0 lw_bits hC.1 hC.2.1 hd (fun r d1 hal hd1 => (h r hal p l e R s m args below meth c9 D tyc adK adV A H locs cells slots ad d1 ls G hC hP hD hS hl hsa hd1 h1 h2 h3 h4 hG))
theorem EW_dsub_any {a b : UInt64} {pc2 : Nat} (hp : pc + 1 = pc2) (hd : decode M.2.1 pc = .ok (.dsub, 1)) (h : ∀ r, alike64 r (FP.dsub a b) = true → EW M pc2 lv (.double r :: st) (aS x) d bc bs K) : EW M pc lv (.double b :: .double a :: st) (aS x) d bc bs K := by
  subst hp
  intro p l e R s m args below meth c9 D tyc adK adV A H locs cells slots ad d0 ls G hC hP hD hS hl hsa hd0 h1 h2 h3 h4 hG
  exact lv_dsub_any hd0 lw_bits hC.1 hC.2.1 hd (fun r d1 hal hd1 => (h r hal p l e R s m args below meth c9 D tyc adK adV A H locs cells slots ad d1 ls G hC hP hD hS hl hsa hd1 h1 h2 h3 h4 hG))
theorem EW_ldcf {idx : Nat} {v : UInt32} (hw : Cond.constantFloat M.1.cls idx v ∈ ab_G) {pc2 : Nat} (hp : pc + 2 = pc2) (hd : decode M.2.1 pc = .ok (.ldc idx, 2)) (h : EW M pc2 lv (.float v :: st) (aS x) d bc bs K) : EW M pc lv st (aS x) d bc bs K := by
  subst hp
  intro p l e R s m args below meth c9 D tyc adK adV A H locs cells slots ad d0 ls G hC hP hD hS hl hsa hd0 h1 h2 h3 h4 hG
  exact lv_ldcf hC.1 hC.2.1 hC.2.2.2.2.1 ((dr_words hC.2.2.2.2.2.1 d0) _ hw) hd (h p l e R s m args below meth c9 D tyc adK adV A H locs cells slots ad d0 ls G hC hP hD hS hl hsa hd0 h1 h2 h3 h4 hG)
theorem EW_ldc2d {idx : Nat} {v : UInt64} (hw : Cond.constantDouble M.1.cls idx v ∈ ab_G) {pc2 : Nat} (hp : pc + 3 = pc2) (hd : decode M.2.1 pc = .ok (.ldc2_w idx, 3)) (h : EW M pc2 lv (.double v :: st) (aS x) d bc bs K) : EW M pc lv st (aS x) d bc bs K := by
  subst hp
  intro p l e R s m args below meth c9 D tyc adK adV A H locs cells slots ad d0 ls G hC hP hD hS hl hsa hd0 h1 h2 h3 h4 hG
  exact lv_ldc2d hC.1 hC.2.1 hC.2.2.2.2.1 ((dr_words hC.2.2.2.2.2.1 d0) _ hw) hd (h p l e R s m args below meth c9 D tyc adK adV A H locs cells slots ad d0 ls G hC hP hD hS hl hsa hd0 h1 h2 h3 h4 hG)
theorem AW_copyi {idx c0 c1 n0 n1 : Nat} {sp dp n : Int32} (hl' : Cond.methodLink M.1.cls idx arraycopyName ∈ ab_G ∧ Cond.native arraycopyName ∈ ab_G ∧ Cond.static arraycopyName ∈ ab_G ∧ Cond.initialized "java/lang/System" ∈ ab_G) {pc2 : Nat} (hp : pc + 3 = pc2) (hd : decode M.2.1 pc = .ok (.invokestatic idx, 3)) (hrm : (st.map fun v => v.category).sum ≤ 8) (hdd : 1 ≤ d) (hc0 : c0 < 338 ∧ SH c0 = .inr (0, n0)) (hc1 : c1 < 338 ∧ SH c1 = .inr (0, n1)) (g1 : ¬ sp < 0) (g2 : ¬ dp < 0) (g3 : ¬ n < 0) (g4 : sp.toNatClampNeg + n.toNatClampNeg ≤ n0) (g5 : dp.toNatClampNeg + n.toNatClampNeg ≤ n1) 
    (h : EW M pc2 lv st (aS (wrA x c1 (va_cpy (x.1 c0) (x.1 c1) sp.toNatClampNeg dp.toNatClampNeg n.toNatClampNeg))) d bc bs K) : EW M pc lv (.int n :: .int dp :: .ref c1 :: .int sp :: .ref c0 :: st) (aS x) d bc bs K := by
  subst hp
  intro p l e R s m args below meth c9 D tyc adK adV A H locs cells slots ad d0 ls G hC hP hD hS hl hsa hd0 h1 h2 h3 h4 hG
  have hrm2 : ((st.map (ab_cv ad)).map fun v => v.category).sum ≤ 8 := by
    rw [List.map_map]
    have : ((fun v => v.category) ∘ ab_cv ad) = fun v : Value => v.category := funext fun v => ab_cv_cat ad v
    rw [this]; exact hrm
  refine va_copyi (s := s.setDrawn d0) (ty := ab_ty 0) (f := x.1 c0) (g := x.1 c1) hC.1 hC.2.1 (hC.2.2.2.1.trans hl.1.symm) hC.2.2.2.2.1 ((dr_words hC.2.2.2.2.2.1 d0) _ hl'.1) ((dr_words hC.2.2.2.2.2.1 d0) _ hl'.2.1) ((dr_words hC.2.2.2.2.2.1 d0) _ hl'.2.2.1) ((dr_words hC.2.2.2.2.2.1 d0) _ hl'.2.2.2) hC.2.2.2.2.2.2.2.1 hP hD hS c0 c1 0 0 (by rw [ab_w_at (show c0 < (aS x).1 from hc0.1), ab_e_a (show (aS x).2.1 c0 = _ from hc0.2)]; rfl) (by rw [ab_w_at (show c1 < (aS x).1 from hc1.1), ab_e_a (show (aS x).2.1 c1 = _ from hc1.2)]; rfl) (ab_tys_at (by decide)) (ab_tys_at (by decide)) rfl g1 g2 g3 g4 g5 (fun _ _ => rfl) (by omega) ?_ hd (fun H locs hP hD hS => ?_)
  · have h9 : nativeFrameWords "java/lang/System" "arraycopy" 5 + 11 ≤ 37 := by decide +kernel
    omega
  · rw [ab_uA_a (show (aS x).2.1 c1 = _ from hc1.2) (by decide)] at hP hD
    exact (h p l e R s m args below meth c9 D tyc adK adV A H locs cells slots ad d0 ls G hC hP hD hS hl hsa hd0 h1 h2 h3 h4 hG)
theorem AW_copyz {idx c0 c1 n0 n1 : Nat} {sp dp n : Int32} (hl' : Cond.methodLink M.1.cls idx arraycopyName ∈ ab_G ∧ Cond.native arraycopyName ∈ ab_G ∧ Cond.static arraycopyName ∈ ab_G ∧ Cond.initialized "java/lang/System" ∈ ab_G) {pc2 : Nat} (hp : pc + 3 = pc2) (hd : decode M.2.1 pc = .ok (.invokestatic idx, 3)) (hrm : (st.map fun v => v.category).sum ≤ 8) (hdd : 1 ≤ d) (hc0 : c0 < 338 ∧ SH c0 = .inr (1, n0)) (hc1 : c1 < 338 ∧ SH c1 = .inr (1, n1)) (g1 : ¬ sp < 0) (g2 : ¬ dp < 0) (g3 : ¬ n < 0) (g4 : sp.toNatClampNeg + n.toNatClampNeg ≤ n0) (g5 : dp.toNatClampNeg + n.toNatClampNeg ≤ n1) (hfit : ∀ i, i < n.toNatClampNeg → isB (x.1 c0 (sp.toNatClampNeg + i)))
    (h : EW M pc2 lv st (aS (wrA x c1 (va_cpy (x.1 c0) (x.1 c1) sp.toNatClampNeg dp.toNatClampNeg n.toNatClampNeg))) d bc bs K) : EW M pc lv (.int n :: .int dp :: .ref c1 :: .int sp :: .ref c0 :: st) (aS x) d bc bs K := by
  subst hp
  intro p l e R s m args below meth c9 D tyc adK adV A H locs cells slots ad d0 ls G hC hP hD hS hl hsa hd0 h1 h2 h3 h4 hG
  have hrm2 : ((st.map (ab_cv ad)).map fun v => v.category).sum ≤ 8 := by
    rw [List.map_map]
    have : ((fun v => v.category) ∘ ab_cv ad) = fun v : Value => v.category := funext fun v => ab_cv_cat ad v
    rw [this]; exact hrm
  refine va_copyi (s := s.setDrawn d0) (ty := ab_ty 1) (f := x.1 c0) (g := x.1 c1) hC.1 hC.2.1 (hC.2.2.2.1.trans hl.1.symm) hC.2.2.2.2.1 ((dr_words hC.2.2.2.2.2.1 d0) _ hl'.1) ((dr_words hC.2.2.2.2.2.1 d0) _ hl'.2.1) ((dr_words hC.2.2.2.2.2.1 d0) _ hl'.2.2.1) ((dr_words hC.2.2.2.2.2.1 d0) _ hl'.2.2.2) hC.2.2.2.2.2.2.2.1 hP hD hS c0 c1 1 1 (by rw [ab_w_at (show c0 < (aS x).1 from hc0.1), ab_e_a (show (aS x).2.1 c0 = _ from hc0.2)]; rfl) (by rw [ab_w_at (show c1 < (aS x).1 from hc1.1), ab_e_a (show (aS x).2.1 c1 = _ from hc1.2)]; rfl) (ab_tys_at (by decide)) (ab_tys_at (by decide)) rfl g1 g2 g3 g4 g5 (fun i hi => (hfit i hi).f) (by omega) ?_ hd (fun H locs hP hD hS => ?_)
  · have h9 : nativeFrameWords "java/lang/System" "arraycopy" 5 + 11 ≤ 37 := by decide +kernel
    omega
  · rw [ab_uA_a (show (aS x).2.1 c1 = _ from hc1.2) (by decide)] at hP hD
    exact (h p l e R s m args below meth c9 D tyc adK adV A H locs cells slots ad d0 ls G hC hP hD hS hl hsa hd0 h1 h2 h3 h4 hG)
theorem AW_str_T15 (hm : M.1.cls = "CityBrigade$Tape") {pc2 : Nat} (hp : pc + 2 = pc2) (hd : decode M.2.1 pc = .ok (.ldc 15, 2)) (h : EW M pc2 lv (.ref 1000000 :: st) (aS x) d bc bs K) : EW M pc lv st (aS x) d bc bs K := by
  subst hp
  intro p l e R s m args below meth c9 D tyc adK adV A H locs cells slots ad d0 ls G hC hP hD hS hl hsa hd0 h1 h2 h3 h4 hG
  have h9 := (h p l e R s m args below meth c9 D tyc adK adV A H locs cells slots ad d0 ls G hC hP hD hS hl hsa hd0 h1 h2 h3 h4 hG)
  rw [show (Value.ref 1000000 :: st).map (ab_cv ad) = Value.ref (adK 0) :: st.map (ab_cv ad) by simp [ab_cv, (hsa 0 (by decide)).1]] at h9
  exact va_ldcS (s := s.setDrawn d0) hC.1 hC.2.1 (own := "CityBrigade$Tape") (by rw [← hm]; exact hC.2.2.2.2.1) (hC.2.2.2.2.2.2.2.2.2.2.2.2.2.1.same rfl) hd h9
theorem AW_str_T40 (hm : M.1.cls = "CityBrigade$Tape") {pc2 : Nat} (hp : pc + 2 = pc2) (hd : decode M.2.1 pc = .ok (.ldc 40, 2)) (h : EW M pc2 lv (.ref 1000001 :: st) (aS x) d bc bs K) : EW M pc lv st (aS x) d bc bs K := by
  subst hp
  intro p l e R s m args below meth c9 D tyc adK adV A H locs cells slots ad d0 ls G hC hP hD hS hl hsa hd0 h1 h2 h3 h4 hG
  have h9 := (h p l e R s m args below meth c9 D tyc adK adV A H locs cells slots ad d0 ls G hC hP hD hS hl hsa hd0 h1 h2 h3 h4 hG)
  rw [show (Value.ref 1000001 :: st).map (ab_cv ad) = Value.ref (adK 1) :: st.map (ab_cv ad) by simp [ab_cv, (hsa 1 (by decide)).1]] at h9
  exact va_ldcS (s := s.setDrawn d0) hC.1 hC.2.1 (own := "CityBrigade$Tape") (by rw [← hm]; exact hC.2.2.2.2.1) (hC.2.2.2.2.2.2.2.2.2.2.2.2.2.2.1.same rfl) hd h9
theorem AW_str_T50 (hm : M.1.cls = "CityBrigade$Tape") {pc2 : Nat} (hp : pc + 2 = pc2) (hd : decode M.2.1 pc = .ok (.ldc 50, 2)) (h : EW M pc2 lv (.ref 1000002 :: st) (aS x) d bc bs K) : EW M pc lv st (aS x) d bc bs K := by
  subst hp
  intro p l e R s m args below meth c9 D tyc adK adV A H locs cells slots ad d0 ls G hC hP hD hS hl hsa hd0 h1 h2 h3 h4 hG
  have h9 := (h p l e R s m args below meth c9 D tyc adK adV A H locs cells slots ad d0 ls G hC hP hD hS hl hsa hd0 h1 h2 h3 h4 hG)
  rw [show (Value.ref 1000002 :: st).map (ab_cv ad) = Value.ref (adK 2) :: st.map (ab_cv ad) by simp [ab_cv, (hsa 2 (by decide)).1]] at h9
  exact va_ldcS (s := s.setDrawn d0) hC.1 hC.2.1 (own := "CityBrigade$Tape") (by rw [← hm]; exact hC.2.2.2.2.1) (hC.2.2.2.2.2.2.2.2.2.2.2.2.2.2.2.1.same rfl) hd h9
theorem AW_str_T70 (hm : M.1.cls = "CityBrigade$Tape") {pc2 : Nat} (hp : pc + 2 = pc2) (hd : decode M.2.1 pc = .ok (.ldc 70, 2)) (h : EW M pc2 lv (.ref 1000003 :: st) (aS x) d bc bs K) : EW M pc lv st (aS x) d bc bs K := by
  subst hp
  intro p l e R s m args below meth c9 D tyc adK adV A H locs cells slots ad d0 ls G hC hP hD hS hl hsa hd0 h1 h2 h3 h4 hG
  have h9 := (h p l e R s m args below meth c9 D tyc adK adV A H locs cells slots ad d0 ls G hC hP hD hS hl hsa hd0 h1 h2 h3 h4 hG)
  rw [show (Value.ref 1000003 :: st).map (ab_cv ad) = Value.ref (adK 3) :: st.map (ab_cv ad) by simp [ab_cv, (hsa 3 (by decide)).1]] at h9
  exact va_ldcS (s := s.setDrawn d0) hC.1 hC.2.1 (own := "CityBrigade$Tape") (by rw [← hm]; exact hC.2.2.2.2.1) (hC.2.2.2.2.2.2.2.2.2.2.2.2.2.2.2.2.1.same rfl) hd h9
theorem AW_str_M208 (hm : M.1.cls = "CityBrigadeModel") {pc2 : Nat} (hp : pc + 2 = pc2) (hd : decode M.2.1 pc = .ok (.ldc 208, 2)) (h : EW M pc2 lv (.ref 1000004 :: st) (aS x) d bc bs K) : EW M pc lv st (aS x) d bc bs K := by
  subst hp
  intro p l e R s m args below meth c9 D tyc adK adV A H locs cells slots ad d0 ls G hC hP hD hS hl hsa hd0 h1 h2 h3 h4 hG
  have h9 := (h p l e R s m args below meth c9 D tyc adK adV A H locs cells slots ad d0 ls G hC hP hD hS hl hsa hd0 h1 h2 h3 h4 hG)
  rw [show (Value.ref 1000004 :: st).map (ab_cv ad) = Value.ref (adK 4) :: st.map (ab_cv ad) by simp [ab_cv, (hsa 4 (by decide)).1]] at h9
  exact va_ldcS (s := s.setDrawn d0) hC.1 hC.2.1 (own := "CityBrigadeModel") (by rw [← hm]; exact hC.2.2.2.2.1) (hC.2.2.2.2.2.2.2.2.2.2.2.2.2.2.2.2.2.1.same rfl) hd h9
theorem AW_str_M503 (hm : M.1.cls = "CityBrigadeModel") {pc2 : Nat} (hp : pc + 2 = pc2) (hd : decode M.2.1 pc = .ok (.ldc 503, 2)) (h : EW M pc2 lv (.ref 1000000 :: st) (aS x) d bc bs K) : EW M pc lv st (aS x) d bc bs K := by
  subst hp
  intro p l e R s m args below meth c9 D tyc adK adV A H locs cells slots ad d0 ls G hC hP hD hS hl hsa hd0 h1 h2 h3 h4 hG
  have h9 := (h p l e R s m args below meth c9 D tyc adK adV A H locs cells slots ad d0 ls G hC hP hD hS hl hsa hd0 h1 h2 h3 h4 hG)
  rw [show (Value.ref 1000000 :: st).map (ab_cv ad) = Value.ref (adK 0) :: st.map (ab_cv ad) by simp [ab_cv, (hsa 0 (by decide)).1]] at h9
  exact va_ldcS (s := s.setDrawn d0) hC.1 hC.2.1 (own := "CityBrigadeModel") (by rw [← hm]; exact hC.2.2.2.2.1) (hC.2.2.2.2.2.2.2.2.2.2.2.2.2.2.2.2.2.2.1.same rfl) hd h9
theorem AW_str_M505 (hm : M.1.cls = "CityBrigadeModel") {pc2 : Nat} (hp : pc + 2 = pc2) (hd : decode M.2.1 pc = .ok (.ldc 505, 2)) (h : EW M pc2 lv (.ref 1000001 :: st) (aS x) d bc bs K) : EW M pc lv st (aS x) d bc bs K := by
  subst hp
  intro p l e R s m args below meth c9 D tyc adK adV A H locs cells slots ad d0 ls G hC hP hD hS hl hsa hd0 h1 h2 h3 h4 hG
  have h9 := (h p l e R s m args below meth c9 D tyc adK adV A H locs cells slots ad d0 ls G hC hP hD hS hl hsa hd0 h1 h2 h3 h4 hG)
  rw [show (Value.ref 1000001 :: st).map (ab_cv ad) = Value.ref (adK 1) :: st.map (ab_cv ad) by simp [ab_cv, (hsa 1 (by decide)).1]] at h9
  exact va_ldcS (s := s.setDrawn d0) hC.1 hC.2.1 (own := "CityBrigadeModel") (by rw [← hm]; exact hC.2.2.2.2.1) (hC.2.2.2.2.2.2.2.2.2.2.2.2.2.2.2.2.2.2.2.1.same rfl) hd h9
theorem AW_str_M507 (hm : M.1.cls = "CityBrigadeModel") {pc2 : Nat} (hp : pc + 2 = pc2) (hd : decode M.2.1 pc = .ok (.ldc 507, 2)) (h : EW M pc2 lv (.ref 1000002 :: st) (aS x) d bc bs K) : EW M pc lv st (aS x) d bc bs K := by
  subst hp
  intro p l e R s m args below meth c9 D tyc adK adV A H locs cells slots ad d0 ls G hC hP hD hS hl hsa hd0 h1 h2 h3 h4 hG
  have h9 := (h p l e R s m args below meth c9 D tyc adK adV A H locs cells slots ad d0 ls G hC hP hD hS hl hsa hd0 h1 h2 h3 h4 hG)
  rw [show (Value.ref 1000002 :: st).map (ab_cv ad) = Value.ref (adK 2) :: st.map (ab_cv ad) by simp [ab_cv, (hsa 2 (by decide)).1]] at h9
  exact va_ldcS (s := s.setDrawn d0) hC.1 hC.2.1 (own := "CityBrigadeModel") (by rw [← hm]; exact hC.2.2.2.2.1) (hC.2.2.2.2.2.2.2.2.2.2.2.2.2.2.2.2.2.2.2.2.same rfl) hd h9
theorem AW_sval {idx t : Nat} (hs : isS t) (hlk : Cond.fieldLink M.1.cls idx "java/lang/String" "value" "[B" ∈ ab_G) {pc2 : Nat} (hp : pc + 3 = pc2) (hd : decode M.2.1 pc = .ok (.getfield idx, 3)) (h : EW M pc2 lv (.ref (t + 1000000) :: st) (aS x) d bc bs K) : EW M pc lv (.ref t :: st) (aS x) d bc bs K := by
  subst hp
  intro p l e R s m args below meth c9 D tyc adK adV A H locs cells slots ad d0 ls G hC hP hD hS hl hsa hd0 h1 h2 h3 h4 hG
  obtain ⟨j, hj, rfl⟩ := hs
  have h9 := (h p l e R s m args below meth c9 D tyc adK adV A H locs cells slots ad d0 ls G hC hP hD hS hl hsa hd0 h1 h2 h3 h4 hG)
  have e1 : (Value.ref (1000000 + j) :: st).map (ab_cv ad) = Value.ref (adK j) :: st.map (ab_cv ad) := by simp [ab_cv, (hsa j hj).1]
  have e2 : (Value.ref (1000000 + j + 1000000) :: st).map (ab_cv ad) = Value.ref (adV j) :: st.map (ab_cv ad) := by
    rw [show 1000000 + j + 1000000 = 2000000 + j by omega]
    simp [ab_cv, (hsa j hj).2]
  rw [e2] at h9
  rw [e1]
  exact vk_getf (s := s.setDrawn d0) hC.1 hC.2.1 ((hC.2.2.2.2.2.2.2.2.2.2.2.same (U := s.setDrawn d0) rfl rfl).1.1 j hj).2.2.1 hS hC.2.2.2.2.1 ((dr_words hC.2.2.2.2.2.1 d0) _ hlk) (fun _ h8 => h8) hd h9
theorem AW_scod {idx t : Nat} (hs : isS t) (hlk : Cond.fieldLink M.1.cls idx "java/lang/String" "coder" "B" ∈ ab_G) {pc2 : Nat} (hp : pc + 3 = pc2) (hd : decode M.2.1 pc = .ok (.getfield idx, 3)) (h : EW M pc2 lv (.int 0 :: st) (aS x) d bc bs K) : EW M pc lv (.ref t :: st) (aS x) d bc bs K := by
  subst hp
  intro p l e R s m args below meth c9 D tyc adK adV A H locs cells slots ad d0 ls G hC hP hD hS hl hsa hd0 h1 h2 h3 h4 hG
  obtain ⟨j, hj, rfl⟩ := hs
  have e1 : (Value.ref (1000000 + j) :: st).map (ab_cv ad) = Value.ref (adK j) :: st.map (ab_cv ad) := by simp [ab_cv, (hsa j hj).1]
  rw [e1]
  exact vk_getf (s := s.setDrawn d0) hC.1 hC.2.1 ((hC.2.2.2.2.2.2.2.2.2.2.2.same (U := s.setDrawn d0) rfl rfl).1.1 j hj).2.1 hS hC.2.2.2.2.1 ((dr_words hC.2.2.2.2.2.1 d0) _ hlk) (fun _ h8 => h8) hd (h p l e R s m args below meth c9 D tyc adK adV A H locs cells slots ad d0 ls G hC hP hD hS hl hsa hd0 h1 h2 h3 h4 hG)
theorem AW_scomp {idx : Nat} (hlk : Cond.fieldLink M.1.cls idx "java/lang/String" "COMPACT_STRINGS" "Z" ∈ ab_G) {pc2 : Nat} (hp : pc + 3 = pc2) (hd : decode M.2.1 pc = .ok (.getstatic idx, 3)) (h : EW M pc2 lv (.int 1 :: st) (aS x) d bc bs K) : EW M pc lv st (aS x) d bc bs K := by
  subst hp
  intro p l e R s m args below meth c9 D tyc adK adV A H locs cells slots ad d0 ls G hC hP hD hS hl hsa hd0 h1 h2 h3 h4 hG
  exact va_gets (s := s.setDrawn d0) hC.1 hC.2.1 (hC.2.2.2.2.2.2.2.2.2.2.2.same (U := s.setDrawn d0) rfl rfl).2.1 hS hC.2.2.2.2.1 ((dr_words hC.2.2.2.2.2.1 d0) _ hlk) (fun _ h8 => h8) hd (h p l e R s m args below meth c9 D tyc adK adV A H locs cells slots ad d0 ls G hC hP hD hS hl hsa hd0 h1 h2 h3 h4 hG)
theorem AW_sbald {t : Nat} {i : Int32} (hs : isSB t) {pc2 : Nat} (hp : pc + 1 = pc2) (hd : decode M.2.1 pc = .ok (.baload, 1)) (hin : vp_in i (slen t)) (h : EW M pc2 lv (.int (sbyte t i.toNatClampNeg) :: st) (aS x) d bc bs K) : EW M pc lv (.int i :: .ref t :: st) (aS x) d bc bs K := by
  subst hp
  intro p l e R s m args below meth c9 D tyc adK adV A H locs cells slots ad d0 ls G hC hP hD hS hl hsa hd0 h1 h2 h3 h4 hG
  obtain ⟨j, hj, rfl⟩ := hs
  have hsl : slen (2000000 + j) = ab_slen.getD j 0 := by show ab_slen.getD (2000000 + j - 2000000) 0 = _; rw [Nat.add_sub_cancel_left]
  have hsb : ∀ k, sbyte (2000000 + j) k = (ab_sbyt.getD j []).getD k 0 := fun k => by show (ab_sbyt.getD (2000000 + j - 2000000) []).getD k 0 = _; rw [Nat.add_sub_cancel_left]
  have e1 : (Value.int i :: Value.ref (2000000 + j) :: st).map (ab_cv ad) = Value.int i :: Value.ref (adV j) :: st.map (ab_cv ad) := by simp [ab_cv, (hsa j hj).2]
  rw [e1]
  rw [hsl] at hin
  exact va_tb (s := s.setDrawn d0) hC.1 hC.2.1 ((hC.2.2.2.2.2.2.2.2.2.2.2.same (U := s.setDrawn d0) rfl rfl).1.1 j hj).2.2.2 hS hin (by rw [hsb]; rfl) hd (h p l e R s m args below meth c9 D tyc adK adV A H locs cells slots ad d0 ls G hC hP hD hS hl hsa hd0 h1 h2 h3 h4 hG)
theorem AW_salen {t : Nat} (hs : isSB t) {pc2 : Nat} (hp : pc + 1 = pc2) (hd : decode M.2.1 pc = .ok (.arraylength, 1)) (h : EW M pc2 lv (.int (Int32.ofNat (slen t)) :: st) (aS x) d bc bs K) : EW M pc lv (.ref t :: st) (aS x) d bc bs K := by
  subst hp
  intro p l e R s m args below meth c9 D tyc adK adV A H locs cells slots ad d0 ls G hC hP hD hS hl hsa hd0 h1 h2 h3 h4 hG
  obtain ⟨j, hj, rfl⟩ := hs
  have hsl : slen (2000000 + j) = ab_slen.getD j 0 := by show ab_slen.getD (2000000 + j - 2000000) 0 = _; rw [Nat.add_sub_cancel_left]
  have e1 : (Value.ref (2000000 + j) :: st).map (ab_cv ad) = Value.ref (adV j) :: st.map (ab_cv ad) := by simp [ab_cv, (hsa j hj).2]
  rw [e1]
  exact va_tlen (s := s.setDrawn d0) hC.1 hC.2.1 ((hC.2.2.2.2.2.2.2.2.2.2.2.same (U := s.setDrawn d0) rfl rfl).1.1 j hj).2.2.2 hS (by rw [hsl]) hd (h p l e R s m args below meth c9 D tyc adK adV A H locs cells slots ad d0 ls G hC hP hD hS hl hsa hd0 h1 h2 h3 h4 hG)
end AWM

section AWS
variable {M : ab_M} {pc : Nat} {lv : List (Nat × Value)} {st : List Value} {σ : ab_St} {d bc bs : Nat} {K : Option Value → ab_St → Prop}
theorem EW_invVS {idx n : Nat} {M' : ab_M} {As rest : List Value} {b : Nat} (hlink : Cond.methodLink M.1.cls idx M'.1 ∈ ab_G) (hinst : Cond.instanceMethod M'.1 ∈ ab_G) (hsel : Cond.selects M'.1.cls M'.1 M'.1 ∈ ab_G) (hb : isS b) (hcl : M'.1.cls = "java/lang/String") {d' bc1 bs1 bc2 bs2 pc2 : Nat} (hp : pc + 3 = pc2) (hM : ab_okM M' n) (hd : decode M.2.1 pc = .ok (.invokevirtual idx, 3)) (hst : st = As.reverse ++ .ref b :: rest) (hn : As.length = n) (hlen : (lg_sl (.ref b :: As)).length ≤ M'.2.2.1) (hrm : (rest.map fun v => v.category).sum ≤ 8) (hdd : d' + 1 ≤ d) (hbc : bc1 + bc2 = bc) (hbs : bs1 + bs2 = bs) (hlv : bc1 = 0 ∨ (ab_refs σ.1 rest ∧ ab_refs σ.1 (lv.map (·.2))))
    (h : EW M' 0 (lv_args 0 (.ref b :: As)) [] σ d' bc1 bs1 (fun r σ' => EW M pc2 lv (r.toList ++ rest) σ' d bc2 bs2 K)) : EW M pc lv st σ d bc bs K := by
  intro p l e R s m args below meth c9 D tyc adK adV A H locs cells slots ad d0 ls G hC hP hD hS hl hsa hd0 h1 h2 h3 h4 hG
  subst hst
  subst hp
  have hmet := ab_met (l := l) (D := D) (tyc := tyc) (adK := adK) (adV := adV) (ad := ad) (sz := H.size) hsa hM hlen h
  have hFr : ∀ q, va_A (ab_w tyc ad σ) H.size q → A q := fun q hq => by
    rcases hq with ⟨k, x, hk⟩ | hq
    · exact hD.2 k (q, x) hk
    · exact hC.2.2.2.2.2.2.2.2.2.1 q (Nat.le_trans hS.1 hq)
  have hrm2 : ((rest.map (ab_cv ad)).map fun v => v.category).sum ≤ 8 := by
    rw [List.map_map]
    have : ((fun v => v.category) ∘ ab_cv ad) = fun v : Value => v.category := funext fun v => ab_cv_cat ad v
    rw [this]; exact hrm
  refine ab_back hd0 (va_runV_D (C := M'.1.cls) (b := ad b) (s := s.setDrawn d0) (As := As.map (ab_cv ad)) (rest := rest.map (ab_cv ad)) (Ts := ab_G) ⟨hC.1, hC.2.1, hC.2.2.2.1, hC.2.2.2.2.1, (dr_words hC.2.2.2.2.2.1 d0)⟩ hmet ⟨(callB_of n (dr_words hC.2.2.2.2.2.1 d0) (ab_Gin M' hM.2.2.1) rfl rfl rfl ((dr_words hC.2.2.2.2.2.1 d0) _ hM.2.2.2.1) ((dr_words hC.2.2.2.2.2.1 d0) _ hlink) ⟨hM.2.1.1, hM.2.1.2, hM.2.2.2.2.1⟩ ⟨by show d' + 1 ≤ R.frames; omega, by show 8 + (M'.2.2.1 + 11) + 45 * d' ≤ R.locals; have := hM.2.2.2.2.2; omega⟩), (dr_words hC.2.2.2.2.2.1 d0) _ hinst, (dr_words hC.2.2.2.2.2.1 d0) _ hsel⟩ ⟨ab_I_blind, by rw [hcl]; obtain ⟨j, hj, rfl⟩ := hb; rw [(hsa j hj).1]; exact vk_recv (s := s.setDrawn d0) (A := A) (hC.2.2.2.2.2.2.2.2.2.2.2.same (U := s.setDrawn d0) rfl rfl).1 hj hS, (fun U hU hW => ⟨rfl, ab_ST.pass (s := s.setDrawn d0) (A := A) hW (by rw [hU]; exact hS) hFr (hC.2.2.2.2.2.2.2.2.2.2.2.same rfl rfl), by rw [hU], by rw [hU]; exact hP, va_K.moved hW.alike hC.2.2.2.2.2.2.2.1, hD.weaken (fun _ _ _ _ => trivial), ab_NW.moved hW (ab_NW.drawn (d := d0) hC.2.2.2.2.2.2.2.2.1)⟩)⟩ rfl (by rw [List.length_map]; exact hn) hl.1 (by simp [ab_cv]) (lv_room hrm2) hd ⟨by omega, by omega⟩) hS (fun q _ hq => hFr q hq) hFr (fun r σ' ad' H1 locs1 d1 hk hP1 hD1 hG1 hS1 hd1 => ?_)
  obtain ⟨g0, g1, g2, g3⟩ := hG1
  have hrest : rest.map (ab_cv ad') = rest.map (ab_cv ad) := by
    rcases hlv with q | q
    · rw [g3 q]
    · exact ab_refs_map q.1 g2
  have hlvs : lv.map (fun q => (q.1, ab_cv ad' q.2)) = lv.map (fun q => (q.1, ab_cv ad q.2)) := by
    rcases hlv with q | q
    · rw [g3 q]
    · exact ab_refs_lv q.2 g2
  have hstk : (r.map (ab_cv ad')).toList ++ rest.map (ab_cv ad) = (r.toList ++ rest).map (ab_cv ad') := by
    rw [List.map_append, hrest]
    cases r <;> rfl
  rw [hstk]
  exact hk p l e R s m args below meth c9 D tyc adK adV A H1 locs1 (cells + bc1) (slots + bs1) ad' d1 ls G hC hP1 (hD1.weaken (fun _ q _ hq => hFr q.1 hq)) hS1 (by rw [hlvs]; exact hl) g0 hd1 h1 h2 (by omega) (by omega)
    (fun σ2 ad2 q1 q2 q3 q4 => hG σ2 ad2 (Nat.le_trans g1 q1) (fun q hq => (q2 q (Nat.lt_of_lt_of_le hq g1)).trans (g2 q hq)) (fun hb => (q3 (by omega)).trans (g3 (by omega))) q4)
end AWS

section AWT
variable {M : ab_M} {pc : Nat} {lv : List (Nat × Value)} {st : List Value} {x : ab_X} {d bc bs : Nat} {K : Option Value → ab_St → Prop}
theorem AW_invVS {idx n b : Nat} {M' : ab_M} {rest : List Value} (As : List Value) {d' : Nat} (hl : Cond.methodLink M.1.cls idx M'.1 ∈ ab_G ∧ Cond.instanceMethod M'.1 ∈ ab_G ∧ Cond.selects M'.1.cls M'.1 M'.1 ∈ ab_G) (hM : ab_okM M' n) {pc2 : Nat} (hp : pc + 3 = pc2) (hd : decode M.2.1 pc = .ok (.invokevirtual idx, 3)) (hst : st = As.reverse ++ .ref b :: rest) (hn : As.length = n) (hlen : (lg_sl (.ref b :: As)).length ≤ M'.2.2.1) (hrm : (rest.map fun v => v.category).sum ≤ 8) (hdd : d' + 1 ≤ d) (hb : isS b) (hcl : M'.1.cls = "java/lang/String")
    (h : EW M' 0 (lv_args 0 (.ref b :: As)) [] (aS x) d' 0 0 (fun r σ' => EW M pc2 lv (r.toList ++ rest) σ' d bc bs K)) : EW M pc lv st (aS x) d bc bs K := EW_invVS hl.1 hl.2.1 hl.2.2 hb hcl hp hM hd hst hn hlen hrm hdd (Nat.zero_add _) (Nat.zero_add _) (Or.inl rfl) h
end AWT
