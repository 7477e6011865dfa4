section EWR
variable {M : ab_M} {pc : Nat} {lv : List (Nat × Value)} {st : List Value} {σ : ab_St} {d bc bs : Nat} {K : Option Value → ab_St → Prop}

theorem EW_iconst {n : Int} {v : Int32} {pc2 : Nat} (hp : pc + 1 = pc2) (hd : decode M.2.1 pc = .ok (.iconst n, 1)) (hv : Int32.ofInt n = v) (h : EW M pc2 lv (.int v :: st) σ d bc bs K) : EW M pc lv st σ d bc bs K := by
  subst hp
  intro p l e R s m args below meth c9 D tyc adK adV A H locs cells slots ad d0 ls G hC hP hD hS hl hsa hd0 h1 h2 h3 h4 hG
  exact lv_iconst hC.1 hC.2.1 hd hv (h p l e R s m args below meth c9 D tyc adK adV A H locs cells slots ad d0 ls G hC hP hD hS hl hsa hd0 h1 h2 h3 h4 hG)

theorem EW_bipush {n : Int} {v : Int32} {pc2 : Nat} (hp : pc + 2 = pc2) (hd : decode M.2.1 pc = .ok (.bipush n, 2)) (hv : (Int8.ofInt n).toInt32 = v) (h : EW M pc2 lv (.int v :: st) σ d bc bs K) : EW M pc lv st σ d bc bs K := by
  subst hp
  intro p l e R s m args below meth c9 D tyc adK adV A H locs cells slots ad d0 ls G hC hP hD hS hl hsa hd0 h1 h2 h3 h4 hG
  exact lv_bipush hC.1 hC.2.1 hd hv (h p l e R s m args below meth c9 D tyc adK adV A H locs cells slots ad d0 ls G hC hP hD hS hl hsa hd0 h1 h2 h3 h4 hG)

theorem EW_sipush {n : Int} {v : Int32} {pc2 : Nat} (hp : pc + 3 = pc2) (hd : decode M.2.1 pc = .ok (.sipush n, 3)) (hv : (Int16.ofInt n).toInt32 = v) (h : EW M pc2 lv (.int v :: st) σ d bc bs K) : EW M pc lv st σ d bc bs K := by
  subst hp
  intro p l e R s m args below meth c9 D tyc adK adV A H locs cells slots ad d0 ls G hC hP hD hS hl hsa hd0 h1 h2 h3 h4 hG
  exact lv_sipush hC.1 hC.2.1 hd hv (h p l e R s m args below meth c9 D tyc adK adV A H locs cells slots ad d0 ls G hC hP hD hS hl hsa hd0 h1 h2 h3 h4 hG)

theorem EW_lconst {n : Fin 2} {v : Int64} {pc2 : Nat} (hp : pc + 1 = pc2) (hd : decode M.2.1 pc = .ok (.lconst n, 1)) (hv : Int64.ofNat (n : Nat) = v) (h : EW M pc2 lv (.long v :: st) σ d bc bs K) : EW M pc lv st σ d bc bs K := by
  subst hp
  intro p l e R s m args below meth c9 D tyc adK adV A H locs cells slots ad d0 ls G hC hP hD hS hl hsa hd0 h1 h2 h3 h4 hG
  exact lv_lconst hC.1 hC.2.1 hd hv (h p l e R s m args below meth c9 D tyc adK adV A H locs cells slots ad d0 ls G hC hP hD hS hl hsa hd0 h1 h2 h3 h4 hG)

theorem EW_dconst0  {pc2 : Nat} (hp : pc + 1 = pc2) (hd : decode M.2.1 pc = .ok (.dconst 0, 1))  (h : EW M pc2 lv (.double 0 :: st) σ d bc bs K) : EW M pc lv st σ d bc bs K := by
  subst hp
  intro p l e R s m args below meth c9 D tyc adK adV A H locs cells slots ad d0 ls G hC hP hD hS hl hsa hd0 h1 h2 h3 h4 hG
  exact lv_dconst0 hC.1 hC.2.1 hd  (h p l e R s m args below meth c9 D tyc adK adV A H locs cells slots ad d0 ls G hC hP hD hS hl hsa hd0 h1 h2 h3 h4 hG)

theorem EW_iadd {x y : Int32} {pc2 : Nat} (hp : pc + 1 = pc2) (hd : decode M.2.1 pc = .ok (.iadd, 1))  (h : EW M pc2 lv (.int (x + y) :: st) σ d bc bs K) : EW M pc lv (.int y :: .int x :: st) σ d bc bs K := by
  subst hp
  intro p l e R s m args below meth c9 D tyc adK adV A H locs cells slots ad d0 ls G hC hP hD hS hl hsa hd0 h1 h2 h3 h4 hG
  exact lv_iadd hC.1 hC.2.1 hd  (h p l e R s m args below meth c9 D tyc adK adV A H locs cells slots ad d0 ls G hC hP hD hS hl hsa hd0 h1 h2 h3 h4 hG)

theorem EW_isub {x y : Int32} {pc2 : Nat} (hp : pc + 1 = pc2) (hd : decode M.2.1 pc = .ok (.isub, 1))  (h : EW M pc2 lv (.int (x - y) :: st) σ d bc bs K) : EW M pc lv (.int y :: .int x :: st) σ d bc bs K := by
  subst hp
  intro p l e R s m args below meth c9 D tyc adK adV A H locs cells slots ad d0 ls G hC hP hD hS hl hsa hd0 h1 h2 h3 h4 hG
  exact lv_isub hC.1 hC.2.1 hd  (h p l e R s m args below meth c9 D tyc adK adV A H locs cells slots ad d0 ls G hC hP hD hS hl hsa hd0 h1 h2 h3 h4 hG)

theorem EW_imul {x y : Int32} {pc2 : Nat} (hp : pc + 1 = pc2) (hd : decode M.2.1 pc = .ok (.imul, 1))  (h : EW M pc2 lv (.int (x * y) :: st) σ d bc bs K) : EW M pc lv (.int y :: .int x :: st) σ d bc bs K := by
  subst hp
  intro p l e R s m args below meth c9 D tyc adK adV A H locs cells slots ad d0 ls G hC hP hD hS hl hsa hd0 h1 h2 h3 h4 hG
  exact lv_imul hC.1 hC.2.1 hd  (h p l e R s m args below meth c9 D tyc adK adV A H locs cells slots ad d0 ls G hC hP hD hS hl hsa hd0 h1 h2 h3 h4 hG)

theorem EW_iand {x y : Int32} {pc2 : Nat} (hp : pc + 1 = pc2) (hd : decode M.2.1 pc = .ok (.iand, 1))  (h : EW M pc2 lv (.int (x &&& y) :: st) σ d bc bs K) : EW M pc lv (.int y :: .int x :: st) σ d bc bs K := by
  subst hp
  intro p l e R s m args below meth c9 D tyc adK adV A H locs cells slots ad d0 ls G hC hP hD hS hl hsa hd0 h1 h2 h3 h4 hG
  exact lv_iand hC.1 hC.2.1 hd  (h p l e R s m args below meth c9 D tyc adK adV A H locs cells slots ad d0 ls G hC hP hD hS hl hsa hd0 h1 h2 h3 h4 hG)

theorem EW_ior {x y : Int32} {pc2 : Nat} (hp : pc + 1 = pc2) (hd : decode M.2.1 pc = .ok (.ior, 1))  (h : EW M pc2 lv (.int (x ||| y) :: st) σ d bc bs K) : EW M pc lv (.int y :: .int x :: st) σ d bc bs K := by
  subst hp
  intro p l e R s m args below meth c9 D tyc adK adV A H locs cells slots ad d0 ls G hC hP hD hS hl hsa hd0 h1 h2 h3 h4 hG
  exact lv_ior hC.1 hC.2.1 hd  (h p l e R s m args below meth c9 D tyc adK adV A H locs cells slots ad d0 ls G hC hP hD hS hl hsa hd0 h1 h2 h3 h4 hG)

theorem EW_ixor {x y : Int32} {pc2 : Nat} (hp : pc + 1 = pc2) (hd : decode M.2.1 pc = .ok (.ixor, 1))  (h : EW M pc2 lv (.int (x ^^^ y) :: st) σ d bc bs K) : EW M pc lv (.int y :: .int x :: st) σ d bc bs K := by
  subst hp
  intro p l e R s m args below meth c9 D tyc adK adV A H locs cells slots ad d0 ls G hC hP hD hS hl hsa hd0 h1 h2 h3 h4 hG
  exact lv_ixor hC.1 hC.2.1 hd  (h p l e R s m args below meth c9 D tyc adK adV A H locs cells slots ad d0 ls G hC hP hD hS hl hsa hd0 h1 h2 h3 h4 hG)

theorem EW_ishl {x y : Int32} {pc2 : Nat} (hp : pc + 1 = pc2) (hd : decode M.2.1 pc = .ok (.ishl, 1))  (h : EW M pc2 lv (.int (x <<< (y &&& 31)) :: st) σ d bc bs K) : EW M pc lv (.int y :: .int x :: st) σ d bc bs K := by
  subst hp
  intro p l e R s m args below meth c9 D tyc adK adV A H locs cells slots ad d0 ls G hC hP hD hS hl hsa hd0 h1 h2 h3 h4 hG
  exact lv_ishl hC.1 hC.2.1 hd  (h p l e R s m args below meth c9 D tyc adK adV A H locs cells slots ad d0 ls G hC hP hD hS hl hsa hd0 h1 h2 h3 h4 hG)

theorem EW_ishr {x y : Int32} {pc2 : Nat} (hp : pc + 1 = pc2) (hd : decode M.2.1 pc = .ok (.ishr, 1))  (h : EW M pc2 lv (.int (x >>> (y &&& 31)) :: st) σ d bc bs K) : EW M pc lv (.int y :: .int x :: st) σ d bc bs K := by
  subst hp
  intro p l e R s m args below meth c9 D tyc adK adV A H locs cells slots ad d0 ls G hC hP hD hS hl hsa hd0 h1 h2 h3 h4 hG
  exact lv_ishr hC.1 hC.2.1 hd  (h p l e R s m args below meth c9 D tyc adK adV A H locs cells slots ad d0 ls G hC hP hD hS hl hsa hd0 h1 h2 h3 h4 hG)

theorem EW_ineg {x : Int32} {pc2 : Nat} (hp : pc + 1 = pc2) (hd : decode M.2.1 pc = .ok (.ineg, 1))  (h : EW M pc2 lv (.int (-x) :: st) σ d bc bs K) : EW M pc lv (.int x :: st) σ d bc bs K := by
  subst hp
  intro p l e R s m args below meth c9 D tyc adK adV A H locs cells slots ad d0 ls G hC hP hD hS hl hsa hd0 h1 h2 h3 h4 hG
  exact lv_ineg hC.1 hC.2.1 hd  (h p l e R s m args below meth c9 D tyc adK adV A H locs cells slots ad d0 ls G hC hP hD hS hl hsa hd0 h1 h2 h3 h4 hG)

theorem EW_idiv {x y : Int32} {pc2 : Nat} (hp : pc + 1 = pc2) (hd : decode M.2.1 pc = .ok (.idiv, 1)) (hne : ¬ y = 0) (h : EW M pc2 lv (.int (x / y) :: st) σ d bc bs K) : EW M pc lv (.int y :: .int x :: st) σ d bc bs K := by
  subst hp
  intro p l e R s m args below meth c9 D tyc adK adV A H locs cells slots ad d0 ls G hC hP hD hS hl hsa hd0 h1 h2 h3 h4 hG
  exact lv_idiv hC.1 hC.2.1 hd hne (h p l e R s m args below meth c9 D tyc adK adV A H locs cells slots ad d0 ls G hC hP hD hS hl hsa hd0 h1 h2 h3 h4 hG)

theorem EW_irem {x y : Int32} {pc2 : Nat} (hp : pc + 1 = pc2) (hd : decode M.2.1 pc = .ok (.irem, 1)) (hne : ¬ y = 0) (h : EW M pc2 lv (.int (x - x / y * y) :: st) σ d bc bs K) : EW M pc lv (.int y :: .int x :: st) σ d bc bs K := by
  subst hp
  intro p l e R s m args below meth c9 D tyc adK adV A H locs cells slots ad d0 ls G hC hP hD hS hl hsa hd0 h1 h2 h3 h4 hG
  exact lv_irem hC.1 hC.2.1 hd hne (h p l e R s m args below meth c9 D tyc adK adV A H locs cells slots ad d0 ls G hC hP hD hS hl hsa hd0 h1 h2 h3 h4 hG)

theorem EW_iushr {x y v : Int32} {pc2 : Nat} (hp : pc + 1 = pc2) (hd : decode M.2.1 pc = .ok (.iushr, 1)) (hv : (x.toUInt32 >>> (y.toUInt32 &&& Int32.toUInt32 31)).toInt32 = v) (h : EW M pc2 lv (.int v :: st) σ d bc bs K) : EW M pc lv (.int y :: .int x :: st) σ d bc bs K := by
  subst hp
  intro p l e R s m args below meth c9 D tyc adK adV A H locs cells slots ad d0 ls G hC hP hD hS hl hsa hd0 h1 h2 h3 h4 hG
  exact lv_iushr hC.1 hC.2.1 hd hv (h p l e R s m args below meth c9 D tyc adK adV A H locs cells slots ad d0 ls G hC hP hD hS hl hsa hd0 h1 h2 h3 h4 hG)

theorem EW_ladd {x y : Int64} {pc2 : Nat} (hp : pc + 1 = pc2) (hd : decode M.2.1 pc = .ok (.ladd, 1))  (h : EW M pc2 lv (.long (x + y) :: st) σ d bc bs K) : EW M pc lv (.long y :: .long x :: st) σ d bc bs K := by
  subst hp
  intro p l e R s m args below meth c9 D tyc adK adV A H locs cells slots ad d0 ls G hC hP hD hS hl hsa hd0 h1 h2 h3 h4 hG
  exact lv_ladd hC.1 hC.2.1 hd  (h p l e R s m args below meth c9 D tyc adK adV A H locs cells slots ad d0 ls G hC hP hD hS hl hsa hd0 h1 h2 h3 h4 hG)

theorem EW_lsub {x y : Int64} {pc2 : Nat} (hp : pc + 1 = pc2) (hd : decode M.2.1 pc = .ok (.lsub, 1))  (h : EW M pc2 lv (.long (x - y) :: st) σ d bc bs K) : EW M pc lv (.long y :: .long x :: st) σ d bc bs K := by
  subst hp
  intro p l e R s m args below meth c9 D tyc adK adV A H locs cells slots ad d0 ls G hC hP hD hS hl hsa hd0 h1 h2 h3 h4 hG
  exact lv_lsub hC.1 hC.2.1 hd  (h p l e R s m args below meth c9 D tyc adK adV A H locs cells slots ad d0 ls G hC hP hD hS hl hsa hd0 h1 h2 h3 h4 hG)

theorem EW_lmul {x y : Int64} {pc2 : Nat} (hp : pc + 1 = pc2) (hd : decode M.2.1 pc = .ok (.lmul, 1))  (h : EW M pc2 lv (.long (x * y) :: st) σ d bc bs K) : EW M pc lv (.long y :: .long x :: st) σ d bc bs K := by
  subst hp
  intro p l e R s m args below meth c9 D tyc adK adV A H locs cells slots ad d0 ls G hC hP hD hS hl hsa hd0 h1 h2 h3 h4 hG
  exact lv_lmul hC.1 hC.2.1 hd  (h p l e R s m args below meth c9 D tyc adK adV A H locs cells slots ad d0 ls G hC hP hD hS hl hsa hd0 h1 h2 h3 h4 hG)

theorem EW_i2l {x : Int32} {v : Int64} {pc2 : Nat} (hp : pc + 1 = pc2) (hd : decode M.2.1 pc = .ok (.i2l, 1)) (hv : x.toInt64 = v) (h : EW M pc2 lv (.long v :: st) σ d bc bs K) : EW M pc lv (.int x :: st) σ d bc bs K := by
  subst hp
  intro p l e R s m args below meth c9 D tyc adK adV A H locs cells slots ad d0 ls G hC hP hD hS hl hsa hd0 h1 h2 h3 h4 hG
  exact lv_i2l hC.1 hC.2.1 hd hv (h p l e R s m args below meth c9 D tyc adK adV A H locs cells slots ad d0 ls G hC hP hD hS hl hsa hd0 h1 h2 h3 h4 hG)

theorem EW_l2i {x : Int64} {v : Int32} {pc2 : Nat} (hp : pc + 1 = pc2) (hd : decode M.2.1 pc = .ok (.l2i, 1)) (hv : x.toInt32 = v) (h : EW M pc2 lv (.int v :: st) σ d bc bs K) : EW M pc lv (.long x :: st) σ d bc bs K := by
  subst hp
  intro p l e R s m args below meth c9 D tyc adK adV A H locs cells slots ad d0 ls G hC hP hD hS hl hsa hd0 h1 h2 h3 h4 hG
  exact lv_l2i hC.1 hC.2.1 hd hv (h p l e R s m args below meth c9 D tyc adK adV A H locs cells slots ad d0 ls G hC hP hD hS hl hsa hd0 h1 h2 h3 h4 hG)

theorem EW_i2b {x v : Int32} {pc2 : Nat} (hp : pc + 1 = pc2) (hd : decode M.2.1 pc = .ok (.i2b, 1)) (hv : x.toInt8.toInt32 = v) (h : EW M pc2 lv (.int v :: st) σ d bc bs K) : EW M pc lv (.int x :: st) σ d bc bs K := by
  subst hp
  intro p l e R s m args below meth c9 D tyc adK adV A H locs cells slots ad d0 ls G hC hP hD hS hl hsa hd0 h1 h2 h3 h4 hG
  exact lv_i2b hC.1 hC.2.1 hd hv (h p l e R s m args below meth c9 D tyc adK adV A H locs cells slots ad d0 ls G hC hP hD hS hl hsa hd0 h1 h2 h3 h4 hG)

theorem EW_i2s {x v : Int32} {pc2 : Nat} (hp : pc + 1 = pc2) (hd : decode M.2.1 pc = .ok (.i2s, 1)) (hv : x.toInt16.toInt32 = v) (h : EW M pc2 lv (.int v :: st) σ d bc bs K) : EW M pc lv (.int x :: st) σ d bc bs K := by
  subst hp
  intro p l e R s m args below meth c9 D tyc adK adV A H locs cells slots ad d0 ls G hC hP hD hS hl hsa hd0 h1 h2 h3 h4 hG
  exact lv_i2s hC.1 hC.2.1 hd hv (h p l e R s m args below meth c9 D tyc adK adV A H locs cells slots ad d0 ls G hC hP hD hS hl hsa hd0 h1 h2 h3 h4 hG)

theorem EW_i2c {x v : Int32} {pc2 : Nat} (hp : pc + 1 = pc2) (hd : decode M.2.1 pc = .ok (.i2c, 1)) (hv : (x.toUInt32 % 65536).toInt32 = v) (h : EW M pc2 lv (.int v :: st) σ d bc bs K) : EW M pc lv (.int x :: st) σ d bc bs K := by
  subst hp
  intro p l e R s m args below meth c9 D tyc adK adV A H locs cells slots ad d0 ls G hC hP hD hS hl hsa hd0 h1 h2 h3 h4 hG
  exact lv_i2c hC.1 hC.2.1 hd hv (h p l e R s m args below meth c9 D tyc adK adV A H locs cells slots ad d0 ls G hC hP hD hS hl hsa hd0 h1 h2 h3 h4 hG)

theorem EW_dup {va : Value} {pc2 : Nat} (hp : pc + 1 = pc2) (hd : decode M.2.1 pc = .ok (.dup, 1)) (hva : va.category = 1) (h : EW M pc2 lv (va :: va :: st) σ d bc bs K) : EW M pc lv (va :: st) σ d bc bs K := by
  subst hp
  intro p l e R s m args below meth c9 D tyc adK adV A H locs cells slots ad d0 ls G hC hP hD hS hl hsa hd0 h1 h2 h3 h4 hG
  exact lv_dup hC.1 hC.2.1 hd (by rw [ab_cv_cat]; exact hva) (h p l e R s m args below meth c9 D tyc adK adV A H locs cells slots ad d0 ls G hC hP hD hS hl hsa hd0 h1 h2 h3 h4 hG)

theorem EW_pop {va : Value} {pc2 : Nat} (hp : pc + 1 = pc2) (hd : decode M.2.1 pc = .ok (.pop, 1)) (hva : va.category = 1) (h : EW M pc2 lv st σ d bc bs K) : EW M pc lv (va :: st) σ d bc bs K := by
  subst hp
  intro p l e R s m args below meth c9 D tyc adK adV A H locs cells slots ad d0 ls G hC hP hD hS hl hsa hd0 h1 h2 h3 h4 hG
  exact lv_pop hC.1 hC.2.1 hd (by rw [ab_cv_cat]; exact hva) (h p l e R s m args below meth c9 D tyc adK adV A H locs cells slots ad d0 ls G hC hP hD hS hl hsa hd0 h1 h2 h3 h4 hG)

theorem EW_dup_x1 {va vb : Value} {pc2 : Nat} (hp : pc + 1 = pc2) (hd : decode M.2.1 pc = .ok (.dup_x1, 1)) (hva : va.category = 1) (hvb : vb.category = 1) (h : EW M pc2 lv (va :: vb :: va :: st) σ d bc bs K) : EW M pc lv (va :: vb :: st) σ d bc bs K := by
  subst hp
  intro p l e R s m args below meth c9 D tyc adK adV A H locs cells slots ad d0 ls G hC hP hD hS hl hsa hd0 h1 h2 h3 h4 hG
  exact lv_dup_x1 hC.1 hC.2.1 hd (by rw [ab_cv_cat]; exact hva) (by rw [ab_cv_cat]; exact hvb) (h p l e R s m args below meth c9 D tyc adK adV A H locs cells slots ad d0 ls G hC hP hD hS hl hsa hd0 h1 h2 h3 h4 hG)

theorem EW_dup_x2 {va vb vd : Value} {pc2 : Nat} (hp : pc + 1 = pc2) (hd : decode M.2.1 pc = .ok (.dup_x2, 1)) (hva : va.category = 1) (hvb : vb.category = 1) (hvd : vd.category = 1) (h : EW M pc2 lv (va :: vb :: vd :: va :: st) σ d bc bs K) : EW M pc lv (va :: vb :: vd :: st) σ d bc bs K := by
  subst hp
  intro p l e R s m args below meth c9 D tyc adK adV A H locs cells slots ad d0 ls G hC hP hD hS hl hsa hd0 h1 h2 h3 h4 hG
  exact lv_dup_x2 hC.1 hC.2.1 hd (by rw [ab_cv_cat]; exact hva) (by rw [ab_cv_cat]; exact hvb) (by rw [ab_cv_cat]; exact hvd) (h p l e R s m args below meth c9 D tyc adK adV A H locs cells slots ad d0 ls G hC hP hD hS hl hsa hd0 h1 h2 h3 h4 hG)

theorem EW_dup2 {va vb : Value} {pc2 : Nat} (hp : pc + 1 = pc2) (hd : decode M.2.1 pc = .ok (.dup2, 1)) (hva : va.category = 1) (hvb : vb.category = 1) (h : EW M pc2 lv (va :: vb :: va :: vb :: st) σ d bc bs K) : EW M pc lv (va :: vb :: st) σ d bc bs K := by
  subst hp
  intro p l e R s m args below meth c9 D tyc adK adV A H locs cells slots ad d0 ls G hC hP hD hS hl hsa hd0 h1 h2 h3 h4 hG
  exact lv_dup2_11 hC.1 hC.2.1 hd (by rw [ab_cv_cat]; exact hva) (by rw [ab_cv_cat]; exact hvb) (h p l e R s m args below meth c9 D tyc adK adV A H locs cells slots ad d0 ls G hC hP hD hS hl hsa hd0 h1 h2 h3 h4 hG)

theorem EW_iload_n {k : Fin 4} {x : Int32} {pc2 : Nat} (hp : pc + 1 = pc2) (hd : decode M.2.1 pc = .ok (.iload_n k, 1)) (j : Nat) (hj : lv[j]? = some ((k : Nat), .int x)) (h : EW M pc2 lv (.int x :: st) σ d bc bs K) : EW M pc lv st σ d bc bs K := by
  subst hp
  intro p l e R s m args below meth c9 D tyc adK adV A H locs cells slots ad d0 ls G hC hP hD hS hl hsa hd0 h1 h2 h3 h4 hG
  exact lv_iload_n hC.1 hC.2.1 hd rfl (lv_at hl j (by rw [List.getElem?_map, hj]; rfl)) (h p l e R s m args below meth c9 D tyc adK adV A H locs cells slots ad d0 ls G hC hP hD hS hl hsa hd0 h1 h2 h3 h4 hG)

theorem EW_iload {i : Nat} {x : Int32} {pc2 : Nat} (hp : pc + 2 = pc2) (hd : decode M.2.1 pc = .ok (.iload i, 2)) (j : Nat) (hj : lv[j]? = some (i, .int x)) (h : EW M pc2 lv (.int x :: st) σ d bc bs K) : EW M pc lv st σ d bc bs K := by
  subst hp
  intro p l e R s m args below meth c9 D tyc adK adV A H locs cells slots ad d0 ls G hC hP hD hS hl hsa hd0 h1 h2 h3 h4 hG
  exact lv_iload hC.1 hC.2.1 hd (lv_at hl j (by rw [List.getElem?_map, hj]; rfl)) (h p l e R s m args below meth c9 D tyc adK adV A H locs cells slots ad d0 ls G hC hP hD hS hl hsa hd0 h1 h2 h3 h4 hG)

theorem EW_lload_n {k : Fin 4} {x : Int64} {pc2 : Nat} (hp : pc + 1 = pc2) (hd : decode M.2.1 pc = .ok (.lload_n k, 1)) (j : Nat) (hj : lv[j]? = some ((k : Nat), .long x)) (h : EW M pc2 lv (.long x :: st) σ d bc bs K) : EW M pc lv st σ d bc bs K := by
  subst hp
  intro p l e R s m args below meth c9 D tyc adK adV A H locs cells slots ad d0 ls G hC hP hD hS hl hsa hd0 h1 h2 h3 h4 hG
  exact lv_lload_n hC.1 hC.2.1 hd rfl (lv_at hl j (by rw [List.getElem?_map, hj]; rfl)) (h p l e R s m args below meth c9 D tyc adK adV A H locs cells slots ad d0 ls G hC hP hD hS hl hsa hd0 h1 h2 h3 h4 hG)

theorem EW_lload {i : Nat} {x : Int64} {pc2 : Nat} (hp : pc + 2 = pc2) (hd : decode M.2.1 pc = .ok (.lload i, 2)) (j : Nat) (hj : lv[j]? = some (i, .long x)) (h : EW M pc2 lv (.long x :: st) σ d bc bs K) : EW M pc lv st σ d bc bs K := by
  subst hp
  intro p l e R s m args below meth c9 D tyc adK adV A H locs cells slots ad d0 ls G hC hP hD hS hl hsa hd0 h1 h2 h3 h4 hG
  exact lv_lload hC.1 hC.2.1 hd (lv_at hl j (by rw [List.getElem?_map, hj]; rfl)) (h p l e R s m args below meth c9 D tyc adK adV A H locs cells slots ad d0 ls G hC hP hD hS hl hsa hd0 h1 h2 h3 h4 hG)

theorem EW_aload_n {k : Fin 4} {x : Nat} {pc2 : Nat} (hp : pc + 1 = pc2) (hd : decode M.2.1 pc = .ok (.aload_n k, 1)) (j : Nat) (hj : lv[j]? = some ((k : Nat), .ref x)) (h : EW M pc2 lv (.ref x :: st) σ d bc bs K) : EW M pc lv st σ d bc bs K := by
  subst hp
  intro p l e R s m args below meth c9 D tyc adK adV A H locs cells slots ad d0 ls G hC hP hD hS hl hsa hd0 h1 h2 h3 h4 hG
  exact lv_aload_n hC.1 hC.2.1 hd rfl (lv_at hl j (by rw [List.getElem?_map, hj]; rfl)) (h p l e R s m args below meth c9 D tyc adK adV A H locs cells slots ad d0 ls G hC hP hD hS hl hsa hd0 h1 h2 h3 h4 hG)

theorem EW_aload {i : Nat} {x : Nat} {pc2 : Nat} (hp : pc + 2 = pc2) (hd : decode M.2.1 pc = .ok (.aload i, 2)) (j : Nat) (hj : lv[j]? = some (i, .ref x)) (h : EW M pc2 lv (.ref x :: st) σ d bc bs K) : EW M pc lv st σ d bc bs K := by
  subst hp
  intro p l e R s m args below meth c9 D tyc adK adV A H locs cells slots ad d0 ls G hC hP hD hS hl hsa hd0 h1 h2 h3 h4 hG
  exact lv_aload hC.1 hC.2.1 hd (lv_at hl j (by rw [List.getElem?_map, hj]; rfl)) (h p l e R s m args below meth c9 D tyc adK adV A H locs cells slots ad d0 ls G hC hP hD hS hl hsa hd0 h1 h2 h3 h4 hG)

theorem EW_dload_n {k : Fin 4} {x : UInt64} {pc2 : Nat} (hp : pc + 1 = pc2) (hd : decode M.2.1 pc = .ok (.dload_n k, 1)) (j : Nat) (hj : lv[j]? = some ((k : Nat), .double x)) (h : EW M pc2 lv (.double x :: st) σ d bc bs K) : EW M pc lv st σ d bc bs K := by
  subst hp
  intro p l e R s m args below meth c9 D tyc adK adV A H locs cells slots ad d0 ls G hC hP hD hS hl hsa hd0 h1 h2 h3 h4 hG
  exact lv_dload_n hC.1 hC.2.1 hd rfl (lv_at hl j (by rw [List.getElem?_map, hj]; rfl)) (h p l e R s m args below meth c9 D tyc adK adV A H locs cells slots ad d0 ls G hC hP hD hS hl hsa hd0 h1 h2 h3 h4 hG)

theorem EW_dload {i : Nat} {x : UInt64} {pc2 : Nat} (hp : pc + 2 = pc2) (hd : decode M.2.1 pc = .ok (.dload i, 2)) (j : Nat) (hj : lv[j]? = some (i, .double x)) (h : EW M pc2 lv (.double x :: st) σ d bc bs K) : EW M pc lv st σ d bc bs K := by
  subst hp
  intro p l e R s m args below meth c9 D tyc adK adV A H locs cells slots ad d0 ls G hC hP hD hS hl hsa hd0 h1 h2 h3 h4 hG
  exact lv_dload hC.1 hC.2.1 hd (lv_at hl j (by rw [List.getElem?_map, hj]; rfl)) (h p l e R s m args below meth c9 D tyc adK adV A H locs cells slots ad d0 ls G hC hP hD hS hl hsa hd0 h1 h2 h3 h4 hG)

def ab_k1 (i : Nat) (q : Nat × Value) : Bool := !(q.1 == i) && !(q.1 + 1 == i && q.2.category == 2)
def ab_k2 (i : Nat) (q : Nat × Value) : Bool := !(q.1 == i) && (!(q.1 == i + 1) && !(q.1 + 1 == i && q.2.category == 2))
theorem ab_k1_map (ad : Nat → Nat) (i : Nat) (l : List (Nat × Value)) : (l.map (fun q => (q.1, ab_cv ad q.2))).filter (fun q => !(q.1 == i) && !(q.1 + 1 == i && q.2.category == 2)) = (l.filter (ab_k1 i)).map (fun q => (q.1, ab_cv ad q.2)) := by
  rw [List.filter_map]
  refine congrArg _ (congrArg (fun f => List.filter f l) (funext fun q => ?_))
  show (!(q.1 == i) && !(q.1 + 1 == i && (ab_cv ad q.2).category == 2)) = _
  rw [ab_cv_cat]
  rfl
theorem ab_k2_map (ad : Nat → Nat) (i : Nat) (l : List (Nat × Value)) : (l.map (fun q => (q.1, ab_cv ad q.2))).filter (fun q => !(q.1 == i) && (!(q.1 == i + 1) && !(q.1 + 1 == i && q.2.category == 2))) = (l.filter (ab_k2 i)).map (fun q => (q.1, ab_cv ad q.2)) := by
  rw [List.filter_map]
  refine congrArg _ (congrArg (fun f => List.filter f l) (funext fun q => ?_))
  show (!(q.1 == i) && (!(q.1 == i + 1) && !(q.1 + 1 == i && (ab_cv ad q.2).category == 2))) = _
  rw [ab_cv_cat]
  rfl
theorem ab_pick_map {ad : Nat → Nat} {l l' : List (Nat × Value)} (ks : List Nat) (h : lv_pick l ks = l') : lv_pick (l.map (fun q => (q.1, ab_cv ad q.2))) ks = l'.map (fun q => (q.1, ab_cv ad q.2)) := by
  subst h
  unfold lv_pick
  induction ks with
  | nil => rfl
  | cons k ks ih =>
    rw [List.filterMap_cons, List.filterMap_cons, List.getElem?_map]
    cases l[k]? with
    | none => exact ih
    | some q => exact congrArg _ ih

theorem EW_ls (ks : List Nat) {lv' : List (Nat × Value)} (hp : lv_pick lv ks = lv') (h : EW M pc lv' st σ d bc bs K) : EW M pc lv st σ d bc bs K := by
  intro p l e R s m args below meth c9 D tyc adK adV A H locs cells slots ad d0 ls G hC hP hD hS hl hsa hd0 h1 h2 h3 h4 hG
  exact (h p l e R s m args below meth c9 D tyc adK adV A H locs cells slots ad d0 ls G hC hP hD hS (lv_sub hl ks (ab_pick_map ks hp)) hsa hd0 h1 h2 h3 h4 hG)

theorem EW_istore_n {k : Fin 4} {x : Int32} {pc2 : Nat} (hpc : pc + 1 = pc2) (hd : decode M.2.1 pc = .ok (.istore_n k, 1)) (hn : (k : Nat) < M.2.2.1) (ks : List Nat) (lv' : List (Nat × Value)) (hp : lv_pick (((k : Nat), .int x) :: lv.filter (ab_k1 (k : Nat))) ks = lv') (h : EW M pc2 lv' st σ d bc bs K) : EW M pc lv (.int x :: st) σ d bc bs K := by
  subst hpc
  intro p l e R s m args below meth c9 D tyc adK adV A H locs cells slots ad d0 ls G hC hP hD hS hl hsa hd0 h1 h2 h3 h4 hG
  refine lv_istore_n hC.1 hC.2.1 hd rfl hl hn rfl (fun ls hl => ?_)
  rw [ab_k1_map] at hl
  exact (h p l e R s m args below meth c9 D tyc adK adV A H locs cells slots ad d0 ls G hC hP hD hS (lv_sub hl ks (ab_pick_map (l := ((k : Nat), .int x) :: lv.filter (ab_k1 (k : Nat))) ks hp)) hsa hd0 h1 h2 h3 h4 hG)

theorem EW_istore {i : Nat} {x : Int32} {pc2 : Nat} (hpc : pc + 2 = pc2) (hd : decode M.2.1 pc = .ok (.istore i, 2)) (hn : i < M.2.2.1) (ks : List Nat) (lv' : List (Nat × Value)) (hp : lv_pick ((i, .int x) :: lv.filter (ab_k1 i)) ks = lv') (h : EW M pc2 lv' st σ d bc bs K) : EW M pc lv (.int x :: st) σ d bc bs K := by
  subst hpc
  intro p l e R s m args below meth c9 D tyc adK adV A H locs cells slots ad d0 ls G hC hP hD hS hl hsa hd0 h1 h2 h3 h4 hG
  refine lv_istore hC.1 hC.2.1 hd  hl hn rfl (fun ls hl => ?_)
  rw [ab_k1_map] at hl
  exact (h p l e R s m args below meth c9 D tyc adK adV A H locs cells slots ad d0 ls G hC hP hD hS (lv_sub hl ks (ab_pick_map (l := (i, .int x) :: lv.filter (ab_k1 i)) ks hp)) hsa hd0 h1 h2 h3 h4 hG)

theorem EW_astore_n {k : Fin 4} {x : Nat} {pc2 : Nat} (hpc : pc + 1 = pc2) (hd : decode M.2.1 pc = .ok (.astore_n k, 1)) (hn : (k : Nat) < M.2.2.1) (ks : List Nat) (lv' : List (Nat × Value)) (hp : lv_pick (((k : Nat), .ref x) :: lv.filter (ab_k1 (k : Nat))) ks = lv') (h : EW M pc2 lv' st σ d bc bs K) : EW M pc lv (.ref x :: st) σ d bc bs K := by
  subst hpc
  intro p l e R s m args below meth c9 D tyc adK adV A H locs cells slots ad d0 ls G hC hP hD hS hl hsa hd0 h1 h2 h3 h4 hG
  refine lv_astore_n hC.1 hC.2.1 hd rfl hl hn rfl (fun ls hl => ?_)
  rw [ab_k1_map] at hl
  exact (h p l e R s m args below meth c9 D tyc adK adV A H locs cells slots ad d0 ls G hC hP hD hS (lv_sub hl ks (ab_pick_map (l := ((k : Nat), .ref x) :: lv.filter (ab_k1 (k : Nat))) ks hp)) hsa hd0 h1 h2 h3 h4 hG)

theorem EW_astore {i : Nat} {x : Nat} {pc2 : Nat} (hpc : pc + 2 = pc2) (hd : decode M.2.1 pc = .ok (.astore i, 2)) (hn : i < M.2.2.1) (ks : List Nat) (lv' : List (Nat × Value)) (hp : lv_pick ((i, .ref x) :: lv.filter (ab_k1 i)) ks = lv') (h : EW M pc2 lv' st σ d bc bs K) : EW M pc lv (.ref x :: st) σ d bc bs K := by
  subst hpc
  intro p l e R s m args below meth c9 D tyc adK adV A H locs cells slots ad d0 ls G hC hP hD hS hl hsa hd0 h1 h2 h3 h4 hG
  refine lv_astore hC.1 hC.2.1 hd  hl hn rfl (fun ls hl => ?_)
  rw [ab_k1_map] at hl
  exact (h p l e R s m args below meth c9 D tyc adK adV A H locs cells slots ad d0 ls G hC hP hD hS (lv_sub hl ks (ab_pick_map (l := (i, .ref x) :: lv.filter (ab_k1 i)) ks hp)) hsa hd0 h1 h2 h3 h4 hG)

theorem EW_lstore_n {k : Fin 4} {x : Int64} {pc2 : Nat} (hpc : pc + 1 = pc2) (hd : decode M.2.1 pc = .ok (.lstore_n k, 1)) (hn : (k : Nat) + 1 < M.2.2.1) (ks : List Nat) (lv' : List (Nat × Value)) (hp : lv_pick (((k : Nat), .long x) :: lv.filter (ab_k2 (k : Nat))) ks = lv') (h : EW M pc2 lv' st σ d bc bs K) : EW M pc lv (.long x :: st) σ d bc bs K := by
  subst hpc
  intro p l e R s m args below meth c9 D tyc adK adV A H locs cells slots ad d0 ls G hC hP hD hS hl hsa hd0 h1 h2 h3 h4 hG
  refine lv_lstore_n hC.1 hC.2.1 hd rfl hl hn rfl (fun ls hl => ?_)
  rw [ab_k2_map] at hl
  exact (h p l e R s m args below meth c9 D tyc adK adV A H locs cells slots ad d0 ls G hC hP hD hS (lv_sub hl ks (ab_pick_map (l := ((k : Nat), .long x) :: lv.filter (ab_k2 (k : Nat))) ks hp)) hsa hd0 h1 h2 h3 h4 hG)

theorem EW_lstore {i : Nat} {x : Int64} {pc2 : Nat} (hpc : pc + 2 = pc2) (hd : decode M.2.1 pc = .ok (.lstore i, 2)) (hn : i + 1 < M.2.2.1) (ks : List Nat) (lv' : List (Nat × Value)) (hp : lv_pick ((i, .long x) :: lv.filter (ab_k2 i)) ks = lv') (h : EW M pc2 lv' st σ d bc bs K) : EW M pc lv (.long x :: st) σ d bc bs K := by
  subst hpc
  intro p l e R s m args below meth c9 D tyc adK adV A H locs cells slots ad d0 ls G hC hP hD hS hl hsa hd0 h1 h2 h3 h4 hG
  refine lv_lstore hC.1 hC.2.1 hd  hl hn rfl (fun ls hl => ?_)
  rw [ab_k2_map] at hl
  exact (h p l e R s m args below meth c9 D tyc adK adV A H locs cells slots ad d0 ls G hC hP hD hS (lv_sub hl ks (ab_pick_map (l := (i, .long x) :: lv.filter (ab_k2 i)) ks hp)) hsa hd0 h1 h2 h3 h4 hG)

theorem EW_dstore_n {k : Fin 4} {x : UInt64} {pc2 : Nat} (hpc : pc + 1 = pc2) (hd : decode M.2.1 pc = .ok (.dstore_n k, 1)) (hn : (k : Nat) + 1 < M.2.2.1) (ks : List Nat) (lv' : List (Nat × Value)) (hp : lv_pick (((k : Nat), .double x) :: lv.filter (ab_k2 (k : Nat))) ks = lv') (h : EW M pc2 lv' st σ d bc bs K) : EW M pc lv (.double x :: st) σ d bc bs K := by
  subst hpc
  intro p l e R s m args below meth c9 D tyc adK adV A H locs cells slots ad d0 ls G hC hP hD hS hl hsa hd0 h1 h2 h3 h4 hG
  refine lv_dstore_n hC.1 hC.2.1 hd rfl hl hn rfl (fun ls hl => ?_)
  rw [ab_k2_map] at hl
  exact (h p l e R s m args below meth c9 D tyc adK adV A H locs cells slots ad d0 ls G hC hP hD hS (lv_sub hl ks (ab_pick_map (l := ((k : Nat), .double x) :: lv.filter (ab_k2 (k : Nat))) ks hp)) hsa hd0 h1 h2 h3 h4 hG)

theorem EW_dstore {i : Nat} {x : UInt64} {pc2 : Nat} (hpc : pc + 2 = pc2) (hd : decode M.2.1 pc = .ok (.dstore i, 2)) (hn : i + 1 < M.2.2.1) (ks : List Nat) (lv' : List (Nat × Value)) (hp : lv_pick ((i, .double x) :: lv.filter (ab_k2 i)) ks = lv') (h : EW M pc2 lv' st σ d bc bs K) : EW M pc lv (.double x :: st) σ d bc bs K := by
  subst hpc
  intro p l e R s m args below meth c9 D tyc adK adV A H locs cells slots ad d0 ls G hC hP hD hS hl hsa hd0 h1 h2 h3 h4 hG
  refine lv_dstore hC.1 hC.2.1 hd  hl hn rfl (fun ls hl => ?_)
  rw [ab_k2_map] at hl
  exact (h p l e R s m args below meth c9 D tyc adK adV A H locs cells slots ad d0 ls G hC hP hD hS (lv_sub hl ks (ab_pick_map (l := (i, .double x) :: lv.filter (ab_k2 i)) ks hp)) hsa hd0 h1 h2 h3 h4 hG)

theorem EW_iinc {i : Nat} {n : Int} {x : Int32} (v : Int32) {pc2 : Nat} (hpc : pc + 3 = pc2) (hd : decode M.2.1 pc = .ok (.iinc i n, 3)) (j : Nat) (hj : lv[j]? = some (i, .int x)) (hv : x + Int32.ofInt n = v) (hn : i < M.2.2.1) (ks : List Nat) (lv' : List (Nat × Value)) (hp : lv_pick ((i, .int v) :: lv.filter (ab_k1 i)) ks = lv') (h : EW M pc2 lv' st σ d bc bs K) : EW M pc lv st σ d bc bs K := by
  subst hpc
  intro p l e R s m args below meth c9 D tyc adK adV A H locs cells slots ad d0 ls G hC hP hD hS hl hsa hd0 h1 h2 h3 h4 hG
  refine lv_iinc hC.1 hC.2.1 hd hl (k := j) (by rw [List.getElem?_map, hj]; rfl) hv hn rfl (fun ls hl => ?_)
  rw [ab_k1_map] at hl
  exact (h p l e R s m args below meth c9 D tyc adK adV A H locs cells slots ad d0 ls G hC hP hD hS (lv_sub hl ks (ab_pick_map (l := (i, .int v) :: lv.filter (ab_k1 i)) ks hp)) hsa hd0 h1 h2 h3 h4 hG)

theorem EW_if_eq {x : Int32} {off : Int} {tgt pc2 : Nat} (hp : pc + 3 = pc2) (hd : decode M.2.1 pc = .ok (.ifCond .eq off, 3)) (ht : (pc : Int) + off = (tgt : Int)) (hk : x = 0 → EW M tgt lv st σ d bc bs K) (hf : ¬ x = 0 → EW M pc2 lv st σ d bc bs K) : EW M pc lv (.int x :: st) σ d bc bs K := by
  subst hp
  intro p l e R s m args below meth c9 D tyc adK adV A H locs cells slots ad d0 ls G hC hP hD hS hl hsa hd0 h1 h2 h3 h4 hG
  exact lv_if_eq hC.1 hC.2.1 hd ht (fun q => (hk q p l e R s m args below meth c9 D tyc adK adV A H locs cells slots ad d0 ls G hC hP hD hS hl hsa hd0 h1 h2 h3 h4 hG)) (fun q => (hf q p l e R s m args below meth c9 D tyc adK adV A H locs cells slots ad d0 ls G hC hP hD hS hl hsa hd0 h1 h2 h3 h4 hG))

theorem EW_icmp_eq {x y : Int32} {off : Int} {tgt pc2 : Nat} (hp : pc + 3 = pc2) (hd : decode M.2.1 pc = .ok (.if_icmp .eq off, 3)) (ht : (pc : Int) + off = (tgt : Int)) (hk : x = y → EW M tgt lv st σ d bc bs K) (hf : ¬ x = y → EW M pc2 lv st σ d bc bs K) : EW M pc lv (.int y :: .int x :: st) σ d bc bs K := by
  subst hp
  intro p l e R s m args below meth c9 D tyc adK adV A H locs cells slots ad d0 ls G hC hP hD hS hl hsa hd0 h1 h2 h3 h4 hG
  exact lv_icmp_eq hC.1 hC.2.1 hd ht (fun q => (hk q p l e R s m args below meth c9 D tyc adK adV A H locs cells slots ad d0 ls G hC hP hD hS hl hsa hd0 h1 h2 h3 h4 hG)) (fun q => (hf q p l e R s m args below meth c9 D tyc adK adV A H locs cells slots ad d0 ls G hC hP hD hS hl hsa hd0 h1 h2 h3 h4 hG))

theorem EW_if_ne {x : Int32} {off : Int} {tgt pc2 : Nat} (hp : pc + 3 = pc2) (hd : decode M.2.1 pc = .ok (.ifCond .ne off, 3)) (ht : (pc : Int) + off = (tgt : Int)) (hk : ¬ x = 0 → EW M tgt lv st σ d bc bs K) (hf : x = 0 → EW M pc2 lv st σ d bc bs K) : EW M pc lv (.int x :: st) σ d bc bs K := by
  subst hp
  intro p l e R s m args below meth c9 D tyc adK adV A H locs cells slots ad d0 ls G hC hP hD hS hl hsa hd0 h1 h2 h3 h4 hG
  exact lv_if_ne hC.1 hC.2.1 hd ht (fun q => (hk q p l e R s m args below meth c9 D tyc adK adV A H locs cells slots ad d0 ls G hC hP hD hS hl hsa hd0 h1 h2 h3 h4 hG)) (fun q => (hf q p l e R s m args below meth c9 D tyc adK adV A H locs cells slots ad d0 ls G hC hP hD hS hl hsa hd0 h1 h2 h3 h4 hG))

theorem EW_icmp_ne {x y : Int32} {off : Int} {tgt pc2 : Nat} (hp : pc + 3 = pc2) (hd : decode M.2.1 pc = .ok (.if_icmp .ne off, 3)) (ht : (pc : Int) + off = (tgt : Int)) (hk : ¬ x = y → EW M tgt lv st σ d bc bs K) (hf : x = y → EW M pc2 lv st σ d bc bs K) : EW M pc lv (.int y :: .int x :: st) σ d bc bs K := by
  subst hp
  intro p l e R s m args below meth c9 D tyc adK adV A H locs cells slots ad d0 ls G hC hP hD hS hl hsa hd0 h1 h2 h3 h4 hG
  exact lv_icmp_ne hC.1 hC.2.1 hd ht (fun q => (hk q p l e R s m args below meth c9 D tyc adK adV A H locs cells slots ad d0 ls G hC hP hD hS hl hsa hd0 h1 h2 h3 h4 hG)) (fun q => (hf q p l e R s m args below meth c9 D tyc adK adV A H locs cells slots ad d0 ls G hC hP hD hS hl hsa hd0 h1 h2 h3 h4 hG))

theorem EW_if_lt {x : Int32} {off : Int} {tgt pc2 : Nat} (hp : pc + 3 = pc2) (hd : decode M.2.1 pc = .ok (.ifCond .lt off, 3)) (ht : (pc : Int) + off = (tgt : Int)) (hk : x < 0 → EW M tgt lv st σ d bc bs K) (hf : ¬ x < 0 → EW M pc2 lv st σ d bc bs K) : EW M pc lv (.int x :: st) σ d bc bs K := by
  subst hp
  intro p l e R s m args below meth c9 D tyc adK adV A H locs cells slots ad d0 ls G hC hP hD hS hl hsa hd0 h1 h2 h3 h4 hG
  exact lv_if_lt hC.1 hC.2.1 hd ht (fun q => (hk q p l e R s m args below meth c9 D tyc adK adV A H locs cells slots ad d0 ls G hC hP hD hS hl hsa hd0 h1 h2 h3 h4 hG)) (fun q => (hf q p l e R s m args below meth c9 D tyc adK adV A H locs cells slots ad d0 ls G hC hP hD hS hl hsa hd0 h1 h2 h3 h4 hG))

theorem EW_icmp_lt {x y : Int32} {off : Int} {tgt pc2 : Nat} (hp : pc + 3 = pc2) (hd : decode M.2.1 pc = .ok (.if_icmp .lt off, 3)) (ht : (pc : Int) + off = (tgt : Int)) (hk : x < y → EW M tgt lv st σ d bc bs K) (hf : ¬ x < y → EW M pc2 lv st σ d bc bs K) : EW M pc lv (.int y :: .int x :: st) σ d bc bs K := by
  subst hp
  intro p l e R s m args below meth c9 D tyc adK adV A H locs cells slots ad d0 ls G hC hP hD hS hl hsa hd0 h1 h2 h3 h4 hG
  exact lv_icmp_lt hC.1 hC.2.1 hd ht (fun q => (hk q p l e R s m args below meth c9 D tyc adK adV A H locs cells slots ad d0 ls G hC hP hD hS hl hsa hd0 h1 h2 h3 h4 hG)) (fun q => (hf q p l e R s m args below meth c9 D tyc adK adV A H locs cells slots ad d0 ls G hC hP hD hS hl hsa hd0 h1 h2 h3 h4 hG))

theorem EW_if_ge {x : Int32} {off : Int} {tgt pc2 : Nat} (hp : pc + 3 = pc2) (hd : decode M.2.1 pc = .ok (.ifCond .ge off, 3)) (ht : (pc : Int) + off = (tgt : Int)) (hk : 0 ≤ x → EW M tgt lv st σ d bc bs K) (hf : ¬ 0 ≤ x → EW M pc2 lv st σ d bc bs K) : EW M pc lv (.int x :: st) σ d bc bs K := by
  subst hp
  intro p l e R s m args below meth c9 D tyc adK adV A H locs cells slots ad d0 ls G hC hP hD hS hl hsa hd0 h1 h2 h3 h4 hG
  exact lv_if_ge hC.1 hC.2.1 hd ht (fun q => (hk q p l e R s m args below meth c9 D tyc adK adV A H locs cells slots ad d0 ls G hC hP hD hS hl hsa hd0 h1 h2 h3 h4 hG)) (fun q => (hf q p l e R s m args below meth c9 D tyc adK adV A H locs cells slots ad d0 ls G hC hP hD hS hl hsa hd0 h1 h2 h3 h4 hG))

theorem EW_icmp_ge {x y : Int32} {off : Int} {tgt pc2 : Nat} (hp : pc + 3 = pc2) (hd : decode M.2.1 pc = .ok (.if_icmp .ge off, 3)) (ht : (pc : Int) + off = (tgt : Int)) (hk : y ≤ x → EW M tgt lv st σ d bc bs K) (hf : ¬ y ≤ x → EW M pc2 lv st σ d bc bs K) : EW M pc lv (.int y :: .int x :: st) σ d bc bs K := by
  subst hp
  intro p l e R s m args below meth c9 D tyc adK adV A H locs cells slots ad d0 ls G hC hP hD hS hl hsa hd0 h1 h2 h3 h4 hG
  exact lv_icmp_ge hC.1 hC.2.1 hd ht (fun q => (hk q p l e R s m args below meth c9 D tyc adK adV A H locs cells slots ad d0 ls G hC hP hD hS hl hsa hd0 h1 h2 h3 h4 hG)) (fun q => (hf q p l e R s m args below meth c9 D tyc adK adV A H locs cells slots ad d0 ls G hC hP hD hS hl hsa hd0 h1 h2 h3 h4 hG))

theorem EW_if_gt {x : Int32} {off : Int} {tgt pc2 : Nat} (hp : pc + 3 = pc2) (hd : decode M.2.1 pc = .ok (.ifCond .gt off, 3)) (ht : (pc : Int) + off = (tgt : Int)) (hk : 0 < x → EW M tgt lv st σ d bc bs K) (hf : ¬ 0 < x → EW M pc2 lv st σ d bc bs K) : EW M pc lv (.int x :: st) σ d bc bs K := by
  subst hp
  intro p l e R s m args below meth c9 D tyc adK adV A H locs cells slots ad d0 ls G hC hP hD hS hl hsa hd0 h1 h2 h3 h4 hG
  exact lv_if_gt hC.1 hC.2.1 hd ht (fun q => (hk q p l e R s m args below meth c9 D tyc adK adV A H locs cells slots ad d0 ls G hC hP hD hS hl hsa hd0 h1 h2 h3 h4 hG)) (fun q => (hf q p l e R s m args below meth c9 D tyc adK adV A H locs cells slots ad d0 ls G hC hP hD hS hl hsa hd0 h1 h2 h3 h4 hG))

theorem EW_icmp_gt {x y : Int32} {off : Int} {tgt pc2 : Nat} (hp : pc + 3 = pc2) (hd : decode M.2.1 pc = .ok (.if_icmp .gt off, 3)) (ht : (pc : Int) + off = (tgt : Int)) (hk : y < x → EW M tgt lv st σ d bc bs K) (hf : ¬ y < x → EW M pc2 lv st σ d bc bs K) : EW M pc lv (.int y :: .int x :: st) σ d bc bs K := by
  subst hp
  intro p l e R s m args below meth c9 D tyc adK adV A H locs cells slots ad d0 ls G hC hP hD hS hl hsa hd0 h1 h2 h3 h4 hG
  exact lv_icmp_gt hC.1 hC.2.1 hd ht (fun q => (hk q p l e R s m args below meth c9 D tyc adK adV A H locs cells slots ad d0 ls G hC hP hD hS hl hsa hd0 h1 h2 h3 h4 hG)) (fun q => (hf q p l e R s m args below meth c9 D tyc adK adV A H locs cells slots ad d0 ls G hC hP hD hS hl hsa hd0 h1 h2 h3 h4 hG))

theorem EW_if_le {x : Int32} {off : Int} {tgt pc2 : Nat} (hp : pc + 3 = pc2) (hd : decode M.2.1 pc = .ok (.ifCond .le off, 3)) (ht : (pc : Int) + off = (tgt : Int)) (hk : x ≤ 0 → EW M tgt lv st σ d bc bs K) (hf : ¬ x ≤ 0 → EW M pc2 lv st σ d bc bs K) : EW M pc lv (.int x :: st) σ d bc bs K := by
  subst hp
  intro p l e R s m args below meth c9 D tyc adK adV A H locs cells slots ad d0 ls G hC hP hD hS hl hsa hd0 h1 h2 h3 h4 hG
  exact lv_if_le hC.1 hC.2.1 hd ht (fun q => (hk q p l e R s m args below meth c9 D tyc adK adV A H locs cells slots ad d0 ls G hC hP hD hS hl hsa hd0 h1 h2 h3 h4 hG)) (fun q => (hf q p l e R s m args below meth c9 D tyc adK adV A H locs cells slots ad d0 ls G hC hP hD hS hl hsa hd0 h1 h2 h3 h4 hG))

theorem EW_icmp_le {x y : Int32} {off : Int} {tgt pc2 : Nat} (hp : pc + 3 = pc2) (hd : decode M.2.1 pc = .ok (.if_icmp .le off, 3)) (ht : (pc : Int) + off = (tgt : Int)) (hk : x ≤ y → EW M tgt lv st σ d bc bs K) (hf : ¬ x ≤ y → EW M pc2 lv st σ d bc bs K) : EW M pc lv (.int y :: .int x :: st) σ d bc bs K := by
  subst hp
  intro p l e R s m args below meth c9 D tyc adK adV A H locs cells slots ad d0 ls G hC hP hD hS hl hsa hd0 h1 h2 h3 h4 hG
  exact lv_icmp_le hC.1 hC.2.1 hd ht (fun q => (hk q p l e R s m args below meth c9 D tyc adK adV A H locs cells slots ad d0 ls G hC hP hD hS hl hsa hd0 h1 h2 h3 h4 hG)) (fun q => (hf q p l e R s m args below meth c9 D tyc adK adV A H locs cells slots ad d0 ls G hC hP hD hS hl hsa hd0 h1 h2 h3 h4 hG))

theorem EW_goto {off : Int} {tgt : Nat} (hd : decode M.2.1 pc = .ok (.goto off, 3)) (ht : (pc : Int) + off = (tgt : Int)) (h : EW M tgt lv st σ d bc bs K) : EW M pc lv st σ d bc bs K := by
  intro p l e R s m args below meth c9 D tyc adK adV A H locs cells slots ad d0 ls G hC hP hD hS hl hsa hd0 h1 h2 h3 h4 hG
  exact lv_goto hC.1 hC.2.1 hd ht (h p l e R s m args below meth c9 D tyc adK adV A H locs cells slots ad d0 ls G hC hP hD hS hl hsa hd0 h1 h2 h3 h4 hG)

theorem EW_tabIn {dflt lo hi : Int} {offs : Array Int} {len : Nat} {x : Int32} {off : Int} {tgt : Nat} (hd : decode M.2.1 pc = .ok (.tableswitch dflt lo hi offs, len)) (q1 : ¬ x.toInt < lo) (q2 : ¬ hi < x.toInt) (ho : offs[(x.toInt - lo).toNat]? = some off) (ht : (pc : Int) + off = (tgt : Int)) (h : EW M tgt lv st σ d bc bs K) : EW M pc lv (.int x :: st) σ d bc bs K := by
  intro p l e R s m args below meth c9 D tyc adK adV A H locs cells slots ad d0 ls G hC hP hD hS hl hsa hd0 h1 h2 h3 h4 hG
  exact lv_tableIn hC.1 hC.2.1 hd q1 q2 ho ht (h p l e R s m args below meth c9 D tyc adK adV A H locs cells slots ad d0 ls G hC hP hD hS hl hsa hd0 h1 h2 h3 h4 hG)

theorem EW_tabOut {dflt lo hi : Int} {offs : Array Int} {len : Nat} {x : Int32} {tgt : Nat} (hd : decode M.2.1 pc = .ok (.tableswitch dflt lo hi offs, len)) (q1 : x.toInt < lo ∨ hi < x.toInt) (ht : (pc : Int) + dflt = (tgt : Int)) (h : EW M tgt lv st σ d bc bs K) : EW M pc lv (.int x :: st) σ d bc bs K := by
  intro p l e R s m args below meth c9 D tyc adK adV A H locs cells slots ad d0 ls G hC hP hD hS hl hsa hd0 h1 h2 h3 h4 hG
  exact lv_tableOut hC.1 hC.2.1 hd q1 ht (h p l e R s m args below meth c9 D tyc adK adV A H locs cells slots ad d0 ls G hC hP hD hS hl hsa hd0 h1 h2 h3 h4 hG)

end EWR
