def R_law : String := "CityBrigadeLaw"
def lw_P (b : Addr) (xs : List Int32) (args : Array Value) (s : State) : Prop := args = #[.ref b] ∧ s.IntsAt b xs ∧ xs.length ≤ 3072 ∧ (Jvm.Cond.and given_1 narrow_1).before args s = true
/-- what a walk over the start with the record d0 says of its end, said of the start itself -/
theorem lw_closed {s t : State} {o : Outcome} {d0 : Drawn} {L : List Loc} {k n : Nat} (hd0 : s.drawn.sameBut d0 lw_cs) (hv : ∃ v, o = .returned v) (hW : (s.setDrawn d0).WarmedH t.vm) (hs : (s.setDrawn d0).sameButNew ({ t with vm := s.vm } : State) L k n) : State.butDraws s t lw_cs (fun t1 => Framed s o t1 L k n) := by
  have h2 : t.drawn = d0 := congrArg State.drawn hs.1
  refine ⟨⟨hv, hW, State.sameButNew.setDrawn hs s.drawn⟩, ?_, by decide⟩
  rw [h2]
  exact hd0
def lw_Q (_ : Array Value) (s : State) (o : Outcome) (t : State) : Prop := o = .returned (some (.int 1)) ∧ State.butDraws s t lw_cs (fun t1 => Framed s o t1 [] 601024 7293034)
def lw_Z (below : List Frame) (a : Array Value) (s : State) : State → Prop := fun t => ∃ o, t.status = .running ∧ Ended t below o ∧ lw_Q a s o t
/-- the law's own end, with 1 on the stack, nothing written that was there before, its room as the claim has it; d0: the record of draws at this point (at the entry s.drawn: begin with 'refine W.base ?_' and 'have hd0 := Drawn.sameBut.refl s.drawn lw_cs') -/
theorem lw_ret {p : Program} {l : Launch} {e : Env} {s : State} {m : MethodId} {below : List Frame} {meth : Method} {c : Code} {b : Nat} {d0 : Drawn} (hd0 : s.drawn.sameBut d0 lw_cs) (hx : p.tables.exec = Jvm.exec) (hb : c.code = code) (hr : meth.sig.returnType = ret) (hlocks : meth.locks = false) {pc : Nat} {H : Heap} {ls : Array Slot} (hdg : decode code pc = .ok (.ireturn, 1)) : W p l e room_1 (s.setDrawn d0) m #[Value.ref b] below meth c H [] 601024 7293034 (lw_Z below #[Value.ref b] s) (F0 m pc ls [.int 1]) := by
  intro T hT X
  obtain ⟨fs, hret, hrun, hended, hW, hframe⟩ := X.leave (v := some (.int 1)) (hlocks := hlocks) (fun h => by rw [hr] at h; cases h)
  have hmeth' : T.vm.method? m = some meth := X.method'
  refine ⟨T.setFrames fs, ?_, .returned (some (.int 1)), hrun, hended, rfl, lw_closed hd0 ⟨_, rfl⟩ hW hframe⟩
  jvm_step X.here [X.here.top, hx, hb, hdg, hmeth', hr, ret, narrow_b1]
  (try refine ⟨rfl, ?_⟩); (try refine ⟨rfl, ?_⟩)
  first | (intro acts; rw [hret _ acts rfl rfl rfl]) | rw [hret _ _ rfl rfl rfl]
  exact Steps.refl _
/-- what holds at the law's entry: the machine, the code, the tables' words (any of lw_tbl by 'hts w (by decide +kernel)'), the script of L ints xs at the cell b, what the Statement gives of the start (any of its parts by flat_of_before) -/
def lw_At (p : Program) (s : State) (m : MethodId) (meth : Method) (c : Code) (b L : Nat) (xs : Nat → Int32) : Prop :=
  p.tables.exec = Jvm.exec ∧ c.code = code ∧ meth.sig.returnType = ret ∧ c.maxLocals = 9 ∧ s.vm.findClass R_law = some m.cls ∧ (∀ w ∈ lw_tbl, w.before #[Value.ref b] s = true) ∧ va_X b L xs s s.heap ∧ b < s.heap.size ∧ meth.locks = false ∧ (Jvm.Cond.and given_1 narrow_1).before #[Value.ref b] s = true
/-- what a throw needs of the start: no stack traces, two statics of Throwable, the words of the tables -/
def lw_T (l : Launch) (s : State) (b : Nat) : Prop := l.stackTraces = false ∧ vx_Zq Bundle.tN "UNASSIGNED_STACK" Bundle.steD (fun q : Nat => s.heap.size ≤ q) s s.heap ∧ vx_Zq Bundle.tN "SUPPRESSED_SENTINEL" Bundle.listD (fun q : Nat => s.heap.size ≤ q) s s.heap ∧ ∀ w ∈ lw_tbl, w.before #[Value.ref b] s = true
/-! THE LAW'S OWN FRAME: its script at local 0, nothing else of it in the abstract state. -/
abbrev ML_law : ab_M := (yL_law, cL_law, 9, (some .boolean))
def EL (L : Nat) (xs : Nat → Int32) (pc : Nat) (lv : List (Nat × Value)) (st : List Value) (σ : ab_St) (bu : Nat) : Prop :=
  ∀ (p : Program) (l : Launch) (e : Env) (s : State) (m : MethodId) (below : List Frame) (meth : Method) (c : Code) (D : va_G) (tyc : Nat → ClassId) (adK adV : Nat → Nat) (H : Heap) (locs : List Loc) (cells slots : Nat) (ad : Nat → Nat) (d0 : Drawn) (ls : Array Slot) (b : Nat),
    ab_C ML_law p s m #[Value.ref b] meth c D tyc adK adV (fun q : Nat => s.heap.size ≤ q) → va_P D ab_cl (ab_w tyc ad σ) H → va_D (fun q : Nat => s.heap.size ≤ q) (ab_w tyc ad σ) → va_S (fun q : Nat => s.heap.size ≤ q) s.heap H locs → lv_has ls 9 ((0, Value.ref b) :: lv.map (fun q => (q.1, ab_cv ad q.2))) → ab_sa adK adV ad → (va_X b L xs s s.heap ∧ lw_T l s b) → b < s.heap.size → s.drawn.sameBut d0 lw_cs → cells + bu ≤ 601024 → slots + 60 * bu ≤ 7293034 →
    W p l e room_1 (s.setDrawn d0) m #[Value.ref b] below meth c H locs cells slots (lw_Z below #[Value.ref b] s) (F0 m pc ls (st.map (ab_cv ad)))
section ELR
variable {L : Nat} {xs : Nat → Int32} {pc : Nat} {lv : List (Nat × Value)} {st : List Value} {σ : ab_St} {bu : Nat}
theorem EL_iconst {n : Int} {v : Int32} {pc2 : Nat} (hp : pc + 1 = pc2) (hd : decode cL_law pc = .ok (.iconst n, 1)) (hv : Int32.ofInt n = v) (h : EL L xs pc2 lv (.int v :: st) σ bu) : EL L xs pc lv st σ bu := by
  subst hp
  intro p l e s m below meth c9 D tyc adK adV H locs cells slots ad d0 ls b hC hP hD hS hl hsa hX hbl hd0 h3 h4
  exact lv_iconst hC.1 hC.2.1 hd hv (h p l e s m below meth c9 D tyc adK adV H locs cells slots ad d0 ls b hC hP hD hS hl hsa hX hbl hd0 h3 h4)
theorem EL_bipush {n : Int} {v : Int32} {pc2 : Nat} (hp : pc + 2 = pc2) (hd : decode cL_law pc = .ok (.bipush n, 2)) (hv : (Int8.ofInt n).toInt32 = v) (h : EL L xs pc2 lv (.int v :: st) σ bu) : EL L xs pc lv st σ bu := by
  subst hp
  intro p l e s m below meth c9 D tyc adK adV H locs cells slots ad d0 ls b hC hP hD hS hl hsa hX hbl hd0 h3 h4
  exact lv_bipush hC.1 hC.2.1 hd hv (h p l e s m below meth c9 D tyc adK adV H locs cells slots ad d0 ls b hC hP hD hS hl hsa hX hbl hd0 h3 h4)
theorem EL_iadd {x y : Int32} {pc2 : Nat} (hp : pc + 1 = pc2) (hd : decode cL_law pc = .ok (.iadd, 1))  (h : EL L xs pc2 lv (.int (x + y) :: st) σ bu) : EL L xs pc lv (.int y :: .int x :: st) σ bu := by
  subst hp
  intro p l e s m below meth c9 D tyc adK adV H locs cells slots ad d0 ls b hC hP hD hS hl hsa hX hbl hd0 h3 h4
  exact lv_iadd hC.1 hC.2.1 hd  (h p l e s m below meth c9 D tyc adK adV H locs cells slots ad d0 ls b hC hP hD hS hl hsa hX hbl hd0 h3 h4)
theorem EL_isub {x y : Int32} {pc2 : Nat} (hp : pc + 1 = pc2) (hd : decode cL_law pc = .ok (.isub, 1))  (h : EL L xs pc2 lv (.int (x - y) :: st) σ bu) : EL L xs pc lv (.int y :: .int x :: st) σ bu := by
  subst hp
  intro p l e s m below meth c9 D tyc adK adV H locs cells slots ad d0 ls b hC hP hD hS hl hsa hX hbl hd0 h3 h4
  exact lv_isub hC.1 hC.2.1 hd  (h p l e s m below meth c9 D tyc adK adV H locs cells slots ad d0 ls b hC hP hD hS hl hsa hX hbl hd0 h3 h4)
theorem EL_iand {x y : Int32} {pc2 : Nat} (hp : pc + 1 = pc2) (hd : decode cL_law pc = .ok (.iand, 1))  (h : EL L xs pc2 lv (.int (x &&& y) :: st) σ bu) : EL L xs pc lv (.int y :: .int x :: st) σ bu := by
  subst hp
  intro p l e s m below meth c9 D tyc adK adV H locs cells slots ad d0 ls b hC hP hD hS hl hsa hX hbl hd0 h3 h4
  exact lv_iand hC.1 hC.2.1 hd  (h p l e s m below meth c9 D tyc adK adV H locs cells slots ad d0 ls b hC hP hD hS hl hsa hX hbl hd0 h3 h4)
theorem EL_i2l {x : Int32} {v : Int64} {pc2 : Nat} (hp : pc + 1 = pc2) (hd : decode cL_law pc = .ok (.i2l, 1)) (hv : x.toInt64 = v) (h : EL L xs pc2 lv (.long v :: st) σ bu) : EL L xs pc lv (.int x :: st) σ bu := by
  subst hp
  intro p l e s m below meth c9 D tyc adK adV H locs cells slots ad d0 ls b hC hP hD hS hl hsa hX hbl hd0 h3 h4
  exact lv_i2l hC.1 hC.2.1 hd hv (h p l e s m below meth c9 D tyc adK adV H locs cells slots ad d0 ls b hC hP hD hS hl hsa hX hbl hd0 h3 h4)
theorem EL_dcmp {x y : UInt64} {op : CmpOp} {pc2 : Nat} (hp : pc + 1 = pc2) (hd : decode cL_law pc = .ok (.dcmp op, 1))  (h : EL L xs pc2 lv (.int (Op.cmpValue (FP.dcmp x y) op) :: st) σ bu) : EL L xs pc lv (.double y :: .double x :: st) σ bu := by
  subst hp
  intro p l e s m below meth c9 D tyc adK adV H locs cells slots ad d0 ls b hC hP hD hS hl hsa hX hbl hd0 h3 h4
  exact lv_dcmp hC.1 hC.2.1 hd  (h p l e s m below meth c9 D tyc adK adV H locs cells slots ad d0 ls b hC hP hD hS hl hsa hX hbl hd0 h3 h4)
theorem EL_dup {va : Value} {pc2 : Nat} (hp : pc + 1 = pc2) (hd : decode cL_law pc = .ok (.dup, 1)) (hva : va.category = 1) (h : EL L xs pc2 lv (va :: va :: st) σ bu) : EL L xs pc lv (va :: st) σ bu := by
  subst hp
  intro p l e s m below meth c9 D tyc adK adV H locs cells slots ad d0 ls b hC hP hD hS hl hsa hX hbl hd0 h3 h4
  exact lv_dup hC.1 hC.2.1 hd (by rw [ab_cv_cat]; exact hva) (h p l e s m below meth c9 D tyc adK adV H locs cells slots ad d0 ls b hC hP hD hS hl hsa hX hbl hd0 h3 h4)
theorem EL_iload_n {k : Fin 4} {x : Int32} {pc2 : Nat} (hp : pc + 1 = pc2) (hd : decode cL_law pc = .ok (.iload_n k, 1)) (j : Nat) (hj : lv[j]? = some ((k : Nat), .int x)) (h : EL L xs pc2 lv (.int x :: st) σ bu) : EL L xs pc lv st σ bu := by
  subst hp
  intro p l e s m below meth c9 D tyc adK adV H locs cells slots ad d0 ls b hC hP hD hS hl hsa hX hbl hd0 h3 h4
  exact lv_iload_n hC.1 hC.2.1 hd rfl (lv_at hl (j + 1) (by rw [List.getElem?_cons_succ, List.getElem?_map, hj]; rfl)) (h p l e s m below meth c9 D tyc adK adV H locs cells slots ad d0 ls b hC hP hD hS hl hsa hX hbl hd0 h3 h4)
theorem EL_iload {i : Nat} {x : Int32} {pc2 : Nat} (hp : pc + 2 = pc2) (hd : decode cL_law pc = .ok (.iload i, 2)) (j : Nat) (hj : lv[j]? = some (i, .int x)) (h : EL L xs pc2 lv (.int x :: st) σ bu) : EL L xs pc lv st σ bu := by
  subst hp
  intro p l e s m below meth c9 D tyc adK adV H locs cells slots ad d0 ls b hC hP hD hS hl hsa hX hbl hd0 h3 h4
  exact lv_iload hC.1 hC.2.1 hd (lv_at hl (j + 1) (by rw [List.getElem?_cons_succ, List.getElem?_map, hj]; rfl)) (h p l e s m below meth c9 D tyc adK adV H locs cells slots ad d0 ls b hC hP hD hS hl hsa hX hbl hd0 h3 h4)
theorem EL_aload_n {k : Fin 4} {x : Nat} {pc2 : Nat} (hp : pc + 1 = pc2) (hd : decode cL_law pc = .ok (.aload_n k, 1)) (j : Nat) (hj : lv[j]? = some ((k : Nat), .ref x)) (h : EL L xs pc2 lv (.ref x :: st) σ bu) : EL L xs pc lv st σ bu := by
  subst hp
  intro p l e s m below meth c9 D tyc adK adV H locs cells slots ad d0 ls b hC hP hD hS hl hsa hX hbl hd0 h3 h4
  exact lv_aload_n hC.1 hC.2.1 hd rfl (lv_at hl (j + 1) (by rw [List.getElem?_cons_succ, List.getElem?_map, hj]; rfl)) (h p l e s m below meth c9 D tyc adK adV H locs cells slots ad d0 ls b hC hP hD hS hl hsa hX hbl hd0 h3 h4)
theorem EL_aload {i : Nat} {x : Nat} {pc2 : Nat} (hp : pc + 2 = pc2) (hd : decode cL_law pc = .ok (.aload i, 2)) (j : Nat) (hj : lv[j]? = some (i, .ref x)) (h : EL L xs pc2 lv (.ref x :: st) σ bu) : EL L xs pc lv st σ bu := by
  subst hp
  intro p l e s m below meth c9 D tyc adK adV H locs cells slots ad d0 ls b hC hP hD hS hl hsa hX hbl hd0 h3 h4
  exact lv_aload hC.1 hC.2.1 hd (lv_at hl (j + 1) (by rw [List.getElem?_cons_succ, List.getElem?_map, hj]; rfl)) (h p l e s m below meth c9 D tyc adK adV H locs cells slots ad d0 ls b hC hP hD hS hl hsa hX hbl hd0 h3 h4)
theorem EL_dload_n {k : Fin 4} {x : UInt64} {pc2 : Nat} (hp : pc + 1 = pc2) (hd : decode cL_law pc = .ok (.dload_n k, 1)) (j : Nat) (hj : lv[j]? = some ((k : Nat), .double x)) (h : EL L xs pc2 lv (.double x :: st) σ bu) : EL L xs pc lv st σ bu := by
  subst hp
  intro p l e s m below meth c9 D tyc adK adV H locs cells slots ad d0 ls b hC hP hD hS hl hsa hX hbl hd0 h3 h4
  exact lv_dload_n hC.1 hC.2.1 hd rfl (lv_at hl (j + 1) (by rw [List.getElem?_cons_succ, List.getElem?_map, hj]; rfl)) (h p l e s m below meth c9 D tyc adK adV H locs cells slots ad d0 ls b hC hP hD hS hl hsa hX hbl hd0 h3 h4)
theorem EL_dload {i : Nat} {x : UInt64} {pc2 : Nat} (hp : pc + 2 = pc2) (hd : decode cL_law pc = .ok (.dload i, 2)) (j : Nat) (hj : lv[j]? = some (i, .double x)) (h : EL L xs pc2 lv (.double x :: st) σ bu) : EL L xs pc lv st σ bu := by
  subst hp
  intro p l e s m below meth c9 D tyc adK adV H locs cells slots ad d0 ls b hC hP hD hS hl hsa hX hbl hd0 h3 h4
  exact lv_dload hC.1 hC.2.1 hd (lv_at hl (j + 1) (by rw [List.getElem?_cons_succ, List.getElem?_map, hj]; rfl)) (h p l e s m below meth c9 D tyc adK adV H locs cells slots ad d0 ls b hC hP hD hS hl hsa hX hbl hd0 h3 h4)
theorem el_pick {ad : Nat → Nat} {b : Nat} {l l' : List (Nat × Value)} (q : Nat × Value) (ks : List Nat) (h : lv_pick (q :: l) ks = l') : lv_pick ((q.1, ab_cv ad q.2) :: (0, Value.ref b) :: l.map (fun q => (q.1, ab_cv ad q.2))) (1 :: ks.map (fun k => if k = 0 then 0 else k + 1)) = (0, Value.ref b) :: l'.map (fun q => (q.1, ab_cv ad q.2)) := by
  subst h
  have key : ∀ ks : List Nat, lv_pick ((q.1, ab_cv ad q.2) :: (0, Value.ref b) :: l.map (fun q => (q.1, ab_cv ad q.2))) (ks.map (fun k => if k = 0 then 0 else k + 1)) = (lv_pick (q :: l) ks).map (fun q => (q.1, ab_cv ad q.2)) := by
    intro ks
    unfold lv_pick
    induction ks with
    | nil => rfl
    | cons k ks ih =>
      rw [List.map_cons, List.filterMap_cons, List.filterMap_cons]
      cases k with
      | zero => exact congrArg _ ih
      | succ k =>
        have h2 : (if k + 1 = 0 then 0 else k + 1 + 1) = k + 1 + 1 := if_neg (by omega)
        simp only [h2, List.getElem?_cons_succ, List.getElem?_map]
        cases l[k]? with
        | none => exact ih
        | some z => exact congrArg _ ih
  show (0, Value.ref b) :: _ = _
  rw [← key ks]
  rfl
theorem EL_istore {i : Nat} {x : Int32} {pc2 : Nat} (hpc : pc + 2 = pc2) (hd : decode cL_law pc = .ok (.istore i, 2)) (h0 : 1 < i) (hn : i < 9) (ks : List Nat) (lv' : List (Nat × Value)) (hp : lv_pick ((i, .int x) :: lv.filter (ab_k1 i)) ks = lv') (h : EL L xs pc2 lv' st σ bu) : EL L xs pc lv (.int x :: st) σ bu := by
  subst hpc
  intro p l e s m below meth c9 D tyc adK adV H locs cells slots ad d0 ls b hC hP hD hS hl hsa hX hbl hd0 h3 h4
  refine lv_istore hC.1 hC.2.1 hd  hl hn rfl (fun ls hl => ?_)
  rw [List.filter_cons_of_pos (by simp [Value.category]; omega), ab_k1_map] at hl
  exact (h p l e s m below meth c9 D tyc adK adV H locs cells slots ad d0 ls b hC hP hD hS (lv_sub hl _ (el_pick (i, .int x) ks hp)) hsa hX hbl hd0 h3 h4)
theorem EL_dstore {i : Nat} {x : UInt64} {pc2 : Nat} (hpc : pc + 2 = pc2) (hd : decode cL_law pc = .ok (.dstore i, 2)) (h0 : 1 < i) (hn : i + 1 < 9) (ks : List Nat) (lv' : List (Nat × Value)) (hp : lv_pick ((i, .double x) :: lv.filter (ab_k2 i)) ks = lv') (h : EL L xs pc2 lv' st σ bu) : EL L xs pc lv (.double x :: st) σ bu := by
  subst hpc
  intro p l e s m below meth c9 D tyc adK adV H locs cells slots ad d0 ls b hC hP hD hS hl hsa hX hbl hd0 h3 h4
  refine lv_dstore hC.1 hC.2.1 hd  hl hn rfl (fun ls hl => ?_)
  rw [List.filter_cons_of_pos (by simp [Value.category]; omega), ab_k2_map] at hl
  exact (h p l e s m below meth c9 D tyc adK adV H locs cells slots ad d0 ls b hC hP hD hS (lv_sub hl _ (el_pick (i, .double x) ks hp)) hsa hX hbl hd0 h3 h4)
theorem EL_astore_n {k : Fin 4} {x : Nat} {pc2 : Nat} (hpc : pc + 1 = pc2) (hd : decode cL_law pc = .ok (.astore_n k, 1)) (h0 : 1 ≤ (k : Nat)) (ks : List Nat) (lv' : List (Nat × Value)) (hp : lv_pick (((k : Nat), .ref x) :: lv.filter (ab_k1 (k : Nat))) ks = lv') (h : EL L xs pc2 lv' st σ bu) : EL L xs pc lv (.ref x :: st) σ bu := by
  subst hpc
  intro p l e s m below meth c9 D tyc adK adV H locs cells slots ad d0 ls b hC hP hD hS hl hsa hX hbl hd0 h3 h4
  refine lv_astore_n hC.1 hC.2.1 hd rfl hl (by omega) rfl (fun ls hl => ?_)
  rw [List.filter_cons_of_pos (by simp [Value.category]; omega), ab_k1_map] at hl
  exact (h p l e s m below meth c9 D tyc adK adV H locs cells slots ad d0 ls b hC hP hD hS (lv_sub hl _ (el_pick ((k : Nat), .ref x) ks hp)) hsa hX hbl hd0 h3 h4)
theorem EL_iinc {i : Nat} {n : Int} {x : Int32} (v : Int32) {pc2 : Nat} (hpc : pc + 3 = pc2) (hd : decode cL_law pc = .ok (.iinc i n, 3)) (h0 : 1 < i) (j : Nat) (hj : lv[j]? = some (i, .int x)) (hv : x + Int32.ofInt n = v) (hn : i < 9) (ks : List Nat) (lv' : List (Nat × Value)) (hp : lv_pick ((i, .int v) :: lv.filter (ab_k1 i)) ks = lv') (h : EL L xs pc2 lv' st σ bu) : EL L xs pc lv st σ bu := by
  subst hpc
  intro p l e s m below meth c9 D tyc adK adV H locs cells slots ad d0 ls b hC hP hD hS hl hsa hX hbl hd0 h3 h4
  refine lv_iinc hC.1 hC.2.1 hd hl (k := j + 1) (by rw [List.getElem?_cons_succ, List.getElem?_map, hj]; rfl) hv hn rfl (fun ls hl => ?_)
  rw [List.filter_cons_of_pos (by simp [Value.category]; omega), ab_k1_map] at hl
  exact (h p l e s m below meth c9 D tyc adK adV H locs cells slots ad d0 ls b hC hP hD hS (lv_sub hl _ (el_pick (i, .int v) ks hp)) hsa hX hbl hd0 h3 h4)
theorem EL_ls (ks : List Nat) {lv' : List (Nat × Value)} (hp : lv_pick lv ks = lv') (h : EL L xs pc lv' st σ bu) : EL L xs pc lv st σ bu := by
  intro p l e s m below meth c9 D tyc adK adV H locs cells slots ad d0 ls b hC hP hD hS hl hsa hX hbl hd0 h3 h4
  refine (h p l e s m below meth c9 D tyc adK adV H locs cells slots ad d0 ls b hC hP hD hS ?_ hsa hX hbl hd0 h3 h4)
  have h9 := ab_pick_map (ad := ad) ks hp
  refine ⟨hl.1, hl.2.1, fun q hq => ?_⟩
  rcases List.mem_cons.mp hq with rfl | hq
  · exact hl.2.2 _ List.mem_cons_self
  · rw [← h9] at hq
    obtain ⟨k, -, hk⟩ := List.mem_filterMap.mp hq
    exact hl.2.2 q (List.mem_cons_of_mem _ (List.mem_of_getElem? hk))
theorem EL_if_eq {x : Int32} {off : Int} {tgt pc2 : Nat} (hp : pc + 3 = pc2) (hd : decode cL_law pc = .ok (.ifCond .eq off, 3)) (ht : (pc : Int) + off = (tgt : Int)) (hk : x = 0 → EL L xs tgt lv st σ bu) (hf : ¬ x = 0 → EL L xs pc2 lv st σ bu) : EL L xs pc lv (.int x :: st) σ bu := by
  subst hp
  intro p l e s m below meth c9 D tyc adK adV H locs cells slots ad d0 ls b hC hP hD hS hl hsa hX hbl hd0 h3 h4
  exact lv_if_eq hC.1 hC.2.1 hd ht (fun q => (hk q p l e s m below meth c9 D tyc adK adV H locs cells slots ad d0 ls b hC hP hD hS hl hsa hX hbl hd0 h3 h4)) (fun q => (hf q p l e s m below meth c9 D tyc adK adV H locs cells slots ad d0 ls b hC hP hD hS hl hsa hX hbl hd0 h3 h4))
theorem EL_icmp_eq {x y : Int32} {off : Int} {tgt pc2 : Nat} (hp : pc + 3 = pc2) (hd : decode cL_law pc = .ok (.if_icmp .eq off, 3)) (ht : (pc : Int) + off = (tgt : Int)) (hk : x = y → EL L xs tgt lv st σ bu) (hf : ¬ x = y → EL L xs pc2 lv st σ bu) : EL L xs pc lv (.int y :: .int x :: st) σ bu := by
  subst hp
  intro p l e s m below meth c9 D tyc adK adV H locs cells slots ad d0 ls b hC hP hD hS hl hsa hX hbl hd0 h3 h4
  exact lv_icmp_eq hC.1 hC.2.1 hd ht (fun q => (hk q p l e s m below meth c9 D tyc adK adV H locs cells slots ad d0 ls b hC hP hD hS hl hsa hX hbl hd0 h3 h4)) (fun q => (hf q p l e s m below meth c9 D tyc adK adV H locs cells slots ad d0 ls b hC hP hD hS hl hsa hX hbl hd0 h3 h4))
theorem EL_if_ne {x : Int32} {off : Int} {tgt pc2 : Nat} (hp : pc + 3 = pc2) (hd : decode cL_law pc = .ok (.ifCond .ne off, 3)) (ht : (pc : Int) + off = (tgt : Int)) (hk : ¬ x = 0 → EL L xs tgt lv st σ bu) (hf : x = 0 → EL L xs pc2 lv st σ bu) : EL L xs pc lv (.int x :: st) σ bu := by
  subst hp
  intro p l e s m below meth c9 D tyc adK adV H locs cells slots ad d0 ls b hC hP hD hS hl hsa hX hbl hd0 h3 h4
  exact lv_if_ne hC.1 hC.2.1 hd ht (fun q => (hk q p l e s m below meth c9 D tyc adK adV H locs cells slots ad d0 ls b hC hP hD hS hl hsa hX hbl hd0 h3 h4)) (fun q => (hf q p l e s m below meth c9 D tyc adK adV H locs cells slots ad d0 ls b hC hP hD hS hl hsa hX hbl hd0 h3 h4))
theorem EL_icmp_ne {x y : Int32} {off : Int} {tgt pc2 : Nat} (hp : pc + 3 = pc2) (hd : decode cL_law pc = .ok (.if_icmp .ne off, 3)) (ht : (pc : Int) + off = (tgt : Int)) (hk : ¬ x = y → EL L xs tgt lv st σ bu) (hf : x = y → EL L xs pc2 lv st σ bu) : EL L xs pc lv (.int y :: .int x :: st) σ bu := by
  subst hp
  intro p l e s m below meth c9 D tyc adK adV H locs cells slots ad d0 ls b hC hP hD hS hl hsa hX hbl hd0 h3 h4
  exact lv_icmp_ne hC.1 hC.2.1 hd ht (fun q => (hk q p l e s m below meth c9 D tyc adK adV H locs cells slots ad d0 ls b hC hP hD hS hl hsa hX hbl hd0 h3 h4)) (fun q => (hf q p l e s m below meth c9 D tyc adK adV H locs cells slots ad d0 ls b hC hP hD hS hl hsa hX hbl hd0 h3 h4))
theorem EL_if_lt {x : Int32} {off : Int} {tgt pc2 : Nat} (hp : pc + 3 = pc2) (hd : decode cL_law pc = .ok (.ifCond .lt off, 3)) (ht : (pc : Int) + off = (tgt : Int)) (hk : x < 0 → EL L xs tgt lv st σ bu) (hf : ¬ x < 0 → EL L xs pc2 lv st σ bu) : EL L xs pc lv (.int x :: st) σ bu := by
  subst hp
  intro p l e s m below meth c9 D tyc adK adV H locs cells slots ad d0 ls b hC hP hD hS hl hsa hX hbl hd0 h3 h4
  exact lv_if_lt hC.1 hC.2.1 hd ht (fun q => (hk q p l e s m below meth c9 D tyc adK adV H locs cells slots ad d0 ls b hC hP hD hS hl hsa hX hbl hd0 h3 h4)) (fun q => (hf q p l e s m below meth c9 D tyc adK adV H locs cells slots ad d0 ls b hC hP hD hS hl hsa hX hbl hd0 h3 h4))
theorem EL_icmp_lt {x y : Int32} {off : Int} {tgt pc2 : Nat} (hp : pc + 3 = pc2) (hd : decode cL_law pc = .ok (.if_icmp .lt off, 3)) (ht : (pc : Int) + off = (tgt : Int)) (hk : x < y → EL L xs tgt lv st σ bu) (hf : ¬ x < y → EL L xs pc2 lv st σ bu) : EL L xs pc lv (.int y :: .int x :: st) σ bu := by
  subst hp
  intro p l e s m below meth c9 D tyc adK adV H locs cells slots ad d0 ls b hC hP hD hS hl hsa hX hbl hd0 h3 h4
  exact lv_icmp_lt hC.1 hC.2.1 hd ht (fun q => (hk q p l e s m below meth c9 D tyc adK adV H locs cells slots ad d0 ls b hC hP hD hS hl hsa hX hbl hd0 h3 h4)) (fun q => (hf q p l e s m below meth c9 D tyc adK adV H locs cells slots ad d0 ls b hC hP hD hS hl hsa hX hbl hd0 h3 h4))
theorem EL_if_ge {x : Int32} {off : Int} {tgt pc2 : Nat} (hp : pc + 3 = pc2) (hd : decode cL_law pc = .ok (.ifCond .ge off, 3)) (ht : (pc : Int) + off = (tgt : Int)) (hk : 0 ≤ x → EL L xs tgt lv st σ bu) (hf : ¬ 0 ≤ x → EL L xs pc2 lv st σ bu) : EL L xs pc lv (.int x :: st) σ bu := by
  subst hp
  intro p l e s m below meth c9 D tyc adK adV H locs cells slots ad d0 ls b hC hP hD hS hl hsa hX hbl hd0 h3 h4
  exact lv_if_ge hC.1 hC.2.1 hd ht (fun q => (hk q p l e s m below meth c9 D tyc adK adV H locs cells slots ad d0 ls b hC hP hD hS hl hsa hX hbl hd0 h3 h4)) (fun q => (hf q p l e s m below meth c9 D tyc adK adV H locs cells slots ad d0 ls b hC hP hD hS hl hsa hX hbl hd0 h3 h4))
theorem EL_icmp_ge {x y : Int32} {off : Int} {tgt pc2 : Nat} (hp : pc + 3 = pc2) (hd : decode cL_law pc = .ok (.if_icmp .ge off, 3)) (ht : (pc : Int) + off = (tgt : Int)) (hk : y ≤ x → EL L xs tgt lv st σ bu) (hf : ¬ y ≤ x → EL L xs pc2 lv st σ bu) : EL L xs pc lv (.int y :: .int x :: st) σ bu := by
  subst hp
  intro p l e s m below meth c9 D tyc adK adV H locs cells slots ad d0 ls b hC hP hD hS hl hsa hX hbl hd0 h3 h4
  exact lv_icmp_ge hC.1 hC.2.1 hd ht (fun q => (hk q p l e s m below meth c9 D tyc adK adV H locs cells slots ad d0 ls b hC hP hD hS hl hsa hX hbl hd0 h3 h4)) (fun q => (hf q p l e s m below meth c9 D tyc adK adV H locs cells slots ad d0 ls b hC hP hD hS hl hsa hX hbl hd0 h3 h4))
theorem EL_if_gt {x : Int32} {off : Int} {tgt pc2 : Nat} (hp : pc + 3 = pc2) (hd : decode cL_law pc = .ok (.ifCond .gt off, 3)) (ht : (pc : Int) + off = (tgt : Int)) (hk : 0 < x → EL L xs tgt lv st σ bu) (hf : ¬ 0 < x → EL L xs pc2 lv st σ bu) : EL L xs pc lv (.int x :: st) σ bu := by
  subst hp
  intro p l e s m below meth c9 D tyc adK adV H locs cells slots ad d0 ls b hC hP hD hS hl hsa hX hbl hd0 h3 h4
  exact lv_if_gt hC.1 hC.2.1 hd ht (fun q => (hk q p l e s m below meth c9 D tyc adK adV H locs cells slots ad d0 ls b hC hP hD hS hl hsa hX hbl hd0 h3 h4)) (fun q => (hf q p l e s m below meth c9 D tyc adK adV H locs cells slots ad d0 ls b hC hP hD hS hl hsa hX hbl hd0 h3 h4))
theorem EL_icmp_gt {x y : Int32} {off : Int} {tgt pc2 : Nat} (hp : pc + 3 = pc2) (hd : decode cL_law pc = .ok (.if_icmp .gt off, 3)) (ht : (pc : Int) + off = (tgt : Int)) (hk : y < x → EL L xs tgt lv st σ bu) (hf : ¬ y < x → EL L xs pc2 lv st σ bu) : EL L xs pc lv (.int y :: .int x :: st) σ bu := by
  subst hp
  intro p l e s m below meth c9 D tyc adK adV H locs cells slots ad d0 ls b hC hP hD hS hl hsa hX hbl hd0 h3 h4
  exact lv_icmp_gt hC.1 hC.2.1 hd ht (fun q => (hk q p l e s m below meth c9 D tyc adK adV H locs cells slots ad d0 ls b hC hP hD hS hl hsa hX hbl hd0 h3 h4)) (fun q => (hf q p l e s m below meth c9 D tyc adK adV H locs cells slots ad d0 ls b hC hP hD hS hl hsa hX hbl hd0 h3 h4))
theorem EL_if_le {x : Int32} {off : Int} {tgt pc2 : Nat} (hp : pc + 3 = pc2) (hd : decode cL_law pc = .ok (.ifCond .le off, 3)) (ht : (pc : Int) + off = (tgt : Int)) (hk : x ≤ 0 → EL L xs tgt lv st σ bu) (hf : ¬ x ≤ 0 → EL L xs pc2 lv st σ bu) : EL L xs pc lv (.int x :: st) σ bu := by
  subst hp
  intro p l e s m below meth c9 D tyc adK adV H locs cells slots ad d0 ls b hC hP hD hS hl hsa hX hbl hd0 h3 h4
  exact lv_if_le hC.1 hC.2.1 hd ht (fun q => (hk q p l e s m below meth c9 D tyc adK adV H locs cells slots ad d0 ls b hC hP hD hS hl hsa hX hbl hd0 h3 h4)) (fun q => (hf q p l e s m below meth c9 D tyc adK adV H locs cells slots ad d0 ls b hC hP hD hS hl hsa hX hbl hd0 h3 h4))
theorem EL_icmp_le {x y : Int32} {off : Int} {tgt pc2 : Nat} (hp : pc + 3 = pc2) (hd : decode cL_law pc = .ok (.if_icmp .le off, 3)) (ht : (pc : Int) + off = (tgt : Int)) (hk : x ≤ y → EL L xs tgt lv st σ bu) (hf : ¬ x ≤ y → EL L xs pc2 lv st σ bu) : EL L xs pc lv (.int y :: .int x :: st) σ bu := by
  subst hp
  intro p l e s m below meth c9 D tyc adK adV H locs cells slots ad d0 ls b hC hP hD hS hl hsa hX hbl hd0 h3 h4
  exact lv_icmp_le hC.1 hC.2.1 hd ht (fun q => (hk q p l e s m below meth c9 D tyc adK adV H locs cells slots ad d0 ls b hC hP hD hS hl hsa hX hbl hd0 h3 h4)) (fun q => (hf q p l e s m below meth c9 D tyc adK adV H locs cells slots ad d0 ls b hC hP hD hS hl hsa hX hbl hd0 h3 h4))
theorem EL_goto {off : Int} {tgt : Nat} (hd : decode cL_law pc = .ok (.goto off, 3)) (ht : (pc : Int) + off = (tgt : Int)) (h : EL L xs tgt lv st σ bu) : EL L xs pc lv st σ bu := by
  intro p l e s m below meth c9 D tyc adK adV H locs cells slots ad d0 ls b hC hP hD hS hl hsa hX hbl hd0 h3 h4
  exact lv_goto hC.1 hC.2.1 hd ht (h p l e s m below meth c9 D tyc adK adV H locs cells slots ad d0 ls b hC hP hD hS hl hsa hX hbl hd0 h3 h4)
theorem EL_tabIn {dflt lo hi : Int} {offs : Array Int} {len : Nat} {x : Int32} {off : Int} {tgt : Nat} (hd : decode cL_law pc = .ok (.tableswitch dflt lo hi offs, len)) (q1 : ¬ x.toInt < lo) (q2 : ¬ hi < x.toInt) (ho : offs[(x.toInt - lo).toNat]? = some off) (ht : (pc : Int) + off = (tgt : Int)) (h : EL L xs tgt lv st σ bu) : EL L xs pc lv (.int x :: st) σ bu := by
  intro p l e s m below meth c9 D tyc adK adV H locs cells slots ad d0 ls b hC hP hD hS hl hsa hX hbl hd0 h3 h4
  exact lv_tableIn hC.1 hC.2.1 hd q1 q2 ho ht (h p l e s m below meth c9 D tyc adK adV H locs cells slots ad d0 ls b hC hP hD hS hl hsa hX hbl hd0 h3 h4)
theorem EL_tabOut {dflt lo hi : Int} {offs : Array Int} {len : Nat} {x : Int32} {tgt : Nat} (hd : decode cL_law pc = .ok (.tableswitch dflt lo hi offs, len)) (q1 : x.toInt < lo ∨ hi < x.toInt) (ht : (pc : Int) + dflt = (tgt : Int)) (h : EL L xs tgt lv st σ bu) : EL L xs pc lv (.int x :: st) σ bu := by
  intro p l e s m below meth c9 D tyc adK adV H locs cells slots ad d0 ls b hC hP hD hS hl hsa hX hbl hd0 h3 h4
  exact lv_tableOut hC.1 hC.2.1 hd q1 ht (h p l e s m below meth c9 D tyc adK adV H locs cells slots ad d0 ls b hC hP hD hS hl hsa hX hbl hd0 h3 h4)
theorem EL_scr0 {i : Int32} {pc2 : Nat} (hp : pc + 4 = pc2) (hd1 : decode cL_law pc = .ok (.aload_n 0, 1)) (hd2 : decode cL_law (pc + 1) = .ok (.iload 4, 2)) (hd3 : decode cL_law (pc + 3) = .ok (.iaload, 1)) (j : Nat) (hj : lv[j]? = some (4, .int i)) (hin : vp_in i L) (h : EL L xs pc2 lv (.int (xs i.toNatClampNeg) :: st) σ bu) : EL L xs pc lv st σ bu := by
  subst hp
  intro p l e s m below meth c9 D tyc adK adV H locs cells slots ad d0 ls b hC hP hD hS hl hsa hX hbl hd0 h3 h4
  refine lv_aload_n hC.1 hC.2.1 hd1 rfl (lv_at hl 0 rfl) ?_
  refine lv_iload hC.1 hC.2.1 hd2 (lv_at hl (j + 1) (by rw [List.getElem?_cons_succ, List.getElem?_map, hj]; rfl)) ?_
  exact va_sld (s := s.setDrawn d0) (A := (fun q : Nat => s.heap.size ≤ q)) hC.1 hC.2.1 hX.1 hbl (Nat.not_le.mpr hbl) hS hin hd3 (h p l e s m below meth c9 D tyc adK adV H locs cells slots ad d0 ls b hC hP hD hS hl hsa hX hbl hd0 h3 h4)
theorem EL_scrk {i v : Int32} {n : Int} {pc2 : Nat} (hp : pc + 6 = pc2) (hd1 : decode cL_law pc = .ok (.aload_n 0, 1)) (hd2 : decode cL_law (pc + 1) = .ok (.iload 4, 2)) (hd3 : decode cL_law (pc + 3) = .ok (.iconst n, 1)) (hd4 : decode cL_law (pc + 4) = .ok (.iadd, 1)) (hd5 : decode cL_law (pc + 5) = .ok (.iaload, 1)) (hv : Int32.ofInt n = v) (j : Nat) (hj : lv[j]? = some (4, .int i)) (hin : vp_in (i + v) L) (h : EL L xs pc2 lv (.int (xs (i + v).toNatClampNeg) :: st) σ bu) : EL L xs pc lv st σ bu := by
  subst hp
  intro p l e s m below meth c9 D tyc adK adV H locs cells slots ad d0 ls b hC hP hD hS hl hsa hX hbl hd0 h3 h4
  refine lv_aload_n hC.1 hC.2.1 hd1 rfl (lv_at hl 0 rfl) ?_
  refine lv_iload hC.1 hC.2.1 hd2 (lv_at hl (j + 1) (by rw [List.getElem?_cons_succ, List.getElem?_map, hj]; rfl)) ?_
  refine lv_iconst hC.1 hC.2.1 hd3 hv ?_
  refine lv_iadd hC.1 hC.2.1 hd4 ?_
  exact va_sld (s := s.setDrawn d0) (A := (fun q : Nat => s.heap.size ≤ q)) hC.1 hC.2.1 hX.1 hbl (Nat.not_le.mpr hbl) hS hin hd5 (h p l e s m below meth c9 D tyc adK adV H locs cells slots ad d0 ls b hC hP hD hS hl hsa hX hbl hd0 h3 h4)
theorem EL_len {pc2 : Nat} (hp : pc + 2 = pc2) (hd1 : decode cL_law pc = .ok (.aload_n 0, 1)) (hd2 : decode cL_law (pc + 1) = .ok (.arraylength, 1)) (h : EL L xs pc2 lv (.int (Int32.ofNat L) :: st) σ bu) : EL L xs pc lv st σ bu := by
  subst hp
  intro p l e s m below meth c9 D tyc adK adV H locs cells slots ad d0 ls b hC hP hD hS hl hsa hX hbl hd0 h3 h4
  refine lv_aload_n hC.1 hC.2.1 hd1 rfl (lv_at hl 0 rfl) ?_
  exact va_slen (s := s.setDrawn d0) (A := (fun q : Nat => s.heap.size ≤ q)) hC.1 hC.2.1 hX.1 hbl (Nat.not_le.mpr hbl) hS hd2 (h p l e s m below meth c9 D tyc adK adV H locs cells slots ad d0 ls b hC hP hD hS hl hsa hX hbl hd0 h3 h4)
theorem EL_lald {c n : Nat} {i : Int32} {pc2 : Nat} (hp : pc + 1 = pc2) (hd : decode cL_law pc = .ok (.laload, 1)) (hc : c < σ.1) (hs : σ.2.1 c = .inr (3, n)) (hin : vp_in i n) (h : EL L xs pc2 lv (.long (σ.2.2.2.2.1 c i.toNatClampNeg) :: st) σ bu) : EL L xs pc lv (.int i :: .ref c :: st) σ bu := by
  subst hp
  intro p l e s m below meth c9 D tyc adK adV H locs cells slots ad d0 ls b hC hP hD hS hl hsa hX hbl hd0 h3 h4
  exact va_lald (s := s.setDrawn d0) hC.1 hC.2.1 hC.2.2.2.2.2.2.2.1 hP c 3 (by rw [ab_w_at hc, ab_e_a hs]; rfl) (ab_tys_at (by decide)) hin hd (h p l e s m below meth c9 D tyc adK adV H locs cells slots ad d0 ls b hC hP hD hS hl hsa hX hbl hd0 h3 h4)
theorem EL_ret1 (hd : decode cL_law pc = .ok (.ireturn, 1)) : EL L xs pc lv [.int 1] σ bu := by
  intro p l e s m below meth c9 D tyc adK adV H locs cells slots ad d0 ls b hC hP hD hS hl hsa hX hbl hd0 h3 h4
  refine va_forget (fun q hq => hS.2.2 q hq) ?_
  refine W.widen (k := 601024) (n := 7293034) (by omega) (by omega) ?_
  exact lw_ret hd0 hC.1 hC.2.1 hC.2.2.1 hC.2.2.2.2.2.2.1 hd
theorem EL_lcmp {x y : Int64} {pc2 : Nat} (hp : pc + 1 = pc2) (hd : decode cL_law pc = .ok (.lcmp, 1)) (h : EL L xs pc2 lv (.int (lg_cmp x y) :: st) σ bu) : EL L xs pc lv (.long y :: .long x :: st) σ bu := by
  subst hp
  intro p l e s m below meth c9 D tyc adK adV H locs cells slots ad d0 ls b hC hP hD hS hl hsa hX hbl hd0 h3 h4
  exact W.lcmp hC.1 hC.2.1 hd (h p l e s m below meth c9 D tyc adK adV H locs cells slots ad d0 ls b hC hP hD hS hl hsa hX hbl hd0 h3 h4)
theorem EL_less {bv : Nat} (hb : bv ≤ bu) (h : EL L xs pc lv st σ bv) : EL L xs pc lv st σ bu := by
  intro p l e s m below meth c9 D tyc adK adV H locs cells slots ad d0 ls b hC hP hD hS hl hsa hX hbl hd0 h3 h4
  exact h p l e s m below meth c9 D tyc adK adV H locs cells slots ad d0 ls b hC hP hD hS hl hsa hX hbl hd0 (by omega) (by omega)
theorem EL_invV {idx n : Nat} {M' : ab_M} {rest : List Value} (As : List Value) {b' ci : Nat} (hlink : Cond.methodLink RL idx M'.1 ∈ ab_G) (hinst : Cond.instanceMethod M'.1 ∈ ab_G) (hsel : Cond.selects M'.1.cls M'.1 M'.1 ∈ ab_G) (hc : b' < σ.1) (hs : σ.2.1 b' = .inl ci) (hci : ci ≤ 12) (hcl : ab_RX ci = M'.1.cls) {d' b1 b2 pc2 : Nat} (hp : pc + 3 = pc2) (hM : ab_okM M' n) (hd : decode cL_law pc = .ok (.invokevirtual idx, 3)) (hst : st = As.reverse ++ .ref b' :: rest) (hn : As.length = n) (hlen : (lg_sl (.ref b' :: As)).length ≤ M'.2.2.1) (hrm : (rest.map fun v => v.category).sum ≤ 8) (hdd : d' ≤ 1800) (hbc : b1 + b2 = bu) (hlv : b1 = 0 ∨ (ab_refs σ.1 rest ∧ ab_refs σ.1 (lv.map (·.2))))
    (h : EW M' 0 (lv_args 0 (.ref b' :: As)) [] σ d' b1 (60 * b1) (fun r σ' => EL L xs pc2 lv (r.toList ++ rest) σ' b2)) : EL L xs pc lv st σ bu := by
  intro p l e s m below meth c9 D tyc adK adV H locs cells slots ad d0 ls b hC hP hD hS hl hsa hX hbl hd0 h3 h4
  subst hst
  subst hp
  have hmet := ab_met (l := l) (D := D) (tyc := tyc) (adK := adK) (adV := adV) (ad := ad) (sz := H.size) hsa hM hlen h
  have hFr : ∀ q, va_A (ab_w tyc ad σ) H.size q → (fun q : Nat => s.heap.size ≤ q) q := fun q hq => by
    rcases hq with ⟨k, x, hk⟩ | hq
    · exact hD.2 k (q, x) hk
    · exact Nat.le_trans hS.1 hq
  have hrm2 : ((rest.map (ab_cv ad)).map fun v => v.category).sum ≤ 8 := by
    rw [List.map_map]
    have : ((fun v => v.category) ∘ ab_cv ad) = fun v : Value => v.category := funext fun v => ab_cv_cat ad v
    rw [this]; exact hrm
  refine ab_back hd0 (va_runV_D (C := M'.1.cls) (b := ad b') (s := s.setDrawn d0) (R := room_1) (As := As.map (ab_cv ad)) (rest := rest.map (ab_cv ad)) (Ts := ab_G) ⟨hC.1, hC.2.1, hC.2.2.2.1, hC.2.2.2.2.1, (dr_words hC.2.2.2.2.2.1 d0)⟩ hmet ⟨(callB_of n (dr_words hC.2.2.2.2.2.1 d0) (ab_Gin M' hM.2.2.1) rfl rfl rfl ((dr_words hC.2.2.2.2.2.1 d0) _ hM.2.2.2.1) ((dr_words hC.2.2.2.2.2.1 d0) _ hlink) ⟨hM.2.1.1, hM.2.1.2, hM.2.2.2.2.1⟩ ⟨by show d' + 1 ≤ 2048; omega, by show 8 + (M'.2.2.1 + 11) + 45 * d' ≤ 84000; have := hM.2.2.2.2.2; omega⟩), (dr_words hC.2.2.2.2.2.1 d0) _ hinst, (dr_words hC.2.2.2.2.2.1 d0) _ hsel⟩ ⟨ab_I_blind, by rw [← hcl]; exact va_recv (s := s) hC.2.2.2.2.2.2.2.1 hP (ab_cl_at hci) (by rw [ab_w_at hc, ab_e_o hs]), (fun U hU hW => ⟨rfl, ab_ST.pass (s := s.setDrawn d0) (A := (fun q : Nat => s.heap.size ≤ q)) hW (by rw [hU]; exact hS) hFr (hC.2.2.2.2.2.2.2.2.2.2.2.same rfl rfl), by rw [hU], by rw [hU]; exact hP, va_K.moved hW.alike hC.2.2.2.2.2.2.2.1, hD.weaken (fun _ _ _ _ => trivial), ab_NW.moved hW (ab_NW.drawn (d := d0) hC.2.2.2.2.2.2.2.2.1)⟩)⟩ rfl (by rw [List.length_map]; exact hn) hl.1 (by simp [ab_cv]) (lv_room hrm2) hd ⟨by show _ ≤ 601024; omega, by show _ ≤ 7293034; omega⟩) hS (fun q _ hq => hFr q hq) hFr (fun r σ' ad' H1 locs1 d1 hk hP1 hD1 hG1 hS1 hd1 => ?_)
  obtain ⟨g0, g1, g2, g3⟩ := hG1
  have hrest : rest.map (ab_cv ad') = rest.map (ab_cv ad) := by
    rcases hlv with q | q
    · rw [g3 q]
    · exact ab_refs_map q.1 g2
  have hlvs : lv.map (fun q => (q.1, ab_cv ad' q.2)) = lv.map (fun q => (q.1, ab_cv ad q.2)) := by
    rcases hlv with q | q
    · rw [g3 q]
    · exact ab_refs_lv q.2 g2
  have hstk : (r.map (ab_cv ad')).toList ++ rest.map (ab_cv ad) = (r.toList ++ rest).map (ab_cv ad') := by
    rw [List.map_append, hrest]
    cases r <;> rfl
  rw [hstk]
  exact hk p l e s m below meth c9 D tyc adK adV H1 locs1 (cells + b1) (slots + 60 * b1) ad' d1 ls b hC hP1 (hD1.weaken (fun _ q _ hq => hFr q.1 hq)) hS1 (by rw [hlvs]; exact hl) g0 hX hbl hd1 (by omega) (by omega)
theorem EL_invI {idx n : Nat} {M' : ab_M} {rest : List Value} (As : List Value) {b' : Nat} (hlink : Cond.methodLink RL idx M'.1 ∈ ab_G) (hinst : Cond.instanceMethod M'.1 ∈ ab_G) (hini : M'.1.name = "<init>") (hvoid : M'.2.2.2 = none) {d' b1 b2 pc2 : Nat} (hp : pc + 3 = pc2) (hM : ab_okM M' n) (hd : decode cL_law pc = .ok (.invokespecial idx, 3)) (hst : st = As.reverse ++ .ref b' :: rest) (hn : As.length = n) (hlen : (lg_sl (.ref b' :: As)).length ≤ M'.2.2.1) (hrm : (rest.map fun v => v.category).sum ≤ 8) (hdd : d' ≤ 1800) (hbc : b1 + b2 = bu) (hlv : b1 = 0 ∨ (ab_refs σ.1 rest ∧ ab_refs σ.1 (lv.map (·.2))))
    (h : EW M' 0 (lv_args 0 (.ref b' :: As)) [] σ d' b1 (60 * b1) (fun r σ' => EL L xs pc2 lv (r.toList ++ rest) σ' b2)) : EL L xs pc lv st σ bu := by
  intro p l e s m below meth c9 D tyc adK adV H locs cells slots ad d0 ls b hC hP hD hS hl hsa hX hbl hd0 h3 h4
  subst hst
  subst hp
  have hmet := ab_met (l := l) (D := D) (tyc := tyc) (adK := adK) (adV := adV) (ad := ad) (sz := H.size) hsa hM hlen h
  have hFr : ∀ q, va_A (ab_w tyc ad σ) H.size q → (fun q : Nat => s.heap.size ≤ q) q := fun q hq => by
    rcases hq with ⟨k, x, hk⟩ | hq
    · exact hD.2 k (q, x) hk
    · exact Nat.le_trans hS.1 hq
  have hrm2 : ((rest.map (ab_cv ad)).map fun v => v.category).sum ≤ 8 := by
    rw [List.map_map]
    have : ((fun v => v.category) ∘ ab_cv ad) = fun v : Value => v.category := funext fun v => ab_cv_cat ad v
    rw [this]; exact hrm
  refine ab_back hd0 (va_runI_D (b := ad b') (s := s.setDrawn d0) (R := room_1) (As := As.map (ab_cv ad)) (rest := rest.map (ab_cv ad)) (Ts := ab_G) ⟨hC.1, hC.2.1, hC.2.2.2.1, hC.2.2.2.2.1, (dr_words hC.2.2.2.2.2.1 d0)⟩ hmet ⟨by rw [← hvoid]; exact (callB_of n (dr_words hC.2.2.2.2.2.1 d0) (ab_Gin M' hM.2.2.1) rfl rfl rfl ((dr_words hC.2.2.2.2.2.1 d0) _ hM.2.2.2.1) ((dr_words hC.2.2.2.2.2.1 d0) _ hlink) ⟨hM.2.1.1, hM.2.1.2, hM.2.2.2.2.1⟩ ⟨by show d' + 1 ≤ 2048; omega, by show 8 + (M'.2.2.1 + 11) + 45 * d' ≤ 84000; have := hM.2.2.2.2.2; omega⟩), hini, (dr_words hC.2.2.2.2.2.1 d0) _ hinst⟩ ⟨ab_I_blind, (fun U hU hW => ⟨rfl, ab_ST.pass (s := s.setDrawn d0) (A := (fun q : Nat => s.heap.size ≤ q)) hW (by rw [hU]; exact hS) hFr (hC.2.2.2.2.2.2.2.2.2.2.2.same rfl rfl), by rw [hU], by rw [hU]; exact hP, va_K.moved hW.alike hC.2.2.2.2.2.2.2.1, hD.weaken (fun _ _ _ _ => trivial), ab_NW.moved hW (ab_NW.drawn (d := d0) hC.2.2.2.2.2.2.2.2.1)⟩)⟩ rfl (by rw [List.length_map]; exact hn) hl.1 (by simp [ab_cv]) (lv_room hrm2) hd ⟨by show _ ≤ 601024; omega, by show _ ≤ 7293034; omega⟩) hS (fun q _ hq => hFr q hq) hFr (fun r σ' ad' H1 locs1 d1 hk hP1 hD1 hG1 hS1 hd1 => ?_)
  obtain ⟨g0, g1, g2, g3⟩ := hG1
  have hrest : rest.map (ab_cv ad') = rest.map (ab_cv ad) := by
    rcases hlv with q | q
    · rw [g3 q]
    · exact ab_refs_map q.1 g2
  have hlvs : lv.map (fun q => (q.1, ab_cv ad' q.2)) = lv.map (fun q => (q.1, ab_cv ad q.2)) := by
    rcases hlv with q | q
    · rw [g3 q]
    · exact ab_refs_lv q.2 g2
  have hstk : (r.map (ab_cv ad')).toList ++ rest.map (ab_cv ad) = (r.toList ++ rest).map (ab_cv ad') := by
    rw [List.map_append, hrest]
    cases r <;> rfl
  rw [hstk]
  exact hk p l e s m below meth c9 D tyc adK adV H1 locs1 (cells + b1) (slots + 60 * b1) ad' d1 ls b hC hP1 (hD1.weaken (fun _ q _ hq => hFr q.1 hq)) hS1 (by rw [hlvs]; exact hl) g0 hX hbl hd1 (by omega) (by omega)
end ELR
