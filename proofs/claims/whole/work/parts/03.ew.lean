/-! A JUDGEMENT OVER ABSTRACT STATES. A state names its cells by numbers 0, 1, ..: their shapes (.inl class, .inr (element type, length)), and their contents as functions. 'EW' says: the machine, at this frame of this method, over any heap that holds the state, comes to the method's end with K. Each instruction is one row below; a call is one row, over the callee's EW. -/
abbrev ab_S : Type := Nat ⊕ (Nat × Nat)
/-- number of cells, shapes, whole numbers (fields; int, boolean and byte arrays), doubles, longs, references -/
abbrev ab_St : Type := Nat × (Nat → ab_S) × (Nat → Nat → Int32) × (Nat → Nat → UInt64) × (Nat → Nat → Int64) × (Nat → Nat → Option Nat)
/-- a method: its name, its bytes, its locals, what it returns -/
abbrev ab_M : Type := MethodName × ByteArray × Nat × Option FieldType
def ab_ty : Nat → FieldType := fun t => match t with
  | 0 => .int
  | 1 => .boolean
  | 2 => .byte
  | 3 => .long
  | 4 => .double
  | 5 => .object "CityBrigade$House"
  | 6 => .object "CityBrigade$Crew"
  | 7 => .object "CityBrigade$Call"
  | _ => .object "CityBrigade$Text"
def ab_tys (tyc : Nat → ClassId) : List (ClassId × FieldType) := (List.range 9).map (fun t => (tyc t, ab_ty t))
def ab_cl : List vw_C := [(RX0, TX0, 13), (RX1, TX1, 9), (RX2, TX2, 20), (RX3, TX3, 8), (RX4, TX4, 17), (RX5, TX5, 11), (RX6, TX6, 8), (RX7, TX7, 18), (RX8, TX8, 5), (RX9, TX9, 10), (RX10, TX10, 10), (RX11, TX11, 10), (RX12, TX12, 121)]
def ab_tf (ci : Nat) : Nat → FieldType := match ci with
  | 0 => tyX0
  | 1 => tyX1
  | 2 => tyX2
  | 3 => tyX3
  | 4 => tyX4
  | 5 => tyX5
  | 6 => tyX6
  | 7 => tyX7
  | 8 => tyX8
  | 9 => tyX9
  | 10 => tyX10
  | 11 => tyX11
  | _ => tyX12
def ab_N (ci : Nat) : Nat := match ci with
  | 0 => 13
  | 1 => 9
  | 2 => 20
  | 3 => 8
  | 4 => 17
  | 5 => 11
  | 6 => 8
  | 7 => 18
  | 8 => 5
  | 9 => 10
  | 10 => 10
  | 11 => 10
  | _ => 121
def ab_isr : FieldType → Bool
  | .object _ => true
  | .array _ => true
  | _ => false
def ab_cv (ad : Nat → Nat) : Value → Value
  | .ref c => .ref (ad c)
  | .int v => .int v
  | .long v => .long v
  | .float v => .float v
  | .double v => .double v
  | .null => .null
  | .retAddr v => .retAddr v
theorem ab_cv_cat (ad : Nat → Nat) (v : Value) : (ab_cv ad v).category = v.category := by cases v <;> rfl
def ab_f (ad : Nat → Nat) (σ : ab_St) (c ci k : Nat) : Value := if ab_isr (ab_tf ci k) = true then va_rf ((σ.2.2.2.2.2 c k).map ad) else .int (σ.2.2.1 c k)
def ab_fs (ad : Nat → Nat) (σ : ab_St) (c ci : Nat) : List Value := (List.range (ab_N ci)).map (ab_f ad σ c ci)
def ab_a (ad : Nat → Nat) (σ : ab_St) (c t : Nat) : (Nat → Int32) ⊕ (Nat → Int64) ⊕ (Nat → UInt32) ⊕ (Nat → UInt64) ⊕ (Nat → Option Nat) :=
  if t < 3 then .inl (σ.2.2.1 c) else if t = 3 then .inr (.inl (σ.2.2.2.2.1 c)) else if t = 4 then .inr (.inr (.inr (.inl (σ.2.2.2.1 c)))) else .inr (.inr (.inr (.inr (fun j => (σ.2.2.2.2.2 c j).map ad))))
def ab_e (tyc : Nat → ClassId) (ad : Nat → Nat) (σ : ab_St) (c : Nat) : va_E := match σ.2.1 c with
  | .inl ci => .inr (ci, ab_fs ad σ c ci)
  | .inr q => .inl (tyc q.1, q.2, ab_a ad σ c q.1)
def ab_w (tyc : Nat → ClassId) (ad : Nat → Nat) (σ : ab_St) : va_W := (List.range σ.1).map (fun c => (ad c, ab_e tyc ad σ c))
theorem ab_w_at {tyc : Nat → ClassId} {ad : Nat → Nat} {σ : ab_St} {c : Nat} (h : c < σ.1) : (ab_w tyc ad σ)[c]? = some (ad c, ab_e tyc ad σ c) := by
  simp [ab_w, List.getElem?_map, List.getElem?_range h]
theorem ab_w_of {tyc : Nat → ClassId} {ad : Nat → Nat} {σ : ab_St} {k : Nat} {q : Nat × va_E} (h : (ab_w tyc ad σ)[k]? = some q) : k < σ.1 ∧ q = (ad k, ab_e tyc ad σ k) := by
  have hk : k < σ.1 := by
    have := (List.getElem?_eq_some_iff.mp h).1
    simpa [ab_w] using this
  rw [ab_w_at hk] at h
  exact ⟨hk, (Option.some.inj h).symm⟩
theorem ab_range_set {α : Type} (f : Nat → α) (n k : Nat) (v : α) : ((List.range n).map f).set k v = (List.range n).map (fun j => if j = k then v else f j) := by
  apply List.ext_getElem?
  intro i
  rw [List.getElem?_set, List.getElem?_map, List.getElem?_map, List.length_map, List.length_range]
  by_cases hi : i < n
  · rw [List.getElem?_range hi]
    by_cases hk : k = i
    · subst hk
      simp [hi]
    · have hk2 : ¬ i = k := fun h => hk h.symm
      simp [hk, hk2]
  · have hn : (List.range n)[i]? = none := by simp; omega
    rw [hn]
    by_cases hk : k = i
    · subst hk
      simp [hi]
    · simp [hk]
theorem ab_w_set {tyc : Nat → ClassId} {ad : Nat → Nat} {σ σ' : ab_St} {c : Nat} {x : va_E} (hn : σ'.1 = σ.1) (hx : ab_e tyc ad σ' c = x) (ho : ∀ j, j ≠ c → ab_e tyc ad σ' j = ab_e tyc ad σ j) : (ab_w tyc ad σ).set c (ad c, x) = ab_w tyc ad σ' := by
  unfold ab_w
  rw [ab_range_set, hn]
  refine congrArg (fun f => (List.range σ.1).map f) (funext fun j => ?_)
  by_cases hj : j = c
  · subst hj
    simp [hx]
  · simp [hj, ho j hj]
/-- a whole number is put -/
def ab_ui (σ : ab_St) (c k : Nat) (v : Int32) : ab_St := (σ.1, σ.2.1, (fun j => if j = c then upd (σ.2.2.1 c) k v else σ.2.2.1 j), σ.2.2.2)
/-- a reference is put -/
def ab_ur (σ : ab_St) (c k : Nat) (v : Option Nat) : ab_St := (σ.1, σ.2.1, σ.2.2.1, σ.2.2.2.1, σ.2.2.2.2.1, (fun j => if j = c then va_up (σ.2.2.2.2.2 c) k v else σ.2.2.2.2.2 j))
/-- a double, a long is put -/
def ab_ud (σ : ab_St) (c k : Nat) (v : UInt64) : ab_St := (σ.1, σ.2.1, σ.2.2.1, (fun j => if j = c then vf_upd (σ.2.2.2.1 c) k v else σ.2.2.2.1 j), σ.2.2.2.2)
def ab_ul (σ : ab_St) (c k : Nat) (v : Int64) : ab_St := (σ.1, σ.2.1, σ.2.2.1, σ.2.2.2.1, (fun j => if j = c then vp_updL (σ.2.2.2.2.1 c) k v else σ.2.2.2.2.1 j), σ.2.2.2.2.2)
/-- the words that every method has, and those of nest mates -/
def ab_G : List Cond := lw_tbl.filter goodWord
theorem ab_in {w : Cond} (i : Nat) (h : lw_tbl[i]? = some w) (hg : goodWord w = true) : w ∈ ab_G := List.mem_filter.mpr ⟨List.mem_of_getElem? h, hg⟩
def ab_isN : Cond → Bool
  | .methodLinkNest .. => true
  | _ => false
def ab_NW (s : State) : Prop := ∀ w ∈ tables_1.filter ab_isN, va_Nw w s
theorem ab_NW.moved {s U : State} (hW : s.WarmedH U.vm) (h : ab_NW s) : ab_NW U := by
  intro w hw
  have h1 := h w hw
  obtain ⟨-, h2⟩ := List.mem_filter.mp hw
  cases w <;> first | exact va_Nw.warmM hW h1 | (simp [ab_isN] at h2; done)
theorem ab_NW.calling {U : State} {g : JFrame} {mk : MethodId} {a : Array Value} (h : ab_NW U) : ab_NW (U.calling g mk a) := by
  intro w hw
  have h1 := h w hw
  obtain ⟨-, h2⟩ := List.mem_filter.mp hw
  cases w <;> first | exact va_Nw.same rfl rfl h1 | (simp [ab_isN] at h2; done)
/-- the texts that the code names: cells 1000000 + j, their bytes 2000000 + j -/
def ab_slen : List Nat := [10, 6, 11, 5, 0]
def ab_sbyt : List (List Int32) := [[119, 104, 102, 107, 97, 112, 115, 108, 99, 111], [118, 98, 101, 116, 109, 103], [115, 114, 117, 107, 103, 120, 119, 121, 100, 110, 108], [112, 115, 108, 99, 109], []]
def ab_sa (adK adV ad : Nat → Nat) : Prop := ∀ j, j < 5 → ad (1000000 + j) = adK j ∧ ad (2000000 + j) = adV j
def ab_ST (adK adV : Nat → Nat) (A : Nat → Prop) (s : State) : Prop :=
  vk_S 5 ab_slen ab_sbyt adK adV A s s.heap ∧ va_Z "java/lang/String" "COMPACT_STRINGS" "Z" (.int 1) A s s.heap ∧
  vk_R "CityBrigade$Tape" 15 "whfkapslco" (adK 0) s ∧ vk_R "CityBrigade$Tape" 40 "vbetmg" (adK 1) s ∧ vk_R "CityBrigade$Tape" 50 "srukgxwydnl" (adK 2) s ∧ vk_R "CityBrigade$Tape" 70 "pslcm" (adK 3) s ∧
  vk_R "CityBrigadeModel" 208 "" (adK 4) s ∧ vk_R "CityBrigadeModel" 503 "whfkapslco" (adK 0) s ∧ vk_R "CityBrigadeModel" 505 "vbetmg" (adK 1) s ∧ vk_R "CityBrigadeModel" 507 "srukgxwydnl" (adK 2) s
theorem ab_ST.pass {adK adV : Nat → Nat} {A B : Nat → Prop} {s U : State} {locs : List Loc} (hW : s.WarmedH U.vm) (hS : va_S A s.heap U.heap locs) (hF : ∀ q, B q → A q) (h : ab_ST adK adV A s) : ab_ST adK adV B U := by
  obtain ⟨a1, a2, r1, r2, r3, r4, r5, r6, r7, r8⟩ := h
  exact ⟨((a1.kept hS.2.1).moved hW.alike).narrow hF, ((a2.kept hS.2.1).moved hW.alike).narrow hF, r1.warm hW, r2.warm hW, r3.warm hW, r4.warm hW, r5.warm hW, r6.warm hW, r7.warm hW, r8.warm hW⟩
theorem ab_ST.same {adK adV : Nat → Nat} {A : Nat → Prop} {s U : State} (hv : U.vm = s.vm) (hh : U.heap = s.heap) (h : ab_ST adK adV A s) : ab_ST adK adV A U := by
  obtain ⟨a1, a2, r1, r2, r3, r4, r5, r6, r7, r8⟩ := h
  have hal : s.vm.Alike U.vm := by rw [hv]; exact Vm.Alike.refl _
  refine ⟨?_, ?_, r1.same hv, r2.same hv, r3.same hv, r4.same hv, r5.same hv, r6.same hv, r7.same hv, r8.same hv⟩
  · rw [hh]; exact a1.moved hal
  · rw [hh]; exact a2.moved hal
def ab_ws (M : ab_M) : List Cond := .code M.1 M.2.1 M.2.2.1 M.2.2.2 :: ab_G
def ab_rm (d bc bs : Nat) : Room := { frames := d, cells := bc, slots := bs, locals := 45 * d }
/-- what is fixed through a method -/
def ab_C (M : ab_M) (p : Program) (s : State) (m : MethodId) (args : Array Value) (meth : Method) (c : Code) (D : va_G) (tyc : Nat → ClassId) (adK adV : Nat → Nat) (A : Nat → Prop) : Prop :=
  p.tables.exec = Jvm.exec ∧ c.code = M.2.1 ∧ meth.sig.returnType = M.2.2.2 ∧ c.maxLocals = M.2.2.1 ∧ s.vm.findClass M.1.cls = some m.cls ∧ (∀ w ∈ ab_G, w.before args s = true) ∧ meth.locks = false ∧ va_K D ab_cl (ab_tys tyc) s ∧ ab_NW s ∧ (∀ q, s.heap.size ≤ q → A q) ∧ meth.name = M.1.name ∧ ab_ST adK adV A s
/-- the end of a method -/
def ab_Q (D : va_G) (tyc : Nat → ClassId) (A : Nat → Prop) (G : ab_St → (Nat → Nat) → Prop) (K : Option Value → ab_St → Prop) : Array Value → State → Outcome → State → Prop := fun _ st o t =>
  (∃ (r : Option Value) (σ : ab_St) (ad : Nat → Nat), o = .returned (r.map (ab_cv ad)) ∧ K r σ ∧ va_P D ab_cl (ab_w tyc ad σ) t.heap ∧ va_D A (ab_w tyc ad σ) ∧ G σ ad) ∧ va_F A st t
def EW (M : ab_M) (pc : Nat) (lv : List (Nat × Value)) (st : List Value) (σ : ab_St) (d bc bs : Nat) (K : Option Value → ab_St → Prop) : Prop :=
  ∀ (p : Program) (l : Launch) (e : Env) (R : Room) (s : State) (m : MethodId) (args : Array Value) (below : List Frame) (meth : Method) (c : Code) (D : va_G) (tyc : Nat → ClassId) (adK adV : Nat → Nat) (A : Nat → Prop) (H : Heap) (locs : List Loc) (cells slots : Nat) (ad : Nat → Nat) (d0 : Drawn) (ls : Array Slot) (G : ab_St → (Nat → Nat) → Prop),
    ab_C M p s m args meth c D tyc adK adV A → va_P D ab_cl (ab_w tyc ad σ) H → va_D A (ab_w tyc ad σ) → va_S A s.heap H locs → lv_has ls M.2.2.1 (lv.map (fun q => (q.1, ab_cv ad q.2))) → ab_sa adK adV ad → s.drawn.sameBut d0 lw_cs → d ≤ R.frames → 45 * d ≤ R.locals → cells + bc ≤ R.cells → slots + bs ≤ R.slots →
    (∀ (σ' : ab_St) (ad' : Nat → Nat), σ.1 ≤ σ'.1 → (∀ q, q < σ.1 → ad' q = ad q) → (bc = 0 → ad' = ad) → ab_sa adK adV ad' → G σ' ad') →
    W p l e R (s.setDrawn d0) m args below meth c H locs cells slots (MQD lw_cs below (ab_Q D tyc A G K) args s R.cells R.slots A) (F0 m pc ls (st.map (ab_cv ad)))
theorem EW_mono {M : ab_M} {pc : Nat} {lv : List (Nat × Value)} {st : List Value} {σ : ab_St} {d bc bs : Nat} {K K' : Option Value → ab_St → Prop} (hk : ∀ r σ', K r σ' → K' r σ') (h : EW M pc lv st σ d bc bs K) : EW M pc lv st σ d bc bs K' := by
  intro p l e R s m args below meth c D tyc adK adV A H locs cells slots ad d0 ls G hC hP hD hS hl hsa hd0 h1 h2 h3 h4 hG T hT X
  obtain ⟨t, a, d1, hd1, o, b1, b2, ⟨⟨r, σ', ad', q1, q2, q3⟩, q4⟩, b4⟩ := h p l e R s m args below meth c D tyc adK adV A H locs cells slots ad d0 ls G hC hP hD hS hl hsa hd0 h1 h2 h3 h4 hG T hT X
  exact ⟨t, a, d1, hd1, o, b1, b2, ⟨⟨r, σ', ad', q1, hk r σ' q2, q3⟩, q4⟩, b4⟩
/-- more frames than are needed -/
theorem EW_deep {M : ab_M} {pc : Nat} {lv : List (Nat × Value)} {st : List Value} {σ : ab_St} {d d' bc bs : Nat} {K : Option Value → ab_St → Prop} (hd : d' ≤ d) (h : EW M pc lv st σ d' bc bs K) : EW M pc lv st σ d bc bs K := by
  intro p l e R s m args below meth c D tyc adK adV A H locs cells slots ad d0 ls G hC hP hD hS hl hsa hd0 h1 h2 h3 h4 hG
  exact h p l e R s m args below meth c D tyc adK adV A H locs cells slots ad d0 ls G hC hP hD hS hl hsa hd0 (by omega) (by omega) h3 h4 hG
