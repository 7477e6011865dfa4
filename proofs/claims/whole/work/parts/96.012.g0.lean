/-! TWO STATES: the program's cells of x, the reference's of s. -/
def mg (x s : ab_X) : ab_X := ((fun c => if c < 246 then x.1 c else s.1 c), s.2)
theorem mg_c {x s : ab_X} {c : Nat} (h : c < 246) : (mg x s).1 c = x.1 c := if_pos h
theorem mg_m {x s : ab_X} {c : Nat} (h : 246 ≤ c) : (mg x s).1 c = s.1 c := if_neg (by omega)
theorem mg_wc {x s : ab_X} {c k : Nat} {v : Int32} (h : c < 246) : mg (wr x c k v) s = wr (mg x s) c k v := by
  refine Prod.ext ?_ rfl
  funext d i
  by_cases q : d < 246
  · rw [mg_c q, wr_rd, wr_rd, mg_c q]
  · rw [mg_m (by omega), wr_ne (by omega), mg_m (by omega)]
theorem mg_wm {x s : ab_X} {c k : Nat} {v : Int32} (h : 246 ≤ c) : mg x (wr s c k v) = wr (mg x s) c k v := by
  refine Prod.ext ?_ rfl
  funext d i
  by_cases q : d < 246
  · rw [mg_c q, wr_ne (by omega), mg_c q]
  · rw [mg_m (by omega), wr_rd, wr_rd, mg_m (by omega)]
def Inv2 (x s : ab_X) : Prop := InvA (mg x s)
theorem kC_lt {c : Nat} (h : kC c) : c < 246 := by unfold kC at h; omega
theorem kM_ge {c : Nat} (h : kM c) : 246 ≤ c := by unfold kM at h; omega
theorem Inv2.r {x s : ab_X} (h : Inv2 x s) : RR x.1 s.1 (s.2.1 329) := RR_keep h.2 h.1 ⟨fun c q => (mg_c (kC_lt q)).symm, by rw [mg_c (by decide)], fun c f p q => by rw [mg_c (by omega)]⟩ ⟨fun c q => (mg_m (kM_ge q)).symm, fun f q => by rw [mg_m (by decide)]⟩ (fun k _ => by rw [mg_m (by decide)])
theorem Inv2.w {x s : ab_X} (h : Inv2 x s) : WW s.1 := WW_keep h.2 ⟨fun c q => (mg_m (kM_ge q)).symm, fun f q => by rw [mg_m (by decide)]⟩
theorem Inv2_of {x s : ab_X} (r : RR x.1 s.1 (s.2.1 329)) (w : WW s.1) : Inv2 x s := ⟨RR_keep w r ⟨fun c q => mg_c (kC_lt q), by rw [mg_c (by decide)], fun c f p q => by rw [mg_c (by omega)]⟩ ⟨fun c q => mg_m (kM_ge q), fun f q => by rw [mg_m (by decide)]⟩ (fun k _ => by rw [mg_m (by decide)]), WW_keep w ⟨fun c q => mg_m (kM_ge q), fun f q => by rw [mg_m (by decide)]⟩⟩
theorem Inv2.kc {x y s : ab_X} (h : Inv2 x s) (k : keepC x.1 y.1) : Inv2 y s := Inv2_of (RR_keep h.w h.r k keepM.rfl' (fun _ _ => rfl)) h.w
theorem Inv2.id {x : ab_X} (h : InvA x) : Inv2 x x := Inv2_of h.1 h.2
/-- both runs done -/
theorem Inv2.fin {y s z : ab_X} (h : Inv2 y s) (c : ∀ c, c < 246 → z.1 c = y.1 c) (m : keepM s.1 z.1) (wa : ∀ k, k < 288 → z.1 268 k = nI 0) (d : z.2.1 329 = s.2.1 329) : InvA z := by
  refine ⟨?_, WW_keep h.w m⟩
  rw [d]
  exact RR_keep h.w h.r ⟨fun i q => c i (kC_lt q), by rw [c 158 (by decide)], fun i f p q => by rw [c (82 + i) (by omega)]⟩ m (fun k p => (wa k p).trans (h.r.wa k p).symm)
def smM (x y : ab_X) : Prop := (∀ c, 246 ≤ c → y.1 c = x.1 c) ∧ y.2 = x.2
def smC (x y : ab_X) : Prop := (∀ c, c < 246 → y.1 c = x.1 c) ∧ y.2.1 = x.2.1
theorem smM.rfl' {x : ab_X} : smM x x := ⟨fun _ _ => rfl, rfl⟩
theorem smC.rfl' {x : ab_X} : smC x x := ⟨fun _ _ => rfl, rfl⟩
theorem smM.tr {x y z : ab_X} (h : smM x y) (h2 : smM y z) : smM x z := ⟨fun c q => (h2.1 c q).trans (h.1 c q), h2.2.trans h.2⟩
theorem smC.tr {x y z : ab_X} (h : smC x y) (h2 : smC y z) : smC x z := ⟨fun c q => (h2.1 c q).trans (h.1 c q), h2.2.trans h.2⟩
theorem smM.wr {x : ab_X} {c k : Nat} {v : Int32} (h : c < 246) : smM x (wr x c k v) := ⟨fun d q => wr_n (by omega), rfl⟩
theorem smC.wr {x : ab_X} {c k : Nat} {v : Int32} (h : 246 ≤ c) : smC x (wr x c k v) := ⟨fun d q => wr_n (by omega), rfl⟩
theorem smM.m {x y s : ab_X} (h : smM x y) (m : keepM s.1 x.1) : keepM s.1 y.1 := ⟨fun c q => by rw [h.1 c (kM_ge q)]; exact m.1 c q, fun f q => by rw [h.1 246 (by decide)]; exact m.2 f q⟩
/-- the model's kept cells under a change of both -/
theorem keepM_wr {s x : ab_X} {c k : Nat} {v : Int32} (m : keepM s.1 x.1) : keepM (wr s c k v).1 (wr x c k v).1 := ⟨fun d q => by funext i; rw [wr_rd, wr_rd, m.1 d q], fun f q => by rw [wr_rd, wr_rd, m.2 f q]⟩
