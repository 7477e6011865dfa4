/-! WHAT A QUESTION LEAVES AS IT IS. -/
theorem wr_ne {x : ab_X} {c k c' k' : Nat} {v : Int32} (h : c' ≠ c ∨ k' ≠ k) : (wr x c k v).1 c' k' = x.1 c' k' := by
  rw [wr_rd, if_neg]
  omega
def kC (c : Nat) : Prop := c ≤ 7 ∨ (9 ≤ c ∧ c ≤ 13) ∨ (15 ≤ c ∧ c ≤ 17) ∨ (24 ≤ c ∧ c ≤ 25) ∨ (27 ≤ c ∧ c ≤ 66) ∨ (98 ≤ c ∧ c ≤ 157) ∨ c = 159 ∨ c = 165 ∨ (167 ≤ c ∧ c ≤ 172) ∨ (243 ≤ c ∧ c ≤ 245)
def kM (c : Nat) : Prop := (247 ≤ c ∧ c ≤ 252) ∨ (254 ≤ c ∧ c ≤ 267) ∨ (271 ≤ c ∧ c ≤ 277) ∨ (279 ≤ c ∧ c ≤ 293) ∨ c = 295 ∨ (298 ≤ c ∧ c ≤ 306) ∨ (310 ≤ c ∧ c ≤ 318) ∨ (320 ≤ c ∧ c ≤ 323) ∨ (331 ≤ c ∧ c ≤ 332)
def kS (f : Nat) : Prop := f = 9 ∨ f = 31 ∨ f = 56 ∨ f = 57 ∨ f = 58 ∨ f = 92 ∨ f = 71 ∨ f = 1 ∨ f = 70 ∨ f = 72 ∨ f = 99 ∨ f = 116 ∨ f = 73
def keepC (X X' : Nat → Nat → Int32) : Prop := (∀ c, kC c → X' c = X c) ∧ X' 158 1 = X 158 1 ∧ (∀ c f, c < 16 → f ≤ 16 → X' (82 + c) f = X (82 + c) f)
def keepM (Y Y' : Nat → Nat → Int32) : Prop := (∀ c, kM c → Y' c = Y c) ∧ (∀ f, kS f → Y' 246 f = Y 246 f)
def tk (c k : Nat) : Prop := (c = 70 ∨ c = 75 ∨ (175 ≤ c ∧ c ≤ 230 ∧ c % 5 = 0)) ∨ (k = 1 ∧ (c = 69 ∨ c = 74 ∨ (174 ≤ c ∧ c ≤ 229 ∧ c % 5 = 4))) ∨ (300 ≤ c ∧ c ≤ 304) ∨ (c = 246 ∧ (k = 71 ∨ k = 72 ∨ k = 73))
def keepT (X X' : Nat → Nat → Int32) : Prop := ∀ c k, tk c k → X' c k = X c k
theorem keepT.rfl' {X : Nat → Nat → Int32} : keepT X X := fun _ _ _ => rfl
theorem keepT.tr {X Y Z : Nat → Nat → Int32} (h : keepT X Y) (h2 : keepT Y Z) : keepT X Z := fun c k q => (h2 c k q).trans (h c k q)
theorem keepC.tr {X Y Z : Nat → Nat → Int32} (h : keepC X Y) (h2 : keepC Y Z) : keepC X Z := ⟨fun c q => (h2.1 c q).trans (h.1 c q), h2.2.1.trans h.2.1, fun c f p q => (h2.2.2 c f p q).trans (h.2.2 c f p q)⟩
theorem keepM.tr {X Y Z : Nat → Nat → Int32} (h : keepM X Y) (h2 : keepM Y Z) : keepM X Z := ⟨fun c q => (h2.1 c q).trans (h.1 c q), fun c q => (h2.2 c q).trans (h.2 c q)⟩
theorem keepC.rfl' {X : Nat → Nat → Int32} : keepC X X := ⟨fun _ _ => rfl, rfl, fun _ _ _ _ => rfl⟩
theorem keepM.rfl' {X : Nat → Nat → Int32} : keepM X X := ⟨fun _ _ => rfl, fun _ _ => rfl⟩
theorem RR_keep {X Y X' Y' : Nat → Nat → Int32} {D : Nat → UInt64} (w : WW Y) (h : RR X Y D) (c : keepC X X') (m : keepM Y Y') (wa : ∀ k, k < 288 → Y' 268 k = Y 268 k) : RR X' Y' D := by
  refine ⟨?_, ?_, ?_, ?_, ?_, ?_, ?_, ?_, ?_, ?_, fun k p => (wa k p).trans (h.wa k p)⟩
  · refine Rsc_fr h.sc ?_ ?_ ?_ ?_ ?_ ?_ ?_ ?_ ?_ ?_ ?_ ?_ (m.2 _ (by simp [kS])) (m.2 _ (by simp [kS])) (m.2 _ (by simp [kS])) (m.2 _ (by simp [kS])) (m.2 _ (by simp [kS])) (m.2 _ (by simp [kS])) (m.2 _ (by simp [kS])) (m.2 _ (by simp [kS])) (m.2 _ (by simp [kS])) (m.2 _ (by simp [kS])) (m.2 _ (by simp [kS])) (m.2 _ (by simp [kS]))
    all_goals first | exact c.2.1 | (rw [c.1 _ (by unfold kC; omega)])
  · exact Rst_fr h.st (fun i p q => c.1 i (by unfold kC; omega)) (fun i p q => m.1 i (by unfold kM; omega)) (m.2 _ (by simp [kS]))
  · exact Rho_fr h.ho (fun i p q => c.1 i (by unfold kC; omega)) (fun i p q => m.1 i (by unfold kM; omega)) (fun i p q => m.1 i (by unfold kM; omega)) (m.2 _ (by simp [kS])) (fun i p => by have := w.b31; omega)
  · exact Rfi_fr h.fi (fun i p q => c.1 i (by unfold kC; omega)) (fun i p q => c.1 i (by unfold kC; omega)) (fun i p q => c.1 i (by unfold kC; omega)) (by rw [c.1 11 (by unfold kC; omega)]) (fun i p q => m.1 i (by unfold kM; omega)) (fun i p q => m.1 i (by unfold kM; omega)) (fun i p q => m.1 i (by unfold kM; omega))
  · exact Rmh_fr h.mh (fun i p q => c.1 i (by unfold kC; omega)) (fun i p q => m.1 i (by unfold kM; omega)) (m.2 _ (by simp [kS])) (m.2 _ (by simp [kS]))
  · exact Rcr_fr h.cr c.2.2 (fun i p q => m.1 i (by unfold kM; omega)) (fun i p q => m.1 i (by unfold kM; omega)) (fun i p q => m.1 i (by unfold kM; omega)) (m.2 _ (by simp [kS])) (fun i p => by have := w.b58; omega)
  · exact Rca_fr h.ca (fun i p q => c.1 i (by unfold kC; omega)) (fun i p q => m.1 i (by unfold kM; omega)) (m.2 _ (by simp [kS])) (fun i p => by have := w.b92; omega)
  · exact Rev_fr h.ev (fun i p q => c.1 i (by unfold kC; omega)) (fun i p q => m.1 i (by unfold kM; omega)) (fun i p q => m.1 i (by unfold kM; omega)) (m.2 _ (by simp [kS])) (m.2 _ (by simp [kS]))
  · exact Rta_fr h.ta (fun i p q => c.1 i (by unfold kC; omega)) (fun i p q => m.1 i (by unfold kM; omega)) (m.2 _ (by simp [kS]))
  · exact Rro_fr h.ro (fun i p q => c.1 i (by unfold kC; omega)) (fun i p q => m.1 i (by unfold kM; omega)) (m.2 _ (by simp [kS])) rfl
theorem WW_keep {Y Y' : Nat → Nat → Int32} (h : WW Y) (m : keepM Y Y') : WW Y' := by
  have s : ∀ f, kS f → Y' 246 f = Y 246 f := m.2
  refine ⟨Wsc_fr h.sc (s _ ?_) (s _ ?_) (s _ ?_) (s _ ?_) (s _ ?_) (s _ ?_) (s _ ?_) (s _ ?_) (s _ ?_) (s _ ?_) (s _ ?_) (s _ ?_), Wst_fr h.st ?_ ?_ (s _ ?_), Wwk_fr h.wk ?_, Who_fr h.ho ?_ ?_ ?_ (s _ ?_), Wfi_fr h.fi ?_ ?_ ?_ ?_ (s _ ?_), Wmh_fr h.mh ?_ (s _ ?_) (s _ ?_), Wcr_fr h.cr ?_ ?_ ?_ ?_ (s _ ?_) (s _ ?_) (s _ ?_) (s _ ?_), Wca_fr h.ca ?_ (s _ ?_) (s _ ?_), Wev_fr h.ev ?_ ?_ (s _ ?_) (s _ ?_) (s _ ?_) (s _ ?_), Wcb_fr h.cb ?_ ?_ ?_ ?_ ?_ ?_ (s _ ?_) (s _ ?_)⟩
  all_goals first | (intro i p q; exact m.1 i (by unfold kM; omega)) | (simp [kS])
theorem InvA_keep {x z : ab_X} (h : InvA x) (c : keepC x.1 z.1) (m : keepM x.1 z.1) (wa : ∀ k, k < 288 → z.1 268 k = x.1 268 k) (d : z.2.1 329 = x.2.1 329) : InvA z := by
  refine ⟨?_, WW_keep h.2 m⟩
  rw [d]
  exact RR_keep h.2 h.1 c m wa
theorem keepM_th {x : ab_X} {v : Int32} : keepM x.1 (wr x 246 0 v).1 := ⟨fun c q => wr_n (by unfold kM at q; omega), fun f q => wr_k (by unfold kS at q; omega)⟩
theorem keepC_th {x : ab_X} {c k : Nat} {v : Int32} (hc : 246 ≤ c) : keepC x.1 (wr x c k v).1 := ⟨fun c' q => wr_n (by unfold kC at q; omega), by rw [wr_n (by omega)], fun c' f p q => by rw [wr_n (by omega)]⟩
theorem InvA_th {x : ab_X} {v : Int32} (h : InvA x) : InvA (wr x 246 0 v) := InvA_keep h (keepC_th (by decide)) keepM_th (fun k _ => by rw [wr_n (by decide)]) rfl
theorem keepT_th {x : ab_X} {v : Int32} : keepT x.1 (wr x 246 0 v).1 := fun c k q => wr_ne (by unfold tk at q; omega)
theorem nv_ne {x : ab_X} {c k c' k' : Nat} {v : Int32} (h : c' ≠ c ∨ k' ≠ k) : nv (wr x c k v).1 c' k' = nv x.1 c' k' := by unfold nv; rw [wr_ne h]
theorem nv_e {x : ab_X} {c k : Nat} {v : Int32} : nv (wr x c k v).1 c k = v.toNatClampNeg := by unfold nv; rw [wr_e]
theorem nb_ne {x : ab_X} {c k c' k' b : Nat} {v : Int32} (h : c' ≠ c ∨ k' ≠ k) : nbd (wr x c k v).1 c' k' b = nbd x.1 c' k' b := by unfold nbd; rw [wr_ne h, nv_ne h]
theorem nb_e {x : ab_X} {c k b : Nat} {v : Int32} : nbd (wr x c k v).1 c k b = (v = nI v.toNatClampNeg ∧ v.toNatClampNeg ≤ b) := by unfold nbd; rw [wr_e, nv_e]
theorem mc4 (j : Nat) : j * 4 = 4 * j := Nat.mul_comm _ _
theorem mc6 (j : Nat) : j * 6 = 6 * j := Nat.mul_comm _ _
theorem mc8 (j : Nat) : j * 8 = 8 * j := Nat.mul_comm _ _
theorem mc20 (j : Nat) : j * 20 = 20 * j := Nat.mul_comm _ _
theorem mc24 (j : Nat) : j * 24 = 24 * j := Nat.mul_comm _ _
theorem mc100 (j : Nat) : j * 100 = 100 * j := Nat.mul_comm _ _
theorem q_sw {j : Nat} {L : Int} (h : (j : Int) ≤ L) (hj : j < 2147483648) : ((nI j).toInt < 0 ∨ L < (nI j).toInt) ↔ False := by
  rw [nI_toInt hj]
  exact ⟨fun q => by omega, False.elim⟩
theorem sw_d (a : Int32) (n : Nat) (L : Int) (hL : L = (n : Int)) (hn : n < 2147483647) : ((a.toInt < 0 ∨ L < a.toInt) ∧ ∀ k, k ≤ n → (a = nI k ↔ False)) ∨ ∃ j, j ≤ n ∧ a = nI j := by
  subst hL
  rcases pk_ix a (n := n + 1) (by omega) with h | h | ⟨j, hj, e⟩
  · left
    rw [Int32.lt_iff_toInt_lt] at h
    have h' : a.toInt < 0 := h
    exact ⟨Or.inl h', fun k hk => ⟨fun e => by rw [e, nI_toInt (by omega)] at h'; omega, False.elim⟩⟩
  · left
    have h' : (n : Int) < a.toInt := by
      rw [Int32.le_iff_toInt_le] at h
      rw [nI_toInt (by omega)] at h; omega
    exact ⟨Or.inr h', fun k hk => ⟨fun e => by rw [e, nI_toInt (by omega)] at h'; omega, False.elim⟩⟩
  · exact Or.inr ⟨j, by omega, e⟩
theorem jx_s {a n : Int32} (h : jx a n = nI 0) : a < nI 0 ∨ (¬ a < nI 0 ∧ ¬ a < n ∧ n ≤ a) := by
  unfold jx at h
  by_cases q1 : a < nI 0
  · exact Or.inl q1
  · by_cases q2 : n ≤ a
    · exact Or.inr ⟨q1, Int32.not_lt.mpr q2, q2⟩
    · have q1' : ¬ a < 0 := q1
      rw [if_neg q1', if_neg q2] at h
      exact absurd h (by decide)
theorem prv_n {x : ab_X} {c k h : Nat} {v : Int32} (hc : 254 ≠ c) : prv (wr x c k v).1 h = prv x.1 h := by unfold prv; rw [wr_n hc]
theorem nxt_n {x : ab_X} {c k h n : Nat} {v : Int32} (hc : 254 ≠ c) : nxt (wr x c k v).1 n h = nxt x.1 n h := by unfold nxt; rw [wr_n hc]
theorem nlt_t {a b : Nat} (h : a < b) : (a < b) = True := eq_true h
theorem nlt_f {a b : Nat} (h : b ≤ a) : (a < b) = False := eq_false (Nat.not_lt.mpr h)
theorem nle_t {a b : Nat} (h : a ≤ b) : (a ≤ b) = True := eq_true h
theorem nle_f {a b : Nat} (h : b < a) : (a ≤ b) = False := eq_false (Nat.not_le.mpr h)
theorem neq_t {a b : Nat} (h : a = b) : (a = b) = True := eq_true h
theorem neq_f {a b : Nat} (h : a ≠ b) : (a = b) = False := eq_false h
theorem nv_rd {x : ab_X} {c k c' k' : Nat} {v : Int32} : nv (wr x c k v).1 c' k' = if c' = c ∧ k' = k then v.toNatClampNeg else nv x.1 c' k' := by
  unfold nv; rw [wr_rd]; split <;> rfl
theorem nb_rd {x : ab_X} {c k c' k' b : Nat} {v : Int32} : nbd (wr x c k v).1 c' k' b ↔ if c' = c ∧ k' = k then (v = nI v.toNatClampNeg ∧ v.toNatClampNeg ≤ b) else nbd x.1 c' k' b := by
  unfold nbd; rw [wr_rd, nv_rd]; split <;> rfl
theorem br_same {p A : Prop} : ((p → A) ∧ (¬ p → A)) ↔ A := ⟨fun h => (Classical.em p).elim h.1 h.2, fun a => ⟨fun _ => a, fun _ => a⟩⟩
theorem br_same' {p A : Prop} : ((¬ p → A) ∧ (p → A)) ↔ A := ⟨fun h => (Classical.em p).elim h.2 h.1, fun a => ⟨fun _ => a, fun _ => a⟩⟩
