/-! After the fire: all bounds but that open calls at burning corners are true ones (printed by wip/lc/mkP.py). -/
theorem WWp.sc {Y : Nat → Nat → Int32} (h : WWp Y) : Wsc Y := h.1
theorem WWp.st {Y : Nat → Nat → Int32} (h : WWp Y) : Wst Y := h.2.1
theorem WWp.wk {Y : Nat → Nat → Int32} (h : WWp Y) : Wwk Y := h.2.2.1
theorem WWp.ho {Y : Nat → Nat → Int32} (h : WWp Y) : Who Y := h.2.2.2.1
theorem WWp.fi {Y : Nat → Nat → Int32} (h : WWp Y) : Wfi Y := h.2.2.2.2.1
theorem WWp.mh {Y : Nat → Nat → Int32} (h : WWp Y) : Wmh Y := h.2.2.2.2.2.1
theorem WWp.cr {Y : Nat → Nat → Int32} (h : WWp Y) : Wcr Y := h.2.2.2.2.2.2.1
theorem WWp.ev {Y : Nat → Nat → Int32} (h : WWp Y) : Wev Y := h.2.2.2.2.2.2.2.2
theorem WWp.v9 {Y : Nat → Nat → Int32} (h : WWp Y) : Y 246 9 = nI (nv Y 246 9) := h.sc.1.1
theorem WWp.b9 {Y : Nat → Nat → Int32} (h : WWp Y) : nv Y 246 9 ≤ 40 := h.sc.1.2
theorem WWp.v31 {Y : Nat → Nat → Int32} (h : WWp Y) : Y 246 31 = nI (nv Y 246 31) := h.sc.2.1.1
theorem WWp.v56 {Y : Nat → Nat → Int32} (h : WWp Y) : Y 246 56 = nI (nv Y 246 56) := h.sc.2.2.1.1
theorem WWp.b56 {Y : Nat → Nat → Int32} (h : WWp Y) : nv Y 246 56 ≤ 6 := h.sc.2.2.1.2
theorem WWp.v57 {Y : Nat → Nat → Int32} (h : WWp Y) : Y 246 57 = nI (nv Y 246 57) := h.sc.2.2.2.1.1
theorem WWp.b57 {Y : Nat → Nat → Int32} (h : WWp Y) : nv Y 246 57 ≤ 20 := h.sc.2.2.2.1.2
theorem WWp.v58 {Y : Nat → Nat → Int32} (h : WWp Y) : Y 246 58 = nI (nv Y 246 58) := h.sc.2.2.2.2.1.1
theorem WWp.v71 {Y : Nat → Nat → Int32} (h : WWp Y) : Y 246 71 = nI (nv Y 246 71) := h.sc.2.2.2.2.2.2.1.1
theorem WWp.b71 {Y : Nat → Nat → Int32} (h : WWp Y) : nv Y 246 71 ≤ 20 := h.sc.2.2.2.2.2.2.1.2
theorem WWp.v1 {Y : Nat → Nat → Int32} (h : WWp Y) : Y 246 1 = nI (nv Y 246 1) := h.sc.2.2.2.2.2.2.2.1.1
theorem WWp.b1 {Y : Nat → Nat → Int32} (h : WWp Y) : nv Y 246 1 ≤ 20000 := h.sc.2.2.2.2.2.2.2.1.2
theorem WWp.v70 {Y : Nat → Nat → Int32} (h : WWp Y) : Y 246 70 = nI (nv Y 246 70) := h.sc.2.2.2.2.2.2.2.2.1.1
theorem WWp.b70 {Y : Nat → Nat → Int32} (h : WWp Y) : nv Y 246 70 ≤ 200 := h.sc.2.2.2.2.2.2.2.2.1.2
theorem WWp.v72 {Y : Nat → Nat → Int32} (h : WWp Y) : Y 246 72 = nI (nv Y 246 72) := h.sc.2.2.2.2.2.2.2.2.2.1.1
theorem WWp.b72 {Y : Nat → Nat → Int32} (h : WWp Y) : nv Y 246 72 ≤ 12 := h.sc.2.2.2.2.2.2.2.2.2.1.2
theorem WWp.v99 {Y : Nat → Nat → Int32} (h : WWp Y) : Y 246 99 = nI (nv Y 246 99) := h.sc.2.2.2.2.2.2.2.2.2.2.1.1
theorem WWp.b99 {Y : Nat → Nat → Int32} (h : WWp Y) : nv Y 246 99 ≤ 100 := h.sc.2.2.2.2.2.2.2.2.2.2.1.2
theorem WWp.v116 {Y : Nat → Nat → Int32} (h : WWp Y) : Y 246 116 = nI (nv Y 246 116) := h.sc.2.2.2.2.2.2.2.2.2.2.2.1
theorem WWp.b116 {Y : Nat → Nat → Int32} (h : WWp Y) : nv Y 246 116 ≤ 6 := h.sc.2.2.2.2.2.2.2.2.2.2.2.2
def InvP (x : ab_X) : Prop := RR x.1 x.1 (x.2.1 329) ∧ WWp x.1
theorem RR_keepP {X Y X' Y' : Nat → Nat → Int32} {D : Nat → UInt64} (w : WWp Y) (h : RR X Y D) (c : keepC X X') (m : keepM Y Y') (wa : ∀ k, k < 288 → Y' 268 k = Y 268 k) : RR X' Y' D := by
  refine ⟨?_, ?_, ?_, ?_, ?_, ?_, ?_, ?_, ?_, ?_, fun k p => (wa k p).trans (h.wa k p)⟩
  · refine Rsc_fr h.sc ?_ ?_ ?_ ?_ ?_ ?_ ?_ ?_ ?_ ?_ ?_ ?_ (m.2 _ (by simp [kS])) (m.2 _ (by simp [kS])) (m.2 _ (by simp [kS])) (m.2 _ (by simp [kS])) (m.2 _ (by simp [kS])) (m.2 _ (by simp [kS])) (m.2 _ (by simp [kS])) (m.2 _ (by simp [kS])) (m.2 _ (by simp [kS])) (m.2 _ (by simp [kS])) (m.2 _ (by simp [kS])) (m.2 _ (by simp [kS]))
    all_goals first | exact c.2.1 | (rw [c.1 _ (by unfold kC; omega)])
  · exact Rst_fr h.st (fun i p q => c.1 i (by unfold kC; omega)) (fun i p q => m.1 i (by unfold kM; omega)) (m.2 _ (by simp [kS]))
  · exact Rho_fr h.ho (fun i p q => c.1 i (by unfold kC; omega)) (fun i p q => m.1 i (by unfold kM; omega)) (fun i p q => m.1 i (by unfold kM; omega)) (m.2 _ (by simp [kS])) (fun i p => by have := w.b31; omega)
  · exact Rfi_fr h.fi (fun i p q => c.1 i (by unfold kC; omega)) (fun i p q => c.1 i (by unfold kC; omega)) (fun i p q => c.1 i (by unfold kC; omega)) (by rw [c.1 11 (by unfold kC; omega)]) (fun i p q => m.1 i (by unfold kM; omega)) (fun i p q => m.1 i (by unfold kM; omega)) (fun i p q => m.1 i (by unfold kM; omega))
  · exact Rmh_fr h.mh (fun i p q => c.1 i (by unfold kC; omega)) (fun i p q => m.1 i (by unfold kM; omega)) (m.2 _ (by simp [kS])) (m.2 _ (by simp [kS]))
  · exact Rcr_fr h.cr c.2.2 (fun i p q => m.1 i (by unfold kM; omega)) (fun i p q => m.1 i (by unfold kM; omega)) (fun i p q => m.1 i (by unfold kM; omega)) (m.2 _ (by simp [kS])) (fun i p => by have := w.b58; omega)
  · exact Rca_fr h.ca (fun i p q => c.1 i (by unfold kC; omega)) (fun i p q => m.1 i (by unfold kM; omega)) (m.2 _ (by simp [kS])) (fun i p => by have := w.b92; omega)
  · exact Rev_fr h.ev (fun i p q => c.1 i (by unfold kC; omega)) (fun i p q => m.1 i (by unfold kM; omega)) (fun i p q => m.1 i (by unfold kM; omega)) (m.2 _ (by simp [kS])) (m.2 _ (by simp [kS]))
  · exact Rta_fr h.ta (fun i p q => c.1 i (by unfold kC; omega)) (fun i p q => m.1 i (by unfold kM; omega)) (m.2 _ (by simp [kS]))
  · exact Rro_fr h.ro (fun i p q => c.1 i (by unfold kC; omega)) (fun i p q => m.1 i (by unfold kM; omega)) (m.2 _ (by simp [kS])) rfl
theorem WWp_keepP {Y Y' : Nat → Nat → Int32} (h : WWp Y) (m : keepM Y Y') : WWp Y' := by
  have s : ∀ f, kS f → Y' 246 f = Y 246 f := m.2
  refine ⟨Wsc_fr h.sc (s _ ?_) (s _ ?_) (s _ ?_) (s _ ?_) (s _ ?_) (s _ ?_) (s _ ?_) (s _ ?_) (s _ ?_) (s _ ?_) (s _ ?_) (s _ ?_), Wst_fr h.st ?_ ?_ (s _ ?_), Wwk_fr h.wk ?_, Who_fr h.ho ?_ ?_ ?_ (s _ ?_), Wfi_fr h.fi ?_ ?_ ?_ ?_ (s _ ?_), Wmh_fr h.mh ?_ (s _ ?_) (s _ ?_), Wcr_fr h.cr ?_ ?_ ?_ ?_ (s _ ?_) (s _ ?_) (s _ ?_) (s _ ?_), Wca_fr h.ca ?_ (s _ ?_) (s _ ?_), Wev_fr h.ev ?_ ?_ (s _ ?_) (s _ ?_) (s _ ?_) (s _ ?_)⟩
  all_goals first | (intro i p q; exact m.1 i (by unfold kM; omega)) | (simp [kS])
theorem InvP_keepP {x z : ab_X} (h : InvP x) (c : keepC x.1 z.1) (m : keepM x.1 z.1) (wa : ∀ k, k < 288 → z.1 268 k = x.1 268 k) (d : z.2.1 329 = x.2.1 329) : InvP z := by
  refine ⟨?_, WWp_keepP h.2 m⟩
  rw [d]
  exact RR_keepP h.2 h.1 c m wa
theorem Rsc_cP {X Z : Nat → Nat → Int32} {L : List (Nat × Nat)} {S : List Nat} {C : List (Nat × Nat)} (w : WWp X) (h : Rsc X X) (z : Chg X Z L S C) (ok : ok_Rsc L S C = true) : Rsc Z Z := by
  simp only [ok_Rsc, Bool.and_eq_true] at ok
  obtain ⟨⟨⟨⟨⟨⟨⟨⟨⟨⟨⟨⟨⟨⟨⟨⟨⟨⟨⟨⟨⟨⟨⟨q0, q1⟩, q2⟩, q3⟩, q4⟩, q5⟩, q6⟩, q7⟩, q8⟩, q9⟩, q10⟩, q11⟩, q12⟩, q13⟩, q14⟩, q15⟩, q16⟩, q17⟩, q18⟩, q19⟩, q20⟩, q21⟩, q22⟩, q23⟩ := ok
  exact Rsc_fr h (z.2.2 _ _ (by unfold scC; omega) (nip_o q0)) (z.2.2 _ _ (by unfold scC; omega) (nip_o q1)) (z.2.2 _ _ (by unfold scC; omega) (nip_o q2)) (z.2.2 _ _ (by unfold scC; omega) (nip_o q3)) (z.2.2 _ _ (by unfold scC; omega) (nip_o q4)) (z.2.2 _ _ (by unfold scC; omega) (nip_o q5)) (z.2.2 _ _ (by unfold scC; omega) (nip_o q6)) (z.2.2 _ _ (by unfold scC; omega) (nip_o q7)) (z.2.2 _ _ (by unfold scC; omega) (nip_o q8)) (z.2.2 _ _ (by unfold scC; omega) (nip_o q9)) (z.2.2 _ _ (by unfold scC; omega) (nip_o q10)) (z.2.2 _ _ (by unfold scC; omega) (nip_o q11)) (z.2.1 _ (nin_o q12)) (z.2.1 _ (nin_o q13)) (z.2.1 _ (nin_o q14)) (z.2.1 _ (nin_o q15)) (z.2.1 _ (nin_o q16)) (z.2.1 _ (nin_o q17)) (z.2.1 _ (nin_o q18)) (z.2.1 _ (nin_o q19)) (z.2.1 _ (nin_o q20)) (z.2.1 _ (nin_o q21)) (z.2.1 _ (nin_o q22)) (z.2.1 _ (nin_o q23))
theorem Rst_cP {X Z : Nat → Nat → Int32} {L : List (Nat × Nat)} {S : List Nat} {C : List (Nat × Nat)} (w : WWp X) (h : Rst X X) (z : Chg X Z L S C) (ok : ok_Rst L S C = true) : Rst Z Z := by
  simp only [ok_Rst, Bool.and_eq_true] at ok
  obtain ⟨⟨q0, q1⟩, q2⟩ := ok
  exact Rst_fr h (fun c p q => z.1 c (by omega) (by unfold scC; omega) (dsj_o q0 p q)) (fun c p q => z.1 c (by omega) (by unfold scC; omega) (dsj_o q1 p q)) (z.2.1 _ (nin_o q2))
theorem Rho_cP {X Z : Nat → Nat → Int32} {L : List (Nat × Nat)} {S : List Nat} {C : List (Nat × Nat)} (w : WWp X) (h : Rho X X) (z : Chg X Z L S C) (ok : ok_Rho L S C = true) : Rho Z Z := by
  simp only [ok_Rho, Bool.and_eq_true] at ok
  obtain ⟨⟨⟨q0, q1⟩, q2⟩, q3⟩ := ok
  exact Rho_fr h (fun c p q => z.1 c (by omega) (by unfold scC; omega) (dsj_o q0 p q)) (fun c p q => z.1 c (by omega) (by unfold scC; omega) (dsj_o q1 p q)) (fun c p q => z.1 c (by omega) (by unfold scC; omega) (dsj_o q2 p q)) (z.2.1 _ (nin_o q3)) (fun hh p => by have := w.b31; omega)
theorem Rfi_cP {X Z : Nat → Nat → Int32} {L : List (Nat × Nat)} {S : List Nat} {C : List (Nat × Nat)} (w : WWp X) (h : Rfi X X) (z : Chg X Z L S C) (ok : ok_Rfi L S C = true) : Rfi Z Z := by
  simp only [ok_Rfi, Bool.and_eq_true] at ok
  obtain ⟨⟨⟨⟨⟨⟨q0, q1⟩, q2⟩, q3⟩, q4⟩, q5⟩, q6⟩ := ok
  exact Rfi_fr h (fun c p q => z.1 c (by omega) (by unfold scC; omega) (dsj_o q0 p q)) (fun c p q => z.1 c (by omega) (by unfold scC; omega) (dsj_o q1 p q)) (fun c p q => z.1 c (by omega) (by unfold scC; omega) (dsj_o q2 p q)) (z.2.2 _ _ (by unfold scC; omega) (nip_o q6)) (fun c p q => z.1 c (by omega) (by unfold scC; omega) (dsj_o q3 p q)) (fun c p q => z.1 c (by omega) (by unfold scC; omega) (dsj_o q4 p q)) (fun c p q => z.1 c (by omega) (by unfold scC; omega) (dsj_o q5 p q))
theorem Rmh_cP {X Z : Nat → Nat → Int32} {L : List (Nat × Nat)} {S : List Nat} {C : List (Nat × Nat)} (w : WWp X) (h : Rmh X X) (z : Chg X Z L S C) (ok : ok_Rmh L S C = true) : Rmh Z Z := by
  simp only [ok_Rmh, Bool.and_eq_true] at ok
  obtain ⟨⟨⟨q0, q1⟩, q2⟩, q3⟩ := ok
  exact Rmh_fr h (fun c p q => z.1 c (by omega) (by unfold scC; omega) (dsj_o q0 p q)) (fun c p q => z.1 c (by omega) (by unfold scC; omega) (dsj_o q1 p q)) (z.2.1 _ (nin_o q2)) (z.2.1 _ (nin_o q3))
theorem Rcr_cP {X Z : Nat → Nat → Int32} {L : List (Nat × Nat)} {S : List Nat} {C : List (Nat × Nat)} (w : WWp X) (h : Rcr X X) (z : Chg X Z L S C) (ok : ok_Rcr L S C = true) : Rcr Z Z := by
  simp only [ok_Rcr, Bool.and_eq_true] at ok
  obtain ⟨⟨⟨⟨q0, q1⟩, q2⟩, q3⟩, q4⟩ := ok
  exact Rcr_fr h (fun c f p q => by rw [z.1 (82 + c) (by omega) (by unfold scC; omega) (dsj_o q0 (by omega) (by omega))]) (fun c p q => z.1 c (by omega) (by unfold scC; omega) (dsj_o q1 p q)) (fun c p q => z.1 c (by omega) (by unfold scC; omega) (dsj_o q2 p q)) (fun c p q => z.1 c (by omega) (by unfold scC; omega) (dsj_o q3 p q)) (z.2.1 _ (nin_o q4)) (fun hh p => by have := w.b58; omega)
theorem Rca_cP {X Z : Nat → Nat → Int32} {L : List (Nat × Nat)} {S : List Nat} {C : List (Nat × Nat)} (w : WWp X) (h : Rca X X) (z : Chg X Z L S C) (ok : ok_Rca L S C = true) : Rca Z Z := by
  simp only [ok_Rca, Bool.and_eq_true] at ok
  obtain ⟨⟨q0, q1⟩, q2⟩ := ok
  exact Rca_fr h (fun c p q => z.1 c (by omega) (by unfold scC; omega) (dsj_o q0 p q)) (fun c p q => z.1 c (by omega) (by unfold scC; omega) (dsj_o q1 p q)) (z.2.1 _ (nin_o q2)) (fun hh p => by have := w.b92; omega)
theorem Rev_cP {X Z : Nat → Nat → Int32} {L : List (Nat × Nat)} {S : List Nat} {C : List (Nat × Nat)} (w : WWp X) (h : Rev X X) (z : Chg X Z L S C) (ok : ok_Rev L S C = true) : Rev Z Z := by
  simp only [ok_Rev, Bool.and_eq_true] at ok
  obtain ⟨⟨⟨⟨q0, q1⟩, q2⟩, q3⟩, q4⟩ := ok
  exact Rev_fr h (fun c p q => z.1 c (by omega) (by unfold scC; omega) (dsj_o q0 p q)) (fun c p q => z.1 c (by omega) (by unfold scC; omega) (dsj_o q1 p q)) (fun c p q => z.1 c (by omega) (by unfold scC; omega) (dsj_o q2 p q)) (z.2.1 _ (nin_o q3)) (z.2.1 _ (nin_o q4))
theorem Rta_cP {X Z : Nat → Nat → Int32} {L : List (Nat × Nat)} {S : List Nat} {C : List (Nat × Nat)} (w : WWp X) (h : Rta X X) (z : Chg X Z L S C) (ok : ok_Rta L S C = true) : Rta Z Z := by
  simp only [ok_Rta, Bool.and_eq_true] at ok
  obtain ⟨⟨q0, q1⟩, q2⟩ := ok
  exact Rta_fr h (fun c p q => z.1 c (by omega) (by unfold scC; omega) (dsj_o q0 p q)) (fun c p q => z.1 c (by omega) (by unfold scC; omega) (dsj_o q1 p q)) (z.2.1 _ (nin_o q2))
theorem Rro_cP {X Z : Nat → Nat → Int32} {D D' : Nat → UInt64} {L : List (Nat × Nat)} {S : List Nat} {C : List (Nat × Nat)} (w : WWp X) (h : Rro X X D) (z : Chg X Z L S C) (ok : ok_Rro L S C = true) (d : D' = D) : Rro Z Z D' := by
  simp only [ok_Rro, Bool.and_eq_true] at ok
  obtain ⟨⟨q0, q1⟩, q2⟩ := ok
  exact Rro_fr h (fun c p q => z.1 c (by omega) (by unfold scC; omega) (dsj_o q0 p q)) (fun c p q => z.1 c (by omega) (by unfold scC; omega) (dsj_o q1 p q)) (z.2.1 _ (nin_o q2)) d
theorem Rwa_cP {X Z : Nat → Nat → Int32} {L : List (Nat × Nat)} {S : List Nat} {C : List (Nat × Nat)} (w : WWp X) (h : Rwa X X) (z : Chg X Z L S C) (ok : ok_Rwa L S C = true) : Rwa Z Z := by
  have q0 := ok
  exact Rwa_fr h (fun c p q => z.1 c (by omega) (by unfold scC; omega) (dsj_o q0 p q))
theorem Wsc_cP {X Z : Nat → Nat → Int32} {L : List (Nat × Nat)} {S : List Nat} {C : List (Nat × Nat)} (w : WWp X) (h : Wsc X) (z : Chg X Z L S C) (ok : ok_Wsc L S C = true) : Wsc Z := by
  simp only [ok_Wsc, Bool.and_eq_true] at ok
  obtain ⟨⟨⟨⟨⟨⟨⟨⟨⟨⟨⟨q0, q1⟩, q2⟩, q3⟩, q4⟩, q5⟩, q6⟩, q7⟩, q8⟩, q9⟩, q10⟩, q11⟩ := ok
  exact Wsc_fr h (z.2.1 _ (nin_o q0)) (z.2.1 _ (nin_o q1)) (z.2.1 _ (nin_o q2)) (z.2.1 _ (nin_o q3)) (z.2.1 _ (nin_o q4)) (z.2.1 _ (nin_o q5)) (z.2.1 _ (nin_o q6)) (z.2.1 _ (nin_o q7)) (z.2.1 _ (nin_o q8)) (z.2.1 _ (nin_o q9)) (z.2.1 _ (nin_o q10)) (z.2.1 _ (nin_o q11))
theorem Wst_cP {X Z : Nat → Nat → Int32} {L : List (Nat × Nat)} {S : List Nat} {C : List (Nat × Nat)} (w : WWp X) (h : Wst X) (z : Chg X Z L S C) (ok : ok_Wst L S C = true) : Wst Z := by
  simp only [ok_Wst, Bool.and_eq_true] at ok
  obtain ⟨⟨q0, q1⟩, q2⟩ := ok
  exact Wst_fr h (fun c p q => z.1 c (by omega) (by unfold scC; omega) (dsj_o q0 p q)) (fun c p q => z.1 c (by omega) (by unfold scC; omega) (dsj_o q1 p q)) (z.2.1 _ (nin_o q2))
theorem Wwk_cP {X Z : Nat → Nat → Int32} {L : List (Nat × Nat)} {S : List Nat} {C : List (Nat × Nat)} (w : WWp X) (h : Wwk X) (z : Chg X Z L S C) (ok : ok_Wwk L S C = true) : Wwk Z := by
  have q0 := ok
  exact Wwk_fr h (fun c p q => z.1 c (by omega) (by unfold scC; omega) (dsj_o q0 p q))
theorem Who_cP {X Z : Nat → Nat → Int32} {L : List (Nat × Nat)} {S : List Nat} {C : List (Nat × Nat)} (w : WWp X) (h : Who X) (z : Chg X Z L S C) (ok : ok_Who L S C = true) : Who Z := by
  simp only [ok_Who, Bool.and_eq_true] at ok
  obtain ⟨⟨⟨q0, q1⟩, q2⟩, q3⟩ := ok
  exact Who_fr h (fun c p q => z.1 c (by omega) (by unfold scC; omega) (dsj_o q0 p q)) (fun c p q => z.1 c (by omega) (by unfold scC; omega) (dsj_o q1 p q)) (fun c p q => z.1 c (by omega) (by unfold scC; omega) (dsj_o q2 p q)) (z.2.1 _ (nin_o q3))
theorem Wfi_cP {X Z : Nat → Nat → Int32} {L : List (Nat × Nat)} {S : List Nat} {C : List (Nat × Nat)} (w : WWp X) (h : Wfi X) (z : Chg X Z L S C) (ok : ok_Wfi L S C = true) : Wfi Z := by
  simp only [ok_Wfi, Bool.and_eq_true] at ok
  obtain ⟨⟨⟨⟨q0, q1⟩, q2⟩, q3⟩, q4⟩ := ok
  exact Wfi_fr h (fun c p q => z.1 c (by omega) (by unfold scC; omega) (dsj_o q0 p q)) (fun c p q => z.1 c (by omega) (by unfold scC; omega) (dsj_o q1 p q)) (fun c p q => z.1 c (by omega) (by unfold scC; omega) (dsj_o q2 p q)) (fun c p q => z.1 c (by omega) (by unfold scC; omega) (dsj_o q3 p q)) (z.2.1 _ (nin_o q4))
theorem Wmh_cP {X Z : Nat → Nat → Int32} {L : List (Nat × Nat)} {S : List Nat} {C : List (Nat × Nat)} (w : WWp X) (h : Wmh X) (z : Chg X Z L S C) (ok : ok_Wmh L S C = true) : Wmh Z := by
  simp only [ok_Wmh, Bool.and_eq_true] at ok
  obtain ⟨⟨q0, q1⟩, q2⟩ := ok
  exact Wmh_fr h (fun c p q => z.1 c (by omega) (by unfold scC; omega) (dsj_o q0 p q)) (z.2.1 _ (nin_o q1)) (z.2.1 _ (nin_o q2))
theorem Wcr_cP {X Z : Nat → Nat → Int32} {L : List (Nat × Nat)} {S : List Nat} {C : List (Nat × Nat)} (w : WWp X) (h : Wcr X) (z : Chg X Z L S C) (ok : ok_Wcr L S C = true) : Wcr Z := by
  simp only [ok_Wcr, Bool.and_eq_true] at ok
  obtain ⟨⟨⟨⟨⟨⟨⟨q0, q1⟩, q2⟩, q3⟩, q4⟩, q5⟩, q6⟩, q7⟩ := ok
  exact Wcr_fr h (fun c p q => z.1 c (by omega) (by unfold scC; omega) (dsj_o q0 p q)) (fun c p q => z.1 c (by omega) (by unfold scC; omega) (dsj_o q1 p q)) (fun c p q => z.1 c (by omega) (by unfold scC; omega) (dsj_o q2 p q)) (fun c p q => z.1 c (by omega) (by unfold scC; omega) (dsj_o q3 p q)) (z.2.1 _ (nin_o q4)) (z.2.1 _ (nin_o q5)) (z.2.1 _ (nin_o q6)) (z.2.1 _ (nin_o q7))
theorem Wca_cP {X Z : Nat → Nat → Int32} {L : List (Nat × Nat)} {S : List Nat} {C : List (Nat × Nat)} (w : WWp X) (h : Wca X) (z : Chg X Z L S C) (ok : ok_Wca L S C = true) : Wca Z := by
  simp only [ok_Wca, Bool.and_eq_true] at ok
  obtain ⟨⟨q0, q1⟩, q2⟩ := ok
  exact Wca_fr h (fun c p q => z.1 c (by omega) (by unfold scC; omega) (dsj_o q0 p q)) (z.2.1 _ (nin_o q1)) (z.2.1 _ (nin_o q2))
theorem Wev_cP {X Z : Nat → Nat → Int32} {L : List (Nat × Nat)} {S : List Nat} {C : List (Nat × Nat)} (w : WWp X) (h : Wev X) (z : Chg X Z L S C) (ok : ok_Wev L S C = true) : Wev Z := by
  simp only [ok_Wev, Bool.and_eq_true] at ok
  obtain ⟨⟨⟨⟨⟨q0, q1⟩, q2⟩, q3⟩, q4⟩, q5⟩ := ok
  exact Wev_fr h (fun c p q => z.1 c (by omega) (by unfold scC; omega) (dsj_o q0 p q)) (fun c p q => z.1 c (by omega) (by unfold scC; omega) (dsj_o q1 p q)) (z.2.1 _ (nin_o q2)) (z.2.1 _ (nin_o q3)) (z.2.1 _ (nin_o q4)) (z.2.1 _ (nin_o q5))
theorem InvP_chgP {x z : ab_X} (h : InvP x) {L : List (Nat × Nat)} {S : List Nat} {C : List (Nat × Nat)} (chg : Chg x.1 z.1 L S C) (sc : ok_Rsc L S C = true ∨ Rsc z.1 z.1) (st : ok_Rst L S C = true ∨ Rst z.1 z.1) (ho : ok_Rho L S C = true ∨ Rho z.1 z.1) (fi : ok_Rfi L S C = true ∨ Rfi z.1 z.1) (mh : ok_Rmh L S C = true ∨ Rmh z.1 z.1) (cr : ok_Rcr L S C = true ∨ Rcr z.1 z.1) (ca : ok_Rca L S C = true ∨ Rca z.1 z.1) (ev : ok_Rev L S C = true ∨ Rev z.1 z.1) (ta : ok_Rta L S C = true ∨ Rta z.1 z.1) (wa : ok_Rwa L S C = true ∨ Rwa z.1 z.1) (ro : (ok_Rro L S C = true ∧ z.2.1 329 = x.2.1 329) ∨ Rro z.1 z.1 (z.2.1 329)) (wsc : ok_Wsc L S C = true ∨ Wsc z.1) (wst : ok_Wst L S C = true ∨ Wst z.1) (wwk : ok_Wwk L S C = true ∨ Wwk z.1) (who : ok_Who L S C = true ∨ Who z.1) (wfi : ok_Wfi L S C = true ∨ Wfi z.1) (wmh : ok_Wmh L S C = true ∨ Wmh z.1) (wcr : ok_Wcr L S C = true ∨ Wcr z.1) (wca : ok_Wca L S C = true ∨ Wca z.1) (wev : ok_Wev L S C = true ∨ Wev z.1) : InvP z := by
  have w := h.2
  refine ⟨⟨sc.elim (fun o => Rsc_cP w h.1.sc chg o) id, st.elim (fun o => Rst_cP w h.1.st chg o) id, ho.elim (fun o => Rho_cP w h.1.ho chg o) id, fi.elim (fun o => Rfi_cP w h.1.fi chg o) id, mh.elim (fun o => Rmh_cP w h.1.mh chg o) id, cr.elim (fun o => Rcr_cP w h.1.cr chg o) id, ca.elim (fun o => Rca_cP w h.1.ca chg o) id, ev.elim (fun o => Rev_cP w h.1.ev chg o) id, ta.elim (fun o => Rta_cP w h.1.ta chg o) id, ro.elim (fun o => Rro_cP w h.1.ro chg o.1 o.2) id, wa.elim (fun o => Rwa_cP w h.1.wa chg o) id⟩, wsc.elim (fun o => Wsc_cP w h.2.sc chg o) id, wst.elim (fun o => Wst_cP w h.2.st chg o) id, wwk.elim (fun o => Wwk_cP w h.2.wk chg o) id, who.elim (fun o => Who_cP w h.2.ho chg o) id, wfi.elim (fun o => Wfi_cP w h.2.fi chg o) id, wmh.elim (fun o => Wmh_cP w h.2.mh chg o) id, wcr.elim (fun o => Wcr_cP w h.2.cr chg o) id, wca.elim (fun o => Wca_cP w h.2.ca chg o) id, wev.elim (fun o => Wev_cP w h.2.ev chg o) id⟩
def Inv2P (x s : ab_X) : Prop := InvP (mg x s)
theorem Inv2P.r {x s : ab_X} (h : Inv2P x s) : RR x.1 s.1 (s.2.1 329) := RR_keepP h.2 h.1 ⟨fun c q => (mg_c (kC_lt q)).symm, by rw [mg_c (by decide)], fun c f p q => by rw [mg_c (by omega)]⟩ ⟨fun c q => (mg_m (kM_ge q)).symm, fun f q => by rw [mg_m (by decide)]⟩ (fun k _ => by rw [mg_m (by decide)])
theorem Inv2P.w {x s : ab_X} (h : Inv2P x s) : WWp s.1 := WWp_keepP h.2 ⟨fun c q => (mg_m (kM_ge q)).symm, fun f q => by rw [mg_m (by decide)]⟩
theorem Inv2P_of {x s : ab_X} (r : RR x.1 s.1 (s.2.1 329)) (w : WWp s.1) : Inv2P x s := ⟨RR_keepP w r ⟨fun c q => mg_c (kC_lt q), by rw [mg_c (by decide)], fun c f p q => by rw [mg_c (by omega)]⟩ ⟨fun c q => mg_m (kM_ge q), fun f q => by rw [mg_m (by decide)]⟩ (fun k _ => by rw [mg_m (by decide)]), WWp_keepP w ⟨fun c q => mg_m (kM_ge q), fun f q => by rw [mg_m (by decide)]⟩⟩
theorem Inv2P.kc {x y s : ab_X} (h : Inv2P x s) (k : keepC x.1 y.1) : Inv2P y s := Inv2P_of (RR_keepP h.w h.r k keepM.rfl' (fun _ _ => rfl)) h.w
theorem Inv2P.fin {y s z : ab_X} (h : Inv2P y s) (c : ∀ c, c < 246 → z.1 c = y.1 c) (m : keepM s.1 z.1) (wa : ∀ k, k < 288 → z.1 268 k = nI 0) (d : z.2.1 329 = s.2.1 329) : InvP z := by
  refine ⟨?_, WWp_keepP h.w m⟩
  rw [d]
  exact RR_keepP h.w h.r ⟨fun i q => c i (kC_lt q), by rw [c 158 (by decide)], fun i f p q => by rw [c (82 + i) (by omega)]⟩ m (fun k p => (wa k p).trans (h.r.wa k p).symm)
theorem cst_bP {Y : Nat → Nat → Int32} (w : WWp Y) {s p v : Nat} (hs : s < nv Y 246 9) (hp : p < 4) (hv : 50 ≤ v) (hv2 : v ≤ 300) : 1 ≤ cst Y s p v ∧ cst Y s p v ≤ 300 ∧ nv Y 249 s * nv Y 250 (4 * s + p) ≤ 8000 ∧ nv Y 249 s * nv Y 250 (4 * s + p) * v ≤ 2400000 := by
  obtain ⟨-, -, w3, w4⟩ := w.st.1 s hs
  obtain ⟨w5, w6⟩ := w.st.2.2 (4 * s + p) (by omega)
  have u1 : 1 * 100 ≤ nv Y 249 s * nv Y 250 (4 * s + p) := Nat.mul_le_mul w4 w6
  have u2 : nv Y 249 s * nv Y 250 (4 * s + p) ≤ 20 * 400 := Nat.mul_le_mul w3.2 w5.2
  have u3 : 100 * 50 ≤ nv Y 249 s * nv Y 250 (4 * s + p) * v := Nat.mul_le_mul (by omega) hv
  have u4 : nv Y 249 s * nv Y 250 (4 * s + p) * v ≤ 8000 * 300 := Nat.mul_le_mul (by omega) hv2
  unfold cst
  omega
theorem spr_rowP {Y : Nat → Nat → Int32} (w : WWp Y) {v m p : Nat} {row : Nat → Bool} (hp : p < 4) (hv : 50 ≤ v) (hv2 : v ≤ 300) {B : Nat → Nat → Bool} : ∀ {s : Nat}, s ≤ nv Y 246 9 → ∀ t c, t ≤ m → spr Y v m p row s B t c = B t c
  | 0, _, t, c, _ => rfl
  | s + 1, hs, t, c, ht => by
    show spS Y v m p row s (spr Y v m p row s B) t c = B t c
    have ih := spr_rowP w (row := row) hp hv hv2 (B := B) (s := s) (by omega) t c ht
    have cb := (cst_bP w (show s < nv Y 246 9 by omega) hp hv hv2).1
    have ne : t ≠ m + cst Y s p v := by omega
    unfold spS
    split
    · split
      · rw [adB_o ne]
        split
        · rw [adB_o ne]; exact ih
        · exact ih
      · split
        · rw [adB_o ne]; exact ih
        · exact ih
    · exact ih
theorem Am_20P {Y : Nat → Nat → Int32} (w : WWp Y) {v mi fr : Nat} (hf : fr < 20) (m t c : Nat) (h : Am Y v mi fr m t c = true) : c < 20 := by
  refine of_decide_eq_true (Am_in (S := fun c => decide (c < 20)) (decide_eq_true hf) (fun s hs _ => ?_) m t c h)
  obtain ⟨w1, w2, -⟩ := w.st.1 s hs
  have u1 := w1.2
  have u2 := w2.2
  exact ⟨fun _ => decide_eq_true (by omega), fun _ => decide_eq_true (by omega)⟩
theorem Am_rowP {Y : Nat → Nat → Int32} (w : WWp Y) {v mi fr m : Nat} (hv : 50 ≤ v) (hv2 : v ≤ 300) {t c : Nat} (ht : t ≤ m) : Am Y v mi fr (m + 1) t c = Am Y v mi fr m t c := spr_rowP w (pN_lt _) hv hv2 (Nat.le_refl _) t c ht
theorem m_sprP {x : ab_X} {Y : Nat → Nat → Int32} (mm : keepM Y x.1) (w : WWp Y) {to mi v m p : Nat} {B : Nat → Nat → Bool} (hp : p < 4) (hv : 50 ≤ v) (hv2 : v ≤ 300) (hm : m ≤ 600) {K : Int32 → ab_X → Prop} {L : Int32 → ab_X → Prop} {y0 : ab_X} (h0 : MRc x y0 B) (hl : ∀ y, MRc x y (spr Y v m p (B m) (nv Y 246 9) B) → L (nI (m + 1)) y) : Lp2 (lX12_comeBy_75 (nI to) (nI mi) (nI v) (nI m) (nI p) K L) 0 y0 := by
  have b9 := w.b9
  refine Lp2.ind (fun i a y => ∃ s, s ≤ nv Y 246 9 ∧ i = nv Y 246 9 - s ∧ a = nI s ∧ MRc x y (spr Y v m p (B m) s B)) (nv Y 246 9) ⟨0, by omega, by omega, rfl, h0⟩ ?_
  rintro i a y ⟨s, hs, rfl, rfl, hy⟩ L2 hL
  have my := hy.m mm
  unfold lX12_comeBy_75 wX12_comeBy_147 wX12_comeBy_218
  by_cases e : s = nv Y 246 9
  · simp (disch := first | assumption | omega) only [prv_n, nxt_n, q_sw, mc4, mc6, mc8, mc20, mc24, mc100, nv_rd, nb_rd, wr_rd, nI_lit, nI_add, pk_mul, pk_sub, q_div, cl_nI, vpi, q_eq, q_le, q_lt, n1_eq, n1_eq', n1_le, n1_lt, n1_ge, n1_gt, i_0m1, nlt_t, nlt_f, nle_t, nle_f, neq_f, f_below, f_within, f_isCorner, f_isIn, f_isCornerM, f_isStreet, f_isHouse, f_isCrew, f_isRow, f_has10, f_has0, jx_I, jx_N, jx_m1, jr_I, jr_N1, jr_N2, wr_2, isB_0, isB_1, true_and, and_true, and_self, false_and, and_false, true_or, or_true, false_or, or_false, not_true_eq_false, not_false_eq_true, forall_const, implies_true, false_implies, ne_eq, eq_self, if_true, if_false, Nat.zero_add, Nat.add_zero, Nat.mul_zero, Nat.zero_mul, Nat.mul_one, Nat.one_mul, Nat.add_sub_cancel, Nat.reduceEqDiff, Nat.reduceAdd, Nat.reduceMul, Nat.reduceSub, Nat.reduceLeDiff, Nat.reduceLT, Nat.reduceDiv, Nat.reduceMod, my.s9, w.v9]
    exact hl y (e ▸ hy)
  have hs2 : s < nv Y 246 9 := by omega
  obtain ⟨w1, w2, w3, -⟩ := w.st.1 s hs2
  obtain ⟨w5, -⟩ := w.st.2.2 (4 * s + p) (by omega)
  have u1 := w1.2
  have u2 := w2.2
  obtain ⟨c1, c2, c3, c4⟩ := cst_bP w hs2 hp hv hv2
  have go : ∀ z, MRc x z (spr Y v m p (B m) (s + 1) B) → L2 (nI (s + 1)) z := fun z hz => hL _ _ _ (by omega) ⟨s + 1, by omega, rfl, rfl, hz⟩
  rw [spr_s] at go
  have e1 : y.1 253 (20 * m + nv Y 247 s) = bb (B m (nv Y 247 s)) := by rw [hy.2.2 m _ hm (by omega), spr_rowP w hp hv hv2 (by omega) m _ (Nat.le_refl _)]
  have e2 : y.1 253 (20 * m + nv Y 248 s) = bb (B m (nv Y 248 s)) := by rw [hy.2.2 m _ hm (by omega), spr_rowP w hp hv hv2 (by omega) m _ (Nat.le_refl _)]
  have ec : (nv Y 249 s * nv Y 250 (4 * s + p) * v + 9999) / 10000 = cst Y s p v := rfl
  by_cases q : Y 252 s = nI 0
  case neg =>
    unfold spS at go
    rw [if_neg (fun u => q u.1)] at go
    simp (disch := first | assumption | omega) only [prv_n, nxt_n, q_sw, mc4, mc6, mc8, mc20, mc24, mc100, nv_rd, nb_rd, wr_rd, nI_lit, nI_add, pk_mul, pk_sub, q_div, cl_nI, vpi, q_eq, q_le, q_lt, n1_eq, n1_eq', n1_le, n1_lt, n1_ge, n1_gt, i_0m1, nlt_t, nlt_f, nle_t, nle_f, neq_f, f_below, f_within, f_isCorner, f_isIn, f_isCornerM, f_isStreet, f_isHouse, f_isCrew, f_isRow, f_has10, f_has0, jx_I, jx_N, jx_m1, jr_I, jr_N1, jr_N2, wr_2, isB_0, isB_1, true_and, and_true, and_self, false_and, and_false, true_or, or_true, false_or, or_false, not_true_eq_false, not_false_eq_true, forall_const, implies_true, false_implies, ne_eq, eq_self, if_true, if_false, Nat.zero_add, Nat.add_zero, Nat.mul_zero, Nat.zero_mul, Nat.mul_one, Nat.one_mul, Nat.add_sub_cancel, Nat.reduceEqDiff, Nat.reduceAdd, Nat.reduceMul, Nat.reduceSub, Nat.reduceLeDiff, Nat.reduceLT, Nat.reduceDiv, Nat.reduceMod, my.s9, w.v9, my.c247, w1.1, my.c248, w2.1, my.c252, q]
    exact go y hy
  by_cases q2 : m + cst Y s p v ≤ 600
  case neg =>
    unfold spS at go
    rw [if_neg (fun u => q2 u.2)] at go
    cases r1 : B m (nv Y 247 s) <;> cases r2 : B m (nv Y 248 s)
    all_goals
      rw [r1] at e1
      rw [r2] at e2
      simp (disch := first | assumption | omega) only [prv_n, nxt_n, q_sw, mc4, mc6, mc8, mc20, mc24, mc100, nv_rd, nb_rd, wr_rd, nI_lit, nI_add, pk_mul, pk_sub, q_div, cl_nI, vpi, q_eq, q_le, q_lt, n1_eq, n1_eq', n1_le, n1_lt, n1_ge, n1_gt, i_0m1, nlt_t, nlt_f, nle_t, nle_f, neq_f, f_below, f_within, f_isCorner, f_isIn, f_isCornerM, f_isStreet, f_isHouse, f_isCrew, f_isRow, f_has10, f_has0, jx_I, jx_N, jx_m1, jr_I, jr_N1, jr_N2, wr_2, isB_0, isB_1, true_and, and_true, and_self, false_and, and_false, true_or, or_true, false_or, or_false, not_true_eq_false, not_false_eq_true, forall_const, implies_true, false_implies, ne_eq, eq_self, if_true, if_false, Nat.zero_add, Nat.add_zero, Nat.mul_zero, Nat.zero_mul, Nat.mul_one, Nat.one_mul, Nat.add_sub_cancel, Nat.reduceEqDiff, Nat.reduceAdd, Nat.reduceMul, Nat.reduceSub, Nat.reduceLeDiff, Nat.reduceLT, Nat.reduceDiv, Nat.reduceMod, my.s9, w.v9, my.c247, w1.1, my.c248, w2.1, my.c252, q, e1, e2, bb_t, bb_f, my.c249, w3.1, my.c250, w5.1, ec]
      exact go y hy
  unfold spS at go
  rw [if_pos ⟨q, q2⟩] at go
  cases r1 : B m (nv Y 247 s) <;> cases r2 : B m (nv Y 248 s)
  all_goals
    rw [r1] at e1
    rw [r2] at e2
    simp only [r1, r2, if_true, if_false, Bool.false_eq_true] at go
    simp (disch := first | assumption | omega) only [prv_n, nxt_n, q_sw, mc4, mc6, mc8, mc20, mc24, mc100, nv_rd, nb_rd, wr_rd, nI_lit, nI_add, pk_mul, pk_sub, q_div, cl_nI, vpi, q_eq, q_le, q_lt, n1_eq, n1_eq', n1_le, n1_lt, n1_ge, n1_gt, i_0m1, nlt_t, nlt_f, nle_t, nle_f, neq_f, f_below, f_within, f_isCorner, f_isIn, f_isCornerM, f_isStreet, f_isHouse, f_isCrew, f_isRow, f_has10, f_has0, jx_I, jx_N, jx_m1, jr_I, jr_N1, jr_N2, wr_2, isB_0, isB_1, true_and, and_true, and_self, false_and, and_false, true_or, or_true, false_or, or_false, not_true_eq_false, not_false_eq_true, forall_const, implies_true, false_implies, ne_eq, eq_self, if_true, if_false, Nat.zero_add, Nat.add_zero, Nat.mul_zero, Nat.zero_mul, Nat.mul_one, Nat.one_mul, Nat.add_sub_cancel, Nat.reduceEqDiff, Nat.reduceAdd, Nat.reduceMul, Nat.reduceSub, Nat.reduceLeDiff, Nat.reduceLT, Nat.reduceDiv, Nat.reduceMod, my.s9, w.v9, my.c247, w1.1, my.c248, w2.1, my.c252, q, e1, e2, bb_t, bb_f, my.c249, w3.1, my.c250, w5.1, ec]
  · exact go y hy
  · exact go _ (MRc_ad hy (by omega))
  · exact go _ (MRc_ad hy (by omega))
  · exact go _ (MRc_ad (MRc_ad hy (by omega)) (by omega))
theorem m_comeP {x : ab_X} {Y : Nat → Nat → Int32} (mm : keepM Y x.1) (w : WWp Y) {fr to mi v : Nat} (hf : fr < 20) (ht : to < 20) (hmi : mi ≤ 30000) (hv : 50 ≤ v) (hv2 : v ≤ 300) {K : Int32 → ab_X → Prop} (k : ∀ y, (∀ c, c ≠ 253 → y.1 c = x.1 c) → y.2 = x.2 → K (cmr Y fr to mi v) y) : wX12_comeBy (nI fr) (nI to) (nI mi) (nI v) x K := by
  unfold wX12_comeBy
  refine Lp2.ind (fun i a y => ∃ s, s ≤ 12020 ∧ i = 12020 - s ∧ a = nI s ∧ (∀ c, c ≠ 253 → y.1 c = x.1 c) ∧ y.2 = x.2 ∧ ∀ j, j < s → y.1 253 j = nI 0) 12020 ⟨0, by omega, by omega, rfl, fun _ _ => rfl, rfl, fun j hj => by omega⟩ ?_
  rintro i a y ⟨s, hs, rfl, rfl, hy1, hy2, hy3⟩ L hL
  unfold lX12_comeBy_3
  by_cases e : s = 12020
  case neg =>
    simp (disch := first | assumption | omega) only [prv_n, nxt_n, q_sw, mc4, mc6, mc8, mc20, mc24, mc100, nv_rd, nb_rd, wr_rd, nI_lit, nI_add, pk_mul, pk_sub, q_div, cl_nI, vpi, q_eq, q_le, q_lt, n1_eq, n1_eq', n1_le, n1_lt, n1_ge, n1_gt, i_0m1, nlt_t, nlt_f, nle_t, nle_f, neq_f, f_below, f_within, f_isCorner, f_isIn, f_isCornerM, f_isStreet, f_isHouse, f_isCrew, f_isRow, f_has10, f_has0, jx_I, jx_N, jx_m1, jr_I, jr_N1, jr_N2, wr_2, isB_0, isB_1, true_and, and_true, and_self, false_and, and_false, true_or, or_true, false_or, or_false, not_true_eq_false, not_false_eq_true, forall_const, implies_true, false_implies, ne_eq, eq_self, if_true, if_false, Nat.zero_add, Nat.add_zero, Nat.mul_zero, Nat.zero_mul, Nat.mul_one, Nat.one_mul, Nat.add_sub_cancel, Nat.reduceEqDiff, Nat.reduceAdd, Nat.reduceMul, Nat.reduceSub, Nat.reduceLeDiff, Nat.reduceLT, Nat.reduceDiv, Nat.reduceMod]
    refine hL _ _ _ (by omega) ⟨s + 1, by omega, rfl, rfl, fun c hc => by rw [wr_n hc]; exact hy1 c hc, hy2, fun j hj => ?_⟩
    by_cases q : j = s
    · subst q; exact wr_e
    · rw [wr_k q]; exact hy3 j (by omega)
  · simp (disch := first | assumption | omega) only [prv_n, nxt_n, q_sw, mc4, mc6, mc8, mc20, mc24, mc100, nv_rd, nb_rd, wr_rd, nI_lit, nI_add, pk_mul, pk_sub, q_div, cl_nI, vpi, q_eq, q_le, q_lt, n1_eq, n1_eq', n1_le, n1_lt, n1_ge, n1_gt, i_0m1, nlt_t, nlt_f, nle_t, nle_f, neq_f, f_below, f_within, f_isCorner, f_isIn, f_isCornerM, f_isStreet, f_isHouse, f_isCrew, f_isRow, f_has10, f_has0, jx_I, jx_N, jx_m1, jr_I, jr_N1, jr_N2, wr_2, isB_0, isB_1, true_and, and_true, and_self, false_and, and_false, true_or, or_true, false_or, or_false, not_true_eq_false, not_false_eq_true, forall_const, implies_true, false_implies, ne_eq, eq_self, if_true, if_false, Nat.zero_add, Nat.add_zero, Nat.mul_zero, Nat.zero_mul, Nat.mul_one, Nat.one_mul, Nat.add_sub_cancel, Nat.reduceEqDiff, Nat.reduceAdd, Nat.reduceMul, Nat.reduceSub, Nat.reduceLeDiff, Nat.reduceLT, Nat.reduceDiv, Nat.reduceMod]
    have h0 : MRc x (wr y 253 fr (nI 1)) (Am Y v mi fr 0) := by
      refine ⟨fun c hc => by rw [wr_n hc]; exact hy1 c hc, hy2, fun t c h1 h2 => ?_⟩
      show _ = bb (decide (t = 0) && decide (c = fr))
      by_cases q : t = 0 ∧ c = fr
      · rw [q.1, q.2, Nat.mul_zero, Nat.zero_add, wr_e]; simp [bb_t]
      · have ff : (decide (t = 0) && decide (c = fr)) = false := by
          cases q' : (decide (t = 0) && decide (c = fr))
          · rfl
          · rw [Bool.and_eq_true] at q'
            exact absurd ⟨of_decide_eq_true q'.1, of_decide_eq_true q'.2⟩ q
        rw [ff, wr_k (by omega), hy3 _ (by omega)]; rfl
    refine Lp2.ind (fun i a y => ∃ m, m ≤ 601 ∧ i = 601 - m ∧ a = nI m ∧ MRc x y (Am Y v mi fr m) ∧ ∀ m', m' < m → Am Y v mi fr m' m' to = false) 601 ⟨0, by omega, by omega, rfl, h0, fun m' h => by omega⟩ ?_
    rintro i a z ⟨m, hm, rfl, rfl, hz, no⟩ L2 hL2
    unfold lX12_comeBy_35 wX12_partOf
    by_cases e : m = 601
    · simp (disch := first | assumption | omega) only [prv_n, nxt_n, q_sw, mc4, mc6, mc8, mc20, mc24, mc100, nv_rd, nb_rd, wr_rd, nI_lit, nI_add, pk_mul, pk_sub, q_div, cl_nI, vpi, q_eq, q_le, q_lt, n1_eq, n1_eq', n1_le, n1_lt, n1_ge, n1_gt, i_0m1, nlt_t, nlt_f, nle_t, nle_f, neq_f, f_below, f_within, f_isCorner, f_isIn, f_isCornerM, f_isStreet, f_isHouse, f_isCrew, f_isRow, f_has10, f_has0, jx_I, jx_N, jx_m1, jr_I, jr_N1, jr_N2, wr_2, isB_0, isB_1, true_and, and_true, and_self, false_and, and_false, true_or, or_true, false_or, or_false, not_true_eq_false, not_false_eq_true, forall_const, implies_true, false_implies, ne_eq, eq_self, if_true, if_false, Nat.zero_add, Nat.add_zero, Nat.mul_zero, Nat.zero_mul, Nat.mul_one, Nat.one_mul, Nat.add_sub_cancel, Nat.reduceEqDiff, Nat.reduceAdd, Nat.reduceMul, Nat.reduceSub, Nat.reduceLeDiff, Nat.reduceLT, Nat.reduceDiv, Nat.reduceMod]
      have : cmr Y fr to mi v = -nI 1 := by
        unfold cmr
        rw [if_pos (fstB_no (fun j h1 h2 => no j (by omega)))]
      rw [← this]
      exact k z hz.1 hz.2.1
    have e1 := hz.2.2 m to (by omega) ht
    cases r : Am Y v mi fr m m to
    · rw [r] at e1
      simp (disch := first | assumption | omega) only [prv_n, nxt_n, q_sw, mc4, mc6, mc8, mc20, mc24, mc100, nv_rd, nb_rd, wr_rd, nI_lit, nI_add, pk_mul, pk_sub, q_div, cl_nI, vpi, q_eq, q_le, q_lt, n1_eq, n1_eq', n1_le, n1_lt, n1_ge, n1_gt, i_0m1, nlt_t, nlt_f, nle_t, nle_f, neq_f, f_below, f_within, f_isCorner, f_isIn, f_isCornerM, f_isStreet, f_isHouse, f_isCrew, f_isRow, f_has10, f_has0, jx_I, jx_N, jx_m1, jr_I, jr_N1, jr_N2, wr_2, isB_0, isB_1, true_and, and_true, and_self, false_and, and_false, true_or, or_true, false_or, or_false, not_true_eq_false, not_false_eq_true, forall_const, implies_true, false_implies, ne_eq, eq_self, if_true, if_false, Nat.zero_add, Nat.add_zero, Nat.mul_zero, Nat.zero_mul, Nat.mul_one, Nat.one_mul, Nat.add_sub_cancel, Nat.reduceEqDiff, Nat.reduceAdd, Nat.reduceMul, Nat.reduceSub, Nat.reduceLeDiff, Nat.reduceLT, Nat.reduceDiv, Nat.reduceMod, e1, bb_f]
      have pl := pN_lt (mi + m)
      unfold pN at pl
      refine m_sprP (m := m) mm w pl hv hv2 (by omega) hz (fun y' hy' => ?_)
      refine hL2 _ _ _ (by omega) ⟨m + 1, by omega, rfl, rfl, hy', fun m' hm' => ?_⟩
      by_cases q : m' = m
      · subst q; exact r
      · exact no m' (by omega)
    · rw [r] at e1
      simp (disch := first | assumption | omega) only [prv_n, nxt_n, q_sw, mc4, mc6, mc8, mc20, mc24, mc100, nv_rd, nb_rd, wr_rd, nI_lit, nI_add, pk_mul, pk_sub, q_div, cl_nI, vpi, q_eq, q_le, q_lt, n1_eq, n1_eq', n1_le, n1_lt, n1_ge, n1_gt, i_0m1, nlt_t, nlt_f, nle_t, nle_f, neq_f, f_below, f_within, f_isCorner, f_isIn, f_isCornerM, f_isStreet, f_isHouse, f_isCrew, f_isRow, f_has10, f_has0, jx_I, jx_N, jx_m1, jr_I, jr_N1, jr_N2, wr_2, isB_0, isB_1, true_and, and_true, and_self, false_and, and_false, true_or, or_true, false_or, or_false, not_true_eq_false, not_false_eq_true, forall_const, implies_true, false_implies, ne_eq, eq_self, if_true, if_false, Nat.zero_add, Nat.add_zero, Nat.mul_zero, Nat.zero_mul, Nat.mul_one, Nat.one_mul, Nat.add_sub_cancel, Nat.reduceEqDiff, Nat.reduceAdd, Nat.reduceMul, Nat.reduceSub, Nat.reduceLeDiff, Nat.reduceLT, Nat.reduceDiv, Nat.reduceMod, e1, bb_t]
      have f := fstB_yes (p := fun m => Am Y v mi fr m m to) (i := 0) (n := 601) (Nat.zero_le m) (by omega) r (fun j _ h => no j h)
      have : cmr Y fr to mi v = nI (mi + m) := by
        unfold cmr
        rw [f, if_neg (n1_eq' (by omega)).mp, nI_add]
      rw [← this]
      exact k z hz.1 hz.2.1
theorem CRc.rP {x y : ab_X} {B : Nat → Nat → Bool} {Y : Nat → Nat → Int32} {D : Nat → UInt64} (h : CRc x y B) (w : WWp Y) (r : RR x.1 Y D) : RR y.1 Y D := RR_keepP w r ⟨fun c q => h.1 c (by unfold kC at q; omega), by rw [h.1 158 (by decide)], fun c f p q => by rw [h.1 (82 + c) (by omega)]⟩ keepM.rfl' (fun _ _ => rfl)
theorem c_sprP {x : ab_X} {Y : Nat → Nat → Int32} {D : Nat → UInt64} (rr : RR x.1 Y D) (w : WWp Y) {v m p : Nat} {B : Nat → Nat → Bool} (hp : p < 4) (hv : 50 ≤ v) (hv2 : v ≤ 300) (hm : m ≤ 600) {K : ab_X → Prop} {y0 : ab_X} (h0 : CRc x y0 B) (hl : ∀ y, CRc x y (spr Y v m p (B m) (nv Y 246 9) B) → K y) : wX6_spread (nI m) (nI p) (nI v) y0 K := by
  have b9 := w.b9
  unfold wX6_spread
  simp (disch := first | assumption | omega) only [prv_n, nxt_n, q_sw, mc4, mc6, mc8, mc20, mc24, mc100, nv_rd, nb_rd, wr_rd, nI_lit, nI_add, pk_mul, pk_sub, q_div, cl_nI, vpi, q_eq, q_le, q_lt, n1_eq, n1_eq', n1_le, n1_lt, n1_ge, n1_gt, i_0m1, nlt_t, nlt_f, nle_t, nle_f, neq_f, f_below, f_within, f_isCorner, f_isIn, f_isCornerM, f_isStreet, f_isHouse, f_isCrew, f_isRow, f_has10, f_has0, jx_I, jx_N, jx_m1, jr_I, jr_N1, jr_N2, wr_2, isB_0, isB_1, true_and, and_true, and_self, false_and, and_false, true_or, or_true, false_or, or_false, not_true_eq_false, not_false_eq_true, forall_const, implies_true, false_implies, ne_eq, eq_self, if_true, if_false, Nat.zero_add, Nat.add_zero, Nat.mul_zero, Nat.zero_mul, Nat.mul_one, Nat.one_mul, Nat.add_sub_cancel, Nat.reduceEqDiff, Nat.reduceAdd, Nat.reduceMul, Nat.reduceSub, Nat.reduceLeDiff, Nat.reduceLT, Nat.reduceDiv, Nat.reduceMod]
  have row : ∀ c, c < 20 → ((y0.1 8 m >>> (nI c &&& nI 31)) &&& nI 1) = bb (B m c) := fun c hc => by rw [bit_e (by omega), h0.2.2 m c hm (by omega)]
  generalize y0.1 8 m = rw0 at row
  refine Lp2.ind (fun i a y => ∃ s, s ≤ nv Y 246 9 ∧ i = nv Y 246 9 - s ∧ a = nI s ∧ CRc x y (spr Y v m p (B m) s B)) (nv Y 246 9) ⟨0, by omega, by omega, rfl, h0⟩ ?_
  rintro i a y ⟨s, hs, rfl, rfl, hy⟩ L2 hL
  have r := CRc.rP hy w rr
  unfold lX6_spread_11 wX6_spread_114
  by_cases e : s = nv Y 246 9
  · simp (disch := first | assumption | omega) only [prv_n, nxt_n, q_sw, mc4, mc6, mc8, mc20, mc24, mc100, nv_rd, nb_rd, wr_rd, nI_lit, nI_add, pk_mul, pk_sub, q_div, cl_nI, vpi, q_eq, q_le, q_lt, n1_eq, n1_eq', n1_le, n1_lt, n1_ge, n1_gt, i_0m1, nlt_t, nlt_f, nle_t, nle_f, neq_f, f_below, f_within, f_isCorner, f_isIn, f_isCornerM, f_isStreet, f_isHouse, f_isCrew, f_isRow, f_has10, f_has0, jx_I, jx_N, jx_m1, jr_I, jr_N1, jr_N2, wr_2, isB_0, isB_1, true_and, and_true, and_self, false_and, and_false, true_or, or_true, false_or, or_false, not_true_eq_false, not_false_eq_true, forall_const, implies_true, false_implies, ne_eq, eq_self, if_true, if_false, Nat.zero_add, Nat.add_zero, Nat.mul_zero, Nat.zero_mul, Nat.mul_one, Nat.one_mul, Nat.add_sub_cancel, Nat.reduceEqDiff, Nat.reduceAdd, Nat.reduceMul, Nat.reduceSub, Nat.reduceLeDiff, Nat.reduceLT, Nat.reduceDiv, Nat.reduceMod, r.s9, w.v9]
    exact hl y (e ▸ hy)
  have hs2 : s < nv Y 246 9 := by omega
  obtain ⟨w1, w2, w3, -⟩ := w.st.1 s hs2
  obtain ⟨w5, -⟩ := w.st.2.2 (4 * s + p) (by omega)
  obtain ⟨t1, t2, t3⟩ := r.st.1 s hs2
  have t5 := r.st.2.1 s (by omega)
  have t6 := r.st.2.2.1 (4 * s + p) (by omega)
  have u1 := w1.2
  have u2 := w2.2
  obtain ⟨c1, c2, c3, c4⟩ := cst_bP w hs2 hp hv hv2
  have go : ∀ z, CRc x z (spr Y v m p (B m) (s + 1) B) → L2 (nI (s + 1)) z := fun z hz => hL _ _ _ (by omega) ⟨s + 1, by omega, rfl, rfl, hz⟩
  rw [spr_s] at go
  have ec : (nv Y 249 s * nv Y 250 (4 * s + p) * v + 9999) / 10000 = cst Y s p v := rfl
  by_cases q : Y 252 s = nI 0
  case neg =>
    unfold spS at go
    rw [if_neg (fun u => q u.1)] at go
    simp (disch := first | assumption | omega) only [prv_n, nxt_n, q_sw, mc4, mc6, mc8, mc20, mc24, mc100, nv_rd, nb_rd, wr_rd, nI_lit, nI_add, pk_mul, pk_sub, q_div, cl_nI, vpi, q_eq, q_le, q_lt, n1_eq, n1_eq', n1_le, n1_lt, n1_ge, n1_gt, i_0m1, nlt_t, nlt_f, nle_t, nle_f, neq_f, f_below, f_within, f_isCorner, f_isIn, f_isCornerM, f_isStreet, f_isHouse, f_isCrew, f_isRow, f_has10, f_has0, jx_I, jx_N, jx_m1, jr_I, jr_N1, jr_N2, wr_2, isB_0, isB_1, true_and, and_true, and_self, false_and, and_false, true_or, or_true, false_or, or_false, not_true_eq_false, not_false_eq_true, forall_const, implies_true, false_implies, ne_eq, eq_self, if_true, if_false, Nat.zero_add, Nat.add_zero, Nat.mul_zero, Nat.zero_mul, Nat.mul_one, Nat.one_mul, Nat.add_sub_cancel, Nat.reduceEqDiff, Nat.reduceAdd, Nat.reduceMul, Nat.reduceSub, Nat.reduceLeDiff, Nat.reduceLT, Nat.reduceDiv, Nat.reduceMod, r.s9, w.v9, t5, q]
    exact go y hy
  by_cases q2 : m + cst Y s p v ≤ 600
  case neg =>
    unfold spS at go
    rw [if_neg (fun u => q2 u.2)] at go
    simp (disch := first | assumption | omega) only [prv_n, nxt_n, q_sw, mc4, mc6, mc8, mc20, mc24, mc100, nv_rd, nb_rd, wr_rd, nI_lit, nI_add, pk_mul, pk_sub, q_div, cl_nI, vpi, q_eq, q_le, q_lt, n1_eq, n1_eq', n1_le, n1_lt, n1_ge, n1_gt, i_0m1, nlt_t, nlt_f, nle_t, nle_f, neq_f, f_below, f_within, f_isCorner, f_isIn, f_isCornerM, f_isStreet, f_isHouse, f_isCrew, f_isRow, f_has10, f_has0, jx_I, jx_N, jx_m1, jr_I, jr_N1, jr_N2, wr_2, isB_0, isB_1, true_and, and_true, and_self, false_and, and_false, true_or, or_true, false_or, or_false, not_true_eq_false, not_false_eq_true, forall_const, implies_true, false_implies, ne_eq, eq_self, if_true, if_false, Nat.zero_add, Nat.add_zero, Nat.mul_zero, Nat.zero_mul, Nat.mul_one, Nat.one_mul, Nat.add_sub_cancel, Nat.reduceEqDiff, Nat.reduceAdd, Nat.reduceMul, Nat.reduceSub, Nat.reduceLeDiff, Nat.reduceLT, Nat.reduceDiv, Nat.reduceMod, r.s9, w.v9, t5, q, t3, t6, w3.1, w5.1, ec]
    exact go y hy
  unfold spS at go
  rw [if_pos ⟨q, q2⟩] at go
  have e1 := row (nv Y 247 s) (by omega)
  have e2 := row (nv Y 248 s) (by omega)
  have z1 : ∀ k v', (wr y 8 k v').1 2 s = nI (nv Y 247 s) := fun k v' => by rw [wr_n (by decide), t1, w1.1]
  have z2 : ∀ k v', (wr y 8 k v').1 3 s = nI (nv Y 248 s) := fun k v' => by rw [wr_n (by decide), t2, w2.1]
  cases r1 : B m (nv Y 247 s) <;> cases r2 : B m (nv Y 248 s)
  all_goals
    rw [r1] at e1
    rw [r2] at e2
    simp only [r1, r2, if_true, if_false, Bool.false_eq_true] at go
    simp (disch := first | assumption | omega) only [prv_n, nxt_n, q_sw, mc4, mc6, mc8, mc20, mc24, mc100, nv_rd, nb_rd, wr_rd, nI_lit, nI_add, pk_mul, pk_sub, q_div, cl_nI, vpi, q_eq, q_le, q_lt, n1_eq, n1_eq', n1_le, n1_lt, n1_ge, n1_gt, i_0m1, nlt_t, nlt_f, nle_t, nle_f, neq_f, f_below, f_within, f_isCorner, f_isIn, f_isCornerM, f_isStreet, f_isHouse, f_isCrew, f_isRow, f_has10, f_has0, jx_I, jx_N, jx_m1, jr_I, jr_N1, jr_N2, wr_2, isB_0, isB_1, true_and, and_true, and_self, false_and, and_false, true_or, or_true, false_or, or_false, not_true_eq_false, not_false_eq_true, forall_const, implies_true, false_implies, ne_eq, eq_self, if_true, if_false, Nat.zero_add, Nat.add_zero, Nat.mul_zero, Nat.zero_mul, Nat.mul_one, Nat.one_mul, Nat.add_sub_cancel, Nat.reduceEqDiff, Nat.reduceAdd, Nat.reduceMul, Nat.reduceSub, Nat.reduceLeDiff, Nat.reduceLT, Nat.reduceDiv, Nat.reduceMod, r.s9, w.v9, t5, q, t3, t6, w3.1, w5.1, ec, t1, w1.1, t2, w2.1, e1, e2, bb_t, bb_f]
  · exact go y hy
  · exact go _ (CRc_ad hy q2 (by omega))
  · exact go _ (CRc_ad hy q2 (by omega))
  · have := go _ (CRc_ad (CRc_ad hy q2 (show nv Y 248 s < 20 by omega)) q2 (show nv Y 247 s < 20 by omega))
    rw [wr_e] at this
    exact this
theorem c_openP {x : ab_X} {Y : Nat → Nat → Int32} {D : Nat → UInt64} (r : RR x.1 Y D) (w : WWp Y) {fr : Nat} (hf : fr < 20) {K : Int32 → Prop} (k : ∀ a, bt a fr = true → clo Y (bt a) → K a) : wX6_openTo (nI fr) x K := by
  have b9 := w.b9
  unfold wX6_openTo
  refine Lp2.ind (fun i a b => ∃ j, j ≤ 20 ∧ i = 20 - j ∧ b = nI j ∧ bt a fr = true ∧ (∀ c, c < 32 → bt a c = true → c < 20) ∧ j + 1 ≤ cn (bt a) 20) 20 ⟨0, by omega, by omega, rfl, by (have := bt_one (c := fr) (i := fr) (by omega) (by omega)); rw [decide_eq_true rfl] at this; exact this, fun c hc h => by (have := bt_one (c := fr) (i := c) (by omega) hc); have h' := this.symm.trans h; have := of_decide_eq_true h'; omega, ?_⟩ ?_
  · have : 0 < cn (bt (1 <<< (nI fr &&& 31))) 20 := cn_pos.mpr ⟨fr, hf, by (have := bt_one (c := fr) (i := fr) (by omega) (by omega)); rw [decide_eq_true rfl] at this; exact this⟩
    omega
  rintro i a b ⟨j, hj, rfl, rfl, h1, h2, h3⟩ L hL
  unfold lX6_openTo_6
  by_cases e : j = 20
  · have := cn_le (bt a) 20
    omega
  simp (disch := first | assumption | omega) only [prv_n, nxt_n, q_sw, mc4, mc6, mc8, mc20, mc24, mc100, nv_rd, nb_rd, wr_rd, nI_lit, nI_add, pk_mul, pk_sub, q_div, cl_nI, vpi, q_eq, q_le, q_lt, n1_eq, n1_eq', n1_le, n1_lt, n1_ge, n1_gt, i_0m1, nlt_t, nlt_f, nle_t, nle_f, neq_f, f_below, f_within, f_isCorner, f_isIn, f_isCornerM, f_isStreet, f_isHouse, f_isCrew, f_isRow, f_has10, f_has0, jx_I, jx_N, jx_m1, jr_I, jr_N1, jr_N2, wr_2, isB_0, isB_1, true_and, and_true, and_self, false_and, and_false, true_or, or_true, false_or, or_false, not_true_eq_false, not_false_eq_true, forall_const, implies_true, false_implies, ne_eq, eq_self, if_true, if_false, Nat.zero_add, Nat.add_zero, Nat.mul_zero, Nat.zero_mul, Nat.mul_one, Nat.one_mul, Nat.add_sub_cancel, Nat.reduceEqDiff, Nat.reduceAdd, Nat.reduceMul, Nat.reduceSub, Nat.reduceLeDiff, Nat.reduceLT, Nat.reduceDiv, Nat.reduceMod]
  refine Lp2.ind (fun i d b => ∃ s, s ≤ nv Y 246 9 ∧ i = nv Y 246 9 - s ∧ b = nI s ∧ (∀ c, c < 32 → bt a c = true → bt d c = true) ∧ (∀ c, c < 32 → bt d c = true → c < 20) ∧ (d = a → ∀ s', s' < s → Y 252 s' = nI 0 → (bt a (nv Y 247 s') = true → bt a (nv Y 248 s') = true) ∧ (bt a (nv Y 248 s') = true → bt a (nv Y 247 s') = true))) (nv Y 246 9) ⟨0, by omega, by omega, rfl, fun c _ h => h, h2, fun _ s' h => by omega⟩ ?_
  rintro i d b ⟨s, hs, rfl, rfl, g1, g2, g3⟩ L2 hL2
  unfold lX6_openTo_18
  by_cases e : s = nv Y 246 9
  · by_cases q : d = a
    · subst q
      simp (disch := first | assumption | omega) only [prv_n, nxt_n, q_sw, mc4, mc6, mc8, mc20, mc24, mc100, nv_rd, nb_rd, wr_rd, nI_lit, nI_add, pk_mul, pk_sub, q_div, cl_nI, vpi, q_eq, q_le, q_lt, n1_eq, n1_eq', n1_le, n1_lt, n1_ge, n1_gt, i_0m1, nlt_t, nlt_f, nle_t, nle_f, neq_f, f_below, f_within, f_isCorner, f_isIn, f_isCornerM, f_isStreet, f_isHouse, f_isCrew, f_isRow, f_has10, f_has0, jx_I, jx_N, jx_m1, jr_I, jr_N1, jr_N2, wr_2, isB_0, isB_1, true_and, and_true, and_self, false_and, and_false, true_or, or_true, false_or, or_false, not_true_eq_false, not_false_eq_true, forall_const, implies_true, false_implies, ne_eq, eq_self, if_true, if_false, Nat.zero_add, Nat.add_zero, Nat.mul_zero, Nat.zero_mul, Nat.mul_one, Nat.one_mul, Nat.add_sub_cancel, Nat.reduceEqDiff, Nat.reduceAdd, Nat.reduceMul, Nat.reduceSub, Nat.reduceLeDiff, Nat.reduceLT, Nat.reduceDiv, Nat.reduceMod, r.s9, w.v9]
      exact k d h1 (fun s' hs' ho => g3 rfl s' (by omega) ho)
    · simp (disch := first | assumption | omega) only [prv_n, nxt_n, q_sw, mc4, mc6, mc8, mc20, mc24, mc100, nv_rd, nb_rd, wr_rd, nI_lit, nI_add, pk_mul, pk_sub, q_div, cl_nI, vpi, q_eq, q_le, q_lt, n1_eq, n1_eq', n1_le, n1_lt, n1_ge, n1_gt, i_0m1, nlt_t, nlt_f, nle_t, nle_f, neq_f, f_below, f_within, f_isCorner, f_isIn, f_isCornerM, f_isStreet, f_isHouse, f_isCrew, f_isRow, f_has10, f_has0, jx_I, jx_N, jx_m1, jr_I, jr_N1, jr_N2, wr_2, isB_0, isB_1, true_and, and_true, and_self, false_and, and_false, true_or, or_true, false_or, or_false, not_true_eq_false, not_false_eq_true, forall_const, implies_true, false_implies, ne_eq, eq_self, if_true, if_false, Nat.zero_add, Nat.add_zero, Nat.mul_zero, Nat.zero_mul, Nat.mul_one, Nat.one_mul, Nat.add_sub_cancel, Nat.reduceEqDiff, Nat.reduceAdd, Nat.reduceMul, Nat.reduceSub, Nat.reduceLeDiff, Nat.reduceLT, Nat.reduceDiv, Nat.reduceMod, r.s9, w.v9, q]
      have : ∃ c, c < 32 ∧ ¬ bt d c = bt a c := by
        apply Classical.byContradiction
        intro no
        exact q (b_ext (fun c hc => Classical.byContradiction (fun ne => no ⟨c, hc, ne⟩)))
      obtain ⟨c, hc, ne⟩ := this
      have c1 : bt a c = false := by
        cases q1 : bt a c
        · rfl
        · rw [q1, g1 c hc q1] at ne; exact absurd rfl ne
      have c2 : bt d c = true := by
        cases q1 : bt d c
        · rw [q1, c1] at ne; exact absurd rfl ne
        · rfl
      have more := cn_more (p := bt a) (q := bt d) (n := 20) (fun i hi h => g1 i (by omega) h) (g2 c hc c2) c1 c2
      exact hL _ _ _ (by omega) ⟨j + 1, by omega, rfl, rfl, g1 _ (by omega) h1, g2, by omega⟩
  have hs2 : s < nv Y 246 9 := by omega
  obtain ⟨w1, w2, -⟩ := w.st.1 s hs2
  obtain ⟨t1, t2, t3⟩ := r.st.1 s hs2
  have t5 := r.st.2.1 s (by omega)
  have u1 := w1.2
  have u2 := w2.2
  have o1 : ∀ c, c < 32 → bt (nI 1 <<< (nI (nv Y 247 s) &&& nI 31)) c = decide (c = nv Y 247 s) := fun c hc => bt_one (by omega) hc
  have o2 : ∀ c, c < 32 → bt (nI 1 <<< (nI (nv Y 248 s) &&& nI 31)) c = decide (c = nv Y 248 s) := fun c hc => bt_one (by omega) hc
  by_cases q : Y 252 s = nI 0
  case neg =>
    simp (disch := first | assumption | omega) only [prv_n, nxt_n, q_sw, mc4, mc6, mc8, mc20, mc24, mc100, nv_rd, nb_rd, wr_rd, nI_lit, nI_add, pk_mul, pk_sub, q_div, cl_nI, vpi, q_eq, q_le, q_lt, n1_eq, n1_eq', n1_le, n1_lt, n1_ge, n1_gt, i_0m1, nlt_t, nlt_f, nle_t, nle_f, neq_f, f_below, f_within, f_isCorner, f_isIn, f_isCornerM, f_isStreet, f_isHouse, f_isCrew, f_isRow, f_has10, f_has0, jx_I, jx_N, jx_m1, jr_I, jr_N1, jr_N2, wr_2, isB_0, isB_1, true_and, and_true, and_self, false_and, and_false, true_or, or_true, false_or, or_false, not_true_eq_false, not_false_eq_true, forall_const, implies_true, false_implies, ne_eq, eq_self, if_true, if_false, Nat.zero_add, Nat.add_zero, Nat.mul_zero, Nat.zero_mul, Nat.mul_one, Nat.one_mul, Nat.add_sub_cancel, Nat.reduceEqDiff, Nat.reduceAdd, Nat.reduceMul, Nat.reduceSub, Nat.reduceLeDiff, Nat.reduceLT, Nat.reduceDiv, Nat.reduceMod, r.s9, w.v9, t5, q]
    refine hL2 _ _ _ (by omega) ⟨s + 1, by omega, rfl, rfl, g1, g2, fun ea s' hs' ho => ?_⟩
    by_cases e2 : s' = s
    · subst e2; exact absurd ho q
    · exact g3 ea s' (by omega) ho
  simp (disch := first | assumption | omega) only [prv_n, nxt_n, q_sw, mc4, mc6, mc8, mc20, mc24, mc100, nv_rd, nb_rd, wr_rd, nI_lit, nI_add, pk_mul, pk_sub, q_div, cl_nI, vpi, q_eq, q_le, q_lt, n1_eq, n1_eq', n1_le, n1_lt, n1_ge, n1_gt, i_0m1, nlt_t, nlt_f, nle_t, nle_f, neq_f, f_below, f_within, f_isCorner, f_isIn, f_isCornerM, f_isStreet, f_isHouse, f_isCrew, f_isRow, f_has10, f_has0, jx_I, jx_N, jx_m1, jr_I, jr_N1, jr_N2, wr_2, isB_0, isB_1, true_and, and_true, and_self, false_and, and_false, true_or, or_true, false_or, or_false, not_true_eq_false, not_false_eq_true, forall_const, implies_true, false_implies, ne_eq, eq_self, if_true, if_false, Nat.zero_add, Nat.add_zero, Nat.mul_zero, Nat.zero_mul, Nat.mul_one, Nat.one_mul, Nat.add_sub_cancel, Nat.reduceEqDiff, Nat.reduceAdd, Nat.reduceMul, Nat.reduceSub, Nat.reduceLeDiff, Nat.reduceLT, Nat.reduceDiv, Nat.reduceMod, r.s9, w.v9, t5, q, t1, t2, w1.1, w2.1]
  generalize nI 1 <<< (nI (nv Y 247 s) &&& nI 31) = m1 at o1 ⊢
  generalize nI 1 <<< (nI (nv Y 248 s) &&& nI 31) = m2 at o2 ⊢
  have hz : d &&& (m1 ||| m2) = nI 0 ↔ (bt d (nv Y 247 s) = false ∧ bt d (nv Y 248 s) = false) := by
    rw [bt_ext0]
    constructor
    · intro h
      have a1 := h (nv Y 247 s) (by omega)
      have a2 := h (nv Y 248 s) (by omega)
      rw [b_and, b_or, o1 _ (by omega), o2 _ (by omega)] at a1 a2
      simp at a1 a2
      exact ⟨a1, a2⟩
    · intro h c hc
      rw [b_and, b_or, o1 _ hc, o2 _ hc]
      by_cases e1 : c = nv Y 247 s
      · subst e1; rw [h.1]; rfl
      · by_cases e2 : c = nv Y 248 s
        · subst e2; rw [h.2]; rfl
        · rw [decide_eq_false e1, decide_eq_false e2]; simp
  constructor
  · intro hq
    obtain ⟨f1, f2⟩ := hz.mp hq
    refine hL2 _ _ _ (by omega) ⟨s + 1, by omega, rfl, rfl, g1, g2, fun ea s' hs' ho => ?_⟩
    by_cases e2 : s' = s
    · subst e2
      subst ea
      exact ⟨fun h => by rw [f1] at h; exact absurd h (by decide), fun h => by rw [f2] at h; exact absurd h (by decide)⟩
    · exact g3 ea s' (by omega) ho
  · intro hq
    refine hL2 _ _ _ (by omega) ⟨s + 1, by omega, rfl, rfl, fun c hc h => ?_, fun c hc h => ?_, fun ea s' hs' ho => ?_⟩
    · rw [b_or, g1 c hc h]; rfl
    · rw [b_or, b_or, o1 _ hc, o2 _ hc] at h
      simp at h
      rcases h with h | h | h
      · exact g2 c hc h
      · omega
      · omega
    · have b1 : bt a (nv Y 247 s) = true := by rw [← ea, b_or, b_or, o1 _ (by omega)]; simp
      have b2 : bt a (nv Y 248 s) = true := by rw [← ea, b_or, b_or, o2 _ (by omega)]; simp
      by_cases e2 : s' = s
      · subst e2
        exact ⟨fun _ => b2, fun _ => b1⟩
      · have ed : d = a := by
          apply b_ext
          intro c hc
          cases q1 : bt d c
          · cases q2 : bt a c
            · rfl
            · rw [g1 c hc q2] at q1; exact absurd q1 (by decide)
          · have : bt (d ||| (m1 ||| m2)) c = true := by rw [b_or, q1]; rfl
            rw [ea] at this
            exact this.symm
        exact g3 ed s' (by omega) ho
theorem c_arrP {x : ab_X} {Y : Nat → Nat → Int32} {D : Nat → UInt64} (r : RR x.1 Y D) (w : WWp Y) {fr to mi v : Nat} (hf : fr < 20) (ht : to < 20) (hmi : mi ≤ 30000) (hv : 50 ≤ v) (hv2 : v ≤ 300) {K : Int32 → ab_X → Prop} (k : ∀ y : ab_X, (∀ c, c ≠ 8 → y.1 c = x.1 c) → y.2 = x.2 → K (cmr Y fr to mi v) y) : wX6_arrival (nI fr) (nI to) (nI mi) (nI v) x K := by
  unfold wX6_arrival
  simp (disch := first | assumption | omega) only [prv_n, nxt_n, q_sw, mc4, mc6, mc8, mc20, mc24, mc100, nv_rd, nb_rd, wr_rd, nI_lit, nI_add, pk_mul, pk_sub, q_div, cl_nI, vpi, q_eq, q_le, q_lt, n1_eq, n1_eq', n1_le, n1_lt, n1_ge, n1_gt, i_0m1, nlt_t, nlt_f, nle_t, nle_f, neq_f, f_below, f_within, f_isCorner, f_isIn, f_isCornerM, f_isStreet, f_isHouse, f_isCrew, f_isRow, f_has10, f_has0, jx_I, jx_N, jx_m1, jr_I, jr_N1, jr_N2, wr_2, isB_0, isB_1, true_and, and_true, and_self, false_and, and_false, true_or, or_true, false_or, or_false, not_true_eq_false, not_false_eq_true, forall_const, implies_true, false_implies, ne_eq, eq_self, if_true, if_false, Nat.zero_add, Nat.add_zero, Nat.mul_zero, Nat.zero_mul, Nat.mul_one, Nat.one_mul, Nat.add_sub_cancel, Nat.reduceEqDiff, Nat.reduceAdd, Nat.reduceMul, Nat.reduceSub, Nat.reduceLeDiff, Nat.reduceLT, Nat.reduceDiv, Nat.reduceMod]
  refine c_openP r w hf (fun a h1 h2 => ?_)
  rw [bit_e (by omega)]
  cases q : bt a to
  · simp (disch := first | assumption | omega) only [prv_n, nxt_n, q_sw, mc4, mc6, mc8, mc20, mc24, mc100, nv_rd, nb_rd, wr_rd, nI_lit, nI_add, pk_mul, pk_sub, q_div, cl_nI, vpi, q_eq, q_le, q_lt, n1_eq, n1_eq', n1_le, n1_lt, n1_ge, n1_gt, i_0m1, nlt_t, nlt_f, nle_t, nle_f, neq_f, f_below, f_within, f_isCorner, f_isIn, f_isCornerM, f_isStreet, f_isHouse, f_isCrew, f_isRow, f_has10, f_has0, jx_I, jx_N, jx_m1, jr_I, jr_N1, jr_N2, wr_2, isB_0, isB_1, true_and, and_true, and_self, false_and, and_false, true_or, or_true, false_or, or_false, not_true_eq_false, not_false_eq_true, forall_const, implies_true, false_implies, ne_eq, eq_self, if_true, if_false, Nat.zero_add, Nat.add_zero, Nat.mul_zero, Nat.zero_mul, Nat.mul_one, Nat.one_mul, Nat.add_sub_cancel, Nat.reduceEqDiff, Nat.reduceAdd, Nat.reduceMul, Nat.reduceSub, Nat.reduceLeDiff, Nat.reduceLT, Nat.reduceDiv, Nat.reduceMod, bb_f]
    have : cmr Y fr to mi v = -nI 1 := by
      unfold cmr
      rw [if_pos]
      refine fstB_no (fun m _ _ => ?_)
      cases q2 : Am Y v mi fr m m to
      · rfl
      · have := Am_in (S := bt a) h1 h2 m m to q2
        rw [q] at this; exact absurd this (by decide)
    rw [← this]
    exact k x (fun _ _ => rfl) rfl
  simp (disch := first | assumption | omega) only [prv_n, nxt_n, q_sw, mc4, mc6, mc8, mc20, mc24, mc100, nv_rd, nb_rd, wr_rd, nI_lit, nI_add, pk_mul, pk_sub, q_div, cl_nI, vpi, q_eq, q_le, q_lt, n1_eq, n1_eq', n1_le, n1_lt, n1_ge, n1_gt, i_0m1, nlt_t, nlt_f, nle_t, nle_f, neq_f, f_below, f_within, f_isCorner, f_isIn, f_isCornerM, f_isStreet, f_isHouse, f_isCrew, f_isRow, f_has10, f_has0, jx_I, jx_N, jx_m1, jr_I, jr_N1, jr_N2, wr_2, isB_0, isB_1, true_and, and_true, and_self, false_and, and_false, true_or, or_true, false_or, or_false, not_true_eq_false, not_false_eq_true, forall_const, implies_true, false_implies, ne_eq, eq_self, if_true, if_false, Nat.zero_add, Nat.add_zero, Nat.mul_zero, Nat.zero_mul, Nat.mul_one, Nat.one_mul, Nat.add_sub_cancel, Nat.reduceEqDiff, Nat.reduceAdd, Nat.reduceMul, Nat.reduceSub, Nat.reduceLeDiff, Nat.reduceLT, Nat.reduceDiv, Nat.reduceMod, bb_t]
  refine c_fill (by decide) (fun y1 g1 g2 g3 g4 => ?_)
  have h0 : CRc x (wr y1 8 0 (nI 1 <<< (nI fr &&& nI 31))) (Am Y v mi fr 0) := by
    refine ⟨fun c hc => by rw [wr_n hc]; exact g1 c hc, g2, fun t c p1 p2 => ?_⟩
    show _ = (decide (t = 0) && decide (c = fr))
    by_cases q : t = 0
    · subst q; rw [wr_e, bt_one (by omega) p2, decide_eq_true rfl, Bool.true_and]
    · rw [wr_k q, g3 t (by omega), bt_z, decide_eq_false q, Bool.false_and]
  refine Lp2.ind (fun i a y => ∃ m, m ≤ 601 ∧ i = 601 - m ∧ a = nI m ∧ CRc x y (Am Y v mi fr m) ∧ ∀ m', m' < m → Am Y v mi fr m' m' to = false) 601 ⟨0, by omega, by omega, rfl, h0, fun m' h => by omega⟩ ?_
  rintro i a z ⟨m, hm, rfl, rfl, hz, no⟩ L2 hL2
  unfold lX6_arrival_48 wX6_partOf
  by_cases e : m = 601
  · simp (disch := first | assumption | omega) only [prv_n, nxt_n, q_sw, mc4, mc6, mc8, mc20, mc24, mc100, nv_rd, nb_rd, wr_rd, nI_lit, nI_add, pk_mul, pk_sub, q_div, cl_nI, vpi, q_eq, q_le, q_lt, n1_eq, n1_eq', n1_le, n1_lt, n1_ge, n1_gt, i_0m1, nlt_t, nlt_f, nle_t, nle_f, neq_f, f_below, f_within, f_isCorner, f_isIn, f_isCornerM, f_isStreet, f_isHouse, f_isCrew, f_isRow, f_has10, f_has0, jx_I, jx_N, jx_m1, jr_I, jr_N1, jr_N2, wr_2, isB_0, isB_1, true_and, and_true, and_self, false_and, and_false, true_or, or_true, false_or, or_false, not_true_eq_false, not_false_eq_true, forall_const, implies_true, false_implies, ne_eq, eq_self, if_true, if_false, Nat.zero_add, Nat.add_zero, Nat.mul_zero, Nat.zero_mul, Nat.mul_one, Nat.one_mul, Nat.add_sub_cancel, Nat.reduceEqDiff, Nat.reduceAdd, Nat.reduceMul, Nat.reduceSub, Nat.reduceLeDiff, Nat.reduceLT, Nat.reduceDiv, Nat.reduceMod]
    have : cmr Y fr to mi v = -nI 1 := by
      unfold cmr
      rw [if_pos (fstB_no (fun j h1 h2 => no j (by omega)))]
    rw [← this]
    exact k z hz.1 hz.2.1
  have e1 : ((z.1 8 m >>> (nI to &&& nI 31)) &&& nI 1) = bb (Am Y v mi fr m m to) := by rw [bit_e (by omega), hz.2.2 m to (by omega) (by omega)]
  cases rq : Am Y v mi fr m m to
  · rw [rq] at e1
    have no' : ∀ m', m' < m + 1 → Am Y v mi fr m' m' to = false := by
      intro m' hm'
      by_cases q : m' = m
      · subst q; exact rq
      · exact no m' (by omega)
    by_cases q0 : z.1 8 m = nI 0
    · rw [q0] at e1
      simp (disch := first | assumption | omega) only [prv_n, nxt_n, q_sw, mc4, mc6, mc8, mc20, mc24, mc100, nv_rd, nb_rd, wr_rd, nI_lit, nI_add, pk_mul, pk_sub, q_div, cl_nI, vpi, q_eq, q_le, q_lt, n1_eq, n1_eq', n1_le, n1_lt, n1_ge, n1_gt, i_0m1, nlt_t, nlt_f, nle_t, nle_f, neq_f, f_below, f_within, f_isCorner, f_isIn, f_isCornerM, f_isStreet, f_isHouse, f_isCrew, f_isRow, f_has10, f_has0, jx_I, jx_N, jx_m1, jr_I, jr_N1, jr_N2, wr_2, isB_0, isB_1, true_and, and_true, and_self, false_and, and_false, true_or, or_true, false_or, or_false, not_true_eq_false, not_false_eq_true, forall_const, implies_true, false_implies, ne_eq, eq_self, if_true, if_false, Nat.zero_add, Nat.add_zero, Nat.mul_zero, Nat.zero_mul, Nat.mul_one, Nat.one_mul, Nat.add_sub_cancel, Nat.reduceEqDiff, Nat.reduceAdd, Nat.reduceMul, Nat.reduceSub, Nat.reduceLeDiff, Nat.reduceLT, Nat.reduceDiv, Nat.reduceMod, e1, bb_f, q0]
      refine hL2 _ _ _ (by omega) ⟨m + 1, by omega, rfl, rfl, ?_, no'⟩
      have z0 : ∀ c, Am Y v mi fr m m c = false := by
        intro c
        cases q1 : Am Y v mi fr m m c
        · rfl
        · have c20 := Am_20P w hf m m c q1
          have := hz.2.2 m c (by omega) (by omega)
          rw [q0, bt_z, q1] at this
          exact absurd this (by decide)
      show CRc x z (spr Y v m (pN (mi + m)) (Am Y v mi fr m m) (nv Y 246 9) (Am Y v mi fr m))
      rw [spr_0 z0]
      exact hz
    · simp (disch := first | assumption | omega) only [prv_n, nxt_n, q_sw, mc4, mc6, mc8, mc20, mc24, mc100, nv_rd, nb_rd, wr_rd, nI_lit, nI_add, pk_mul, pk_sub, q_div, cl_nI, vpi, q_eq, q_le, q_lt, n1_eq, n1_eq', n1_le, n1_lt, n1_ge, n1_gt, i_0m1, nlt_t, nlt_f, nle_t, nle_f, neq_f, f_below, f_within, f_isCorner, f_isIn, f_isCornerM, f_isStreet, f_isHouse, f_isCrew, f_isRow, f_has10, f_has0, jx_I, jx_N, jx_m1, jr_I, jr_N1, jr_N2, wr_2, isB_0, isB_1, true_and, and_true, and_self, false_and, and_false, true_or, or_true, false_or, or_false, not_true_eq_false, not_false_eq_true, forall_const, implies_true, false_implies, ne_eq, eq_self, if_true, if_false, Nat.zero_add, Nat.add_zero, Nat.mul_zero, Nat.zero_mul, Nat.mul_one, Nat.one_mul, Nat.add_sub_cancel, Nat.reduceEqDiff, Nat.reduceAdd, Nat.reduceMul, Nat.reduceSub, Nat.reduceLeDiff, Nat.reduceLT, Nat.reduceDiv, Nat.reduceMod, e1, bb_f, q0]
      have pl := pN_lt (mi + m)
      unfold pN at pl
      exact c_sprP (m := m) r w pl hv hv2 (by omega) hz (fun y' hy' => hL2 _ _ _ (by omega) ⟨m + 1, by omega, rfl, rfl, hy', no'⟩)
  · rw [rq] at e1
    simp (disch := first | assumption | omega) only [prv_n, nxt_n, q_sw, mc4, mc6, mc8, mc20, mc24, mc100, nv_rd, nb_rd, wr_rd, nI_lit, nI_add, pk_mul, pk_sub, q_div, cl_nI, vpi, q_eq, q_le, q_lt, n1_eq, n1_eq', n1_le, n1_lt, n1_ge, n1_gt, i_0m1, nlt_t, nlt_f, nle_t, nle_f, neq_f, f_below, f_within, f_isCorner, f_isIn, f_isCornerM, f_isStreet, f_isHouse, f_isCrew, f_isRow, f_has10, f_has0, jx_I, jx_N, jx_m1, jr_I, jr_N1, jr_N2, wr_2, isB_0, isB_1, true_and, and_true, and_self, false_and, and_false, true_or, or_true, false_or, or_false, not_true_eq_false, not_false_eq_true, forall_const, implies_true, false_implies, ne_eq, eq_self, if_true, if_false, Nat.zero_add, Nat.add_zero, Nat.mul_zero, Nat.zero_mul, Nat.mul_one, Nat.one_mul, Nat.add_sub_cancel, Nat.reduceEqDiff, Nat.reduceAdd, Nat.reduceMul, Nat.reduceSub, Nat.reduceLeDiff, Nat.reduceLT, Nat.reduceDiv, Nat.reduceMod, e1, bb_t]
    have f := fstB_yes (p := fun m => Am Y v mi fr m m to) (i := 0) (n := 601) (Nat.zero_le m) (by omega) rq (fun j _ h => no j h)
    have : cmr Y fr to mi v = nI (mi + m) := by
      unfold cmr
      rw [f, if_neg (n1_eq' (by omega)).mp, nI_add]
    rw [← this]
    exact k z hz.1 hz.2.1
theorem sl_bP {Y : Nat → Nat → Int32} (w : WWp Y) {j : Nat} (hj : j < nv Y 246 58) : 50 ≤ slN Y j ∧ slN Y j ≤ 300 := by
  obtain ⟨v0, v1, v2, v3, v3', v4, v5, v6, v7, v8, v9, v10, -⟩ := w.cr.1 j hj
  have u3 := v3.2
  have u10 := v10.2
  unfold slN
  split <;> omega
theorem c_slowP {x : ab_X} {Y : Nat → Nat → Int32} {D : Nat → UInt64} (r : RR x.1 Y D) (w : WWp Y) {j : Nat} (hj : j < nv Y 246 58) {K : Int32 → Prop} (k : K (nI (slN Y j))) : wX2_slow (82 + j) x K := by
  obtain ⟨v0, v1, v2, v3, v3', v4, v5, v6, v7, v8, v9, v10, -⟩ := w.cr.1 j hj
  obtain ⟨r0, r1, r2, r3, r4, r5, r6, r7, r8, r9, r10, r11, r12, r13, r14, r15, r16⟩ := r.cr.1 j hj
  have u3 := v3.2
  have u10 := v10.2
  unfold wX2_slow
  unfold slN at k
  by_cases q : Y 298 j = nI 0
  · rw [if_pos q] at k
    simp (disch := first | assumption | omega) only [prv_n, nxt_n, q_sw, mc4, mc6, mc8, mc20, mc24, mc100, nv_rd, nb_rd, wr_rd, nI_lit, nI_add, pk_mul, pk_sub, q_div, cl_nI, vpi, q_eq, q_le, q_lt, n1_eq, n1_eq', n1_le, n1_lt, n1_ge, n1_gt, i_0m1, nlt_t, nlt_f, nle_t, nle_f, neq_f, f_below, f_within, f_isCorner, f_isIn, f_isCornerM, f_isStreet, f_isHouse, f_isCrew, f_isRow, f_has10, f_has0, jx_I, jx_N, jx_m1, jr_I, jr_N1, jr_N2, wr_2, isB_0, isB_1, true_and, and_true, and_self, false_and, and_false, true_or, or_true, false_or, or_false, not_true_eq_false, not_false_eq_true, forall_const, implies_true, false_implies, ne_eq, eq_self, if_true, if_false, Nat.zero_add, Nat.add_zero, Nat.mul_zero, Nat.zero_mul, Nat.mul_one, Nat.one_mul, Nat.add_sub_cancel, Nat.reduceEqDiff, Nat.reduceAdd, Nat.reduceMul, Nat.reduceSub, Nat.reduceLeDiff, Nat.reduceLT, Nat.reduceDiv, Nat.reduceMod, r2, q, r3, v3.1]
    exact k
  · rw [if_neg q] at k
    simp (disch := first | assumption | omega) only [prv_n, nxt_n, q_sw, mc4, mc6, mc8, mc20, mc24, mc100, nv_rd, nb_rd, wr_rd, nI_lit, nI_add, pk_mul, pk_sub, q_div, cl_nI, vpi, q_eq, q_le, q_lt, n1_eq, n1_eq', n1_le, n1_lt, n1_ge, n1_gt, i_0m1, nlt_t, nlt_f, nle_t, nle_f, neq_f, f_below, f_within, f_isCorner, f_isIn, f_isCornerM, f_isStreet, f_isHouse, f_isCrew, f_isRow, f_has10, f_has0, jx_I, jx_N, jx_m1, jr_I, jr_N1, jr_N2, wr_2, isB_0, isB_1, true_and, and_true, and_self, false_and, and_false, true_or, or_true, false_or, or_false, not_true_eq_false, not_false_eq_true, forall_const, implies_true, false_implies, ne_eq, eq_self, if_true, if_false, Nat.zero_add, Nat.add_zero, Nat.mul_zero, Nat.zero_mul, Nat.mul_one, Nat.one_mul, Nat.add_sub_cancel, Nat.reduceEqDiff, Nat.reduceAdd, Nat.reduceMul, Nat.reduceSub, Nat.reduceLeDiff, Nat.reduceLT, Nat.reduceDiv, Nat.reduceMod, r2, q, r3, v3.1, r15, v10.1]
    exact k
theorem m_slowP {x : ab_X} {Y : Nat → Nat → Int32} (m : keepM Y x.1) (w : WWp Y) {j : Nat} (hj : j < nv Y 246 58) {K : Int32 → Prop} (k : K (nI (slN Y j))) : wX12_slowOf (nI j) x K := by
  have b := w.b58
  obtain ⟨v0, v1, v2, v3, v3', v4, v5, v6, v7, v8, v9, v10, -⟩ := w.cr.1 j hj
  have u3 := v3.2
  have u10 := v10.2
  unfold wX12_slowOf
  unfold slN at k
  by_cases q : Y 298 j = nI 0
  · rw [if_pos q] at k
    simp (disch := first | assumption | omega) only [prv_n, nxt_n, q_sw, mc4, mc6, mc8, mc20, mc24, mc100, nv_rd, nb_rd, wr_rd, nI_lit, nI_add, pk_mul, pk_sub, q_div, cl_nI, vpi, q_eq, q_le, q_lt, n1_eq, n1_eq', n1_le, n1_lt, n1_ge, n1_gt, i_0m1, nlt_t, nlt_f, nle_t, nle_f, neq_f, f_below, f_within, f_isCorner, f_isIn, f_isCornerM, f_isStreet, f_isHouse, f_isCrew, f_isRow, f_has10, f_has0, jx_I, jx_N, jx_m1, jr_I, jr_N1, jr_N2, wr_2, isB_0, isB_1, true_and, and_true, and_self, false_and, and_false, true_or, or_true, false_or, or_false, not_true_eq_false, not_false_eq_true, forall_const, implies_true, false_implies, ne_eq, eq_self, if_true, if_false, Nat.zero_add, Nat.add_zero, Nat.mul_zero, Nat.zero_mul, Nat.mul_one, Nat.one_mul, Nat.add_sub_cancel, Nat.reduceEqDiff, Nat.reduceAdd, Nat.reduceMul, Nat.reduceSub, Nat.reduceLeDiff, Nat.reduceLT, Nat.reduceDiv, Nat.reduceMod, m.c298, q, m.c281, v3.1]
    exact k
  · rw [if_neg q] at k
    simp (disch := first | assumption | omega) only [prv_n, nxt_n, q_sw, mc4, mc6, mc8, mc20, mc24, mc100, nv_rd, nb_rd, wr_rd, nI_lit, nI_add, pk_mul, pk_sub, q_div, cl_nI, vpi, q_eq, q_le, q_lt, n1_eq, n1_eq', n1_le, n1_lt, n1_ge, n1_gt, i_0m1, nlt_t, nlt_f, nle_t, nle_f, neq_f, f_below, f_within, f_isCorner, f_isIn, f_isCornerM, f_isStreet, f_isHouse, f_isCrew, f_isRow, f_has10, f_has0, jx_I, jx_N, jx_m1, jr_I, jr_N1, jr_N2, wr_2, isB_0, isB_1, true_and, and_true, and_self, false_and, and_false, true_or, or_true, false_or, or_false, not_true_eq_false, not_false_eq_true, forall_const, implies_true, false_implies, ne_eq, eq_self, if_true, if_false, Nat.zero_add, Nat.add_zero, Nat.mul_zero, Nat.zero_mul, Nat.mul_one, Nat.one_mul, Nat.add_sub_cancel, Nat.reduceEqDiff, Nat.reduceAdd, Nat.reduceMul, Nat.reduceSub, Nat.reduceLeDiff, Nat.reduceLT, Nat.reduceDiv, Nat.reduceMod, m.c298, q, m.c281, v3.1, m.c292, v10.1]
    exact k
theorem i_restP {x : ab_X} {j c : Nat} (h : InvP x) (hj : j < nv x.1 246 58) (hc : c < 20) {z : ab_X} (e : z = wr (wr (wr (wr (wr (wr (wr (wr (wr (wr x (82 + j) 12 (-nI 1)) (82 + j) 13 (-nI 1)) (82 + j) 8 (nI 0)) (82 + j) 9 (nI c)) (82 + j) 10 (-nI 1)) 286 j (nI 0)) 287 j (nI c)) 288 j (-nI 1)) 290 j (-nI 1)) 291 j (-nI 1)) : InvP z := by
  subst e
  have bn := h.2.b58
  obtain ⟨r0, r1, r2, r3, r4, r5, r6, r7, r8, r9, r10, r11, r12, r13, r14, r15, r16⟩ := h.1.cr.1 j hj; obtain ⟨v0, v1, v2, v3, v3', v4, v5, v6, v7, v8, v9, v10, v11, v11'⟩ := h.2.cr.1 j hj; obtain ⟨g0, g1, g2⟩ := h.2.cr.2.1 j hj; obtain ⟨t0, t1, t2, t3⟩ := h.2.cr.2.2.1 j hj; have u0 := v0.2; have u1 := v1.2; have u8 := v8.2; have u9 := v9.2
  refine InvP_chgP h (L := [(82, 97), (286, 286), (287, 287), (288, 288), (290, 290), (291, 291)]) (S := [0]) (C := []) ?chg (Or.inl rfl) (Or.inl rfl) (Or.inl rfl) (Or.inl rfl) (Or.inl rfl) (Or.inr ?cr) (Or.inl rfl) (Or.inl rfl) (Or.inl rfl) (Or.inl rfl) (Or.inl ⟨rfl, rfl⟩) (Or.inl rfl) (Or.inl rfl) (Or.inl rfl) (Or.inl rfl) (Or.inl rfl) (Or.inl rfl) (Or.inr ?wcr) (Or.inl rfl) (Or.inl rfl)
  case chg =>
    refine ⟨fun c p q r => ?_, fun f p => ?_, fun c f p q => ?_⟩
    · have r0 : c < 82 ∨ 97 < c := r (82, 97) (by simp); have r1 : c < 286 ∨ 286 < c := r (286, 286) (by simp); have r2 : c < 287 ∨ 287 < c := r (287, 287) (by simp); have r3 : c < 288 ∨ 288 < c := r (288, 288) (by simp); have r4 : c < 290 ∨ 290 < c := r (290, 290) (by simp); have r5 : c < 291 ∨ 291 < c := r (291, 291) (by simp); unfold scC at q; simp (disch := omega) only [wr_n]
    · have s0 : f ≠ 0 := fun e => p (by rw [e]; simp); simp (disch := omega) only [wr_ne]
    · unfold scC at p; simp (disch := omega) only [wr_ne]
  case cr => exact Rcr_pt h.1.cr (by simp (disch := omega) only [wr_ne]) h.2.b58 (fun c f p e => (by simp (disch := omega) only [wr_ne])) (fun d k p q e => (by simp (disch := omega) only [wr_ne])) hj (by simp (disch := first | assumption | omega) only [prv_n, nxt_n, q_sw, mc4, mc6, mc8, mc20, mc24, mc100, nv_rd, nb_rd, wr_rd, nI_lit, nI_add, pk_mul, pk_sub, q_div, cl_nI, vpi, q_eq, q_le, q_lt, n1_eq, n1_eq', n1_le, n1_lt, n1_ge, n1_gt, i_0m1, nlt_t, nlt_f, nle_t, nle_f, neq_f, f_below, f_within, f_isCorner, f_isIn, f_isCornerM, f_isStreet, f_isHouse, f_isCrew, f_isRow, f_has10, f_has0, jx_I, jx_N, jx_m1, jr_I, jr_N1, jr_N2, wr_2, isB_0, isB_1, true_and, and_true, and_self, false_and, and_false, true_or, or_true, false_or, or_false, not_true_eq_false, not_false_eq_true, forall_const, implies_true, false_implies, ne_eq, eq_self, if_true, if_false, Nat.zero_add, Nat.add_zero, Nat.mul_zero, Nat.zero_mul, Nat.mul_one, Nat.one_mul, Nat.add_sub_cancel, Nat.reduceEqDiff, Nat.reduceAdd, Nat.reduceMul, Nat.reduceSub, Nat.reduceLeDiff, Nat.reduceLT, Nat.reduceDiv, Nat.reduceMod, r0, r1, r2, r3, r4, r5, r6, r7, r8, r9, r10, r11, r12, r13, r14, r15, r16, ])
  case wcr =>
    refine Wcr_pt h.2.cr (by simp (disch := omega) only [wr_ne]) (by simp (disch := omega) only [wr_ne]) (by simp (disch := omega) only [wr_ne]) (by simp (disch := omega) only [wr_ne]) (by simp (disch := omega) only [wr_n]) (fun d k p q e => (by simp (disch := omega) only [wr_ne])) hj ?_ ?_ ?_
    · simp (disch := first | assumption | omega) only [prv_n, nxt_n, q_sw, mc4, mc6, mc8, mc20, mc24, mc100, nv_rd, nb_rd, wr_rd, nI_lit, nI_add, pk_mul, pk_sub, q_div, cl_nI, vpi, q_eq, q_le, q_lt, n1_eq, n1_eq', n1_le, n1_lt, n1_ge, n1_gt, i_0m1, nlt_t, nlt_f, nle_t, nle_f, neq_f, f_below, f_within, f_isCorner, f_isIn, f_isCornerM, f_isStreet, f_isHouse, f_isCrew, f_isRow, f_has10, f_has0, jx_I, jx_N, jx_m1, jr_I, jr_N1, jr_N2, wr_2, isB_0, isB_1, true_and, and_true, and_self, false_and, and_false, true_or, or_true, false_or, or_false, not_true_eq_false, not_false_eq_true, forall_const, implies_true, false_implies, ne_eq, eq_self, if_true, if_false, Nat.zero_add, Nat.add_zero, Nat.mul_zero, Nat.zero_mul, Nat.mul_one, Nat.one_mul, Nat.add_sub_cancel, Nat.reduceEqDiff, Nat.reduceAdd, Nat.reduceMul, Nat.reduceSub, Nat.reduceLeDiff, Nat.reduceLT, Nat.reduceDiv, Nat.reduceMod, v0, v1, v2, v3, v3', v4, v5, v6, v7, v9, v10, v11, v11']
    · simp (disch := first | assumption | omega) only [prv_n, nxt_n, q_sw, mc4, mc6, mc8, mc20, mc24, mc100, nv_rd, nb_rd, wr_rd, nI_lit, nI_add, pk_mul, pk_sub, q_div, cl_nI, vpi, q_eq, q_le, q_lt, n1_eq, n1_eq', n1_le, n1_lt, n1_ge, n1_gt, i_0m1, nlt_t, nlt_f, nle_t, nle_f, neq_f, f_below, f_within, f_isCorner, f_isIn, f_isCornerM, f_isStreet, f_isHouse, f_isCrew, f_isRow, f_has10, f_has0, jx_I, jx_N, jx_m1, jr_I, jr_N1, jr_N2, wr_2, isB_0, isB_1, true_and, and_true, and_self, false_and, and_false, true_or, or_true, false_or, or_false, not_true_eq_false, not_false_eq_true, forall_const, implies_true, false_implies, ne_eq, eq_self, if_true, if_false, Nat.zero_add, Nat.add_zero, Nat.mul_zero, Nat.zero_mul, Nat.mul_one, Nat.one_mul, Nat.add_sub_cancel, Nat.reduceEqDiff, Nat.reduceAdd, Nat.reduceMul, Nat.reduceSub, Nat.reduceLeDiff, Nat.reduceLT, Nat.reduceDiv, Nat.reduceMod, g0, g1, g2]
      exact ⟨g0, g1, g2⟩
    · simp (disch := first | assumption | omega) only [prv_n, nxt_n, q_sw, mc4, mc6, mc8, mc20, mc24, mc100, nv_rd, nb_rd, wr_rd, nI_lit, nI_add, pk_mul, pk_sub, q_div, cl_nI, vpi, q_eq, q_le, q_lt, n1_eq, n1_eq', n1_le, n1_lt, n1_ge, n1_gt, i_0m1, nlt_t, nlt_f, nle_t, nle_f, neq_f, f_below, f_within, f_isCorner, f_isIn, f_isCornerM, f_isStreet, f_isHouse, f_isCrew, f_isRow, f_has10, f_has0, jx_I, jx_N, jx_m1, jr_I, jr_N1, jr_N2, wr_2, isB_0, isB_1, true_and, and_true, and_self, false_and, and_false, true_or, or_true, false_or, or_false, not_true_eq_false, not_false_eq_true, forall_const, implies_true, false_implies, ne_eq, eq_self, if_true, if_false, Nat.zero_add, Nat.add_zero, Nat.mul_zero, Nat.zero_mul, Nat.mul_one, Nat.one_mul, Nat.add_sub_cancel, Nat.reduceEqDiff, Nat.reduceAdd, Nat.reduceMul, Nat.reduceSub, Nat.reduceLeDiff, Nat.reduceLT, Nat.reduceDiv, Nat.reduceMod]
theorem i_wayP {x : ab_X} {j c t : Nat} (h : InvP x) (hj : j < nv x.1 246 58) (hc : c < 20) {z : ab_X} (e : z = wr (wr (wr (wr (wr (wr (wr (wr (wr (wr (wr (wr x (82 + j) 12 (-nI 1)) (82 + j) 13 (-nI 1)) (82 + j) 8 (nI 3)) (82 + j) 9 (nI c)) (82 + j) 10 (nI t)) 286 j (nI 0)) 287 j (nI c)) 288 j (-nI 1)) 290 j (-nI 1)) 291 j (-nI 1)) 286 j (nI 3)) 288 j (nI t)) : InvP z := by
  subst e
  have bn := h.2.b58
  obtain ⟨r0, r1, r2, r3, r4, r5, r6, r7, r8, r9, r10, r11, r12, r13, r14, r15, r16⟩ := h.1.cr.1 j hj; obtain ⟨v0, v1, v2, v3, v3', v4, v5, v6, v7, v8, v9, v10, v11, v11'⟩ := h.2.cr.1 j hj; obtain ⟨g0, g1, g2⟩ := h.2.cr.2.1 j hj; obtain ⟨t0, t1, t2, t3⟩ := h.2.cr.2.2.1 j hj; have u0 := v0.2; have u1 := v1.2; have u8 := v8.2; have u9 := v9.2
  refine InvP_chgP h (L := [(82, 97), (286, 286), (287, 287), (288, 288), (290, 290), (291, 291)]) (S := [0]) (C := []) ?chg (Or.inl rfl) (Or.inl rfl) (Or.inl rfl) (Or.inl rfl) (Or.inl rfl) (Or.inr ?cr) (Or.inl rfl) (Or.inl rfl) (Or.inl rfl) (Or.inl rfl) (Or.inl ⟨rfl, rfl⟩) (Or.inl rfl) (Or.inl rfl) (Or.inl rfl) (Or.inl rfl) (Or.inl rfl) (Or.inl rfl) (Or.inr ?wcr) (Or.inl rfl) (Or.inl rfl)
  case chg =>
    refine ⟨fun c p q r => ?_, fun f p => ?_, fun c f p q => ?_⟩
    · have r0 : c < 82 ∨ 97 < c := r (82, 97) (by simp); have r1 : c < 286 ∨ 286 < c := r (286, 286) (by simp); have r2 : c < 287 ∨ 287 < c := r (287, 287) (by simp); have r3 : c < 288 ∨ 288 < c := r (288, 288) (by simp); have r4 : c < 290 ∨ 290 < c := r (290, 290) (by simp); have r5 : c < 291 ∨ 291 < c := r (291, 291) (by simp); unfold scC at q; simp (disch := omega) only [wr_n]
    · have s0 : f ≠ 0 := fun e => p (by rw [e]; simp); simp (disch := omega) only [wr_ne]
    · unfold scC at p; simp (disch := omega) only [wr_ne]
  case cr => exact Rcr_pt h.1.cr (by simp (disch := omega) only [wr_ne]) h.2.b58 (fun c f p e => (by simp (disch := omega) only [wr_ne])) (fun d k p q e => (by simp (disch := omega) only [wr_ne])) hj (by simp (disch := first | assumption | omega) only [prv_n, nxt_n, q_sw, mc4, mc6, mc8, mc20, mc24, mc100, nv_rd, nb_rd, wr_rd, nI_lit, nI_add, pk_mul, pk_sub, q_div, cl_nI, vpi, q_eq, q_le, q_lt, n1_eq, n1_eq', n1_le, n1_lt, n1_ge, n1_gt, i_0m1, nlt_t, nlt_f, nle_t, nle_f, neq_f, f_below, f_within, f_isCorner, f_isIn, f_isCornerM, f_isStreet, f_isHouse, f_isCrew, f_isRow, f_has10, f_has0, jx_I, jx_N, jx_m1, jr_I, jr_N1, jr_N2, wr_2, isB_0, isB_1, true_and, and_true, and_self, false_and, and_false, true_or, or_true, false_or, or_false, not_true_eq_false, not_false_eq_true, forall_const, implies_true, false_implies, ne_eq, eq_self, if_true, if_false, Nat.zero_add, Nat.add_zero, Nat.mul_zero, Nat.zero_mul, Nat.mul_one, Nat.one_mul, Nat.add_sub_cancel, Nat.reduceEqDiff, Nat.reduceAdd, Nat.reduceMul, Nat.reduceSub, Nat.reduceLeDiff, Nat.reduceLT, Nat.reduceDiv, Nat.reduceMod, r0, r1, r2, r3, r4, r5, r6, r7, r8, r9, r10, r11, r12, r13, r14, r15, r16, ])
  case wcr =>
    refine Wcr_pt h.2.cr (by simp (disch := omega) only [wr_ne]) (by simp (disch := omega) only [wr_ne]) (by simp (disch := omega) only [wr_ne]) (by simp (disch := omega) only [wr_ne]) (by simp (disch := omega) only [wr_n]) (fun d k p q e => (by simp (disch := omega) only [wr_ne])) hj ?_ ?_ ?_
    · simp (disch := first | assumption | omega) only [prv_n, nxt_n, q_sw, mc4, mc6, mc8, mc20, mc24, mc100, nv_rd, nb_rd, wr_rd, nI_lit, nI_add, pk_mul, pk_sub, q_div, cl_nI, vpi, q_eq, q_le, q_lt, n1_eq, n1_eq', n1_le, n1_lt, n1_ge, n1_gt, i_0m1, nlt_t, nlt_f, nle_t, nle_f, neq_f, f_below, f_within, f_isCorner, f_isIn, f_isCornerM, f_isStreet, f_isHouse, f_isCrew, f_isRow, f_has10, f_has0, jx_I, jx_N, jx_m1, jr_I, jr_N1, jr_N2, wr_2, isB_0, isB_1, true_and, and_true, and_self, false_and, and_false, true_or, or_true, false_or, or_false, not_true_eq_false, not_false_eq_true, forall_const, implies_true, false_implies, ne_eq, eq_self, if_true, if_false, Nat.zero_add, Nat.add_zero, Nat.mul_zero, Nat.zero_mul, Nat.mul_one, Nat.one_mul, Nat.add_sub_cancel, Nat.reduceEqDiff, Nat.reduceAdd, Nat.reduceMul, Nat.reduceSub, Nat.reduceLeDiff, Nat.reduceLT, Nat.reduceDiv, Nat.reduceMod, v0, v1, v2, v3, v3', v4, v5, v6, v7, v9, v10, v11, v11']
    · simp (disch := first | assumption | omega) only [prv_n, nxt_n, q_sw, mc4, mc6, mc8, mc20, mc24, mc100, nv_rd, nb_rd, wr_rd, nI_lit, nI_add, pk_mul, pk_sub, q_div, cl_nI, vpi, q_eq, q_le, q_lt, n1_eq, n1_eq', n1_le, n1_lt, n1_ge, n1_gt, i_0m1, nlt_t, nlt_f, nle_t, nle_f, neq_f, f_below, f_within, f_isCorner, f_isIn, f_isCornerM, f_isStreet, f_isHouse, f_isCrew, f_isRow, f_has10, f_has0, jx_I, jx_N, jx_m1, jr_I, jr_N1, jr_N2, wr_2, isB_0, isB_1, true_and, and_true, and_self, false_and, and_false, true_or, or_true, false_or, or_false, not_true_eq_false, not_false_eq_true, forall_const, implies_true, false_implies, ne_eq, eq_self, if_true, if_false, Nat.zero_add, Nat.add_zero, Nat.mul_zero, Nat.zero_mul, Nat.mul_one, Nat.one_mul, Nat.add_sub_cancel, Nat.reduceEqDiff, Nat.reduceAdd, Nat.reduceMul, Nat.reduceSub, Nat.reduceLeDiff, Nat.reduceLT, Nat.reduceDiv, Nat.reduceMod, g0, g1, g2]
      exact ⟨g0, g1, g2⟩
    · simp (disch := first | assumption | omega) only [prv_n, nxt_n, q_sw, mc4, mc6, mc8, mc20, mc24, mc100, nv_rd, nb_rd, wr_rd, nI_lit, nI_add, pk_mul, pk_sub, q_div, cl_nI, vpi, q_eq, q_le, q_lt, n1_eq, n1_eq', n1_le, n1_lt, n1_ge, n1_gt, i_0m1, nlt_t, nlt_f, nle_t, nle_f, neq_f, f_below, f_within, f_isCorner, f_isIn, f_isCornerM, f_isStreet, f_isHouse, f_isCrew, f_isRow, f_has10, f_has0, jx_I, jx_N, jx_m1, jr_I, jr_N1, jr_N2, wr_2, isB_0, isB_1, true_and, and_true, and_self, false_and, and_false, true_or, or_true, false_or, or_false, not_true_eq_false, not_false_eq_true, forall_const, implies_true, false_implies, ne_eq, eq_self, if_true, if_false, Nat.zero_add, Nat.add_zero, Nat.mul_zero, Nat.zero_mul, Nat.mul_one, Nat.one_mul, Nat.add_sub_cancel, Nat.reduceEqDiff, Nat.reduceAdd, Nat.reduceMul, Nat.reduceSub, Nat.reduceLeDiff, Nat.reduceLT, Nat.reduceDiv, Nat.reduceMod]
theorem c_turnP {x s : ab_X} {j : Nat} (h : Inv2P x s) (hj : j < nv s.1 246 58) {K : ab_X → Prop} (k : ∀ y, Inv2P y (tnS s j) → keepT x.1 y.1 → smM x y → K y) : wX0_turnHome (82 + j) x K := by
  have w := h.w
  have bn := w.b58
  have b1 := w.b1
  obtain ⟨v0, v1, v2, v3, v3', v4, v5, v6, v7, v8, v9, v10, -⟩ := w.cr.1 j hj
  obtain ⟨r0, r1, r2, r3, r4, r5, r6, r7, r8, r9, r10, r11, r12, r13, r14, r15, r16⟩ := h.r.cr.1 j hj
  have u1 := v1.2
  have u9 := v9.2
  obtain ⟨sl1, sl2⟩ := sl_bP w hj
  unfold wX0_turnHome wX0_arrivalOf
  refine c_slowP h.r w hj ?_
  simp (disch := first | assumption | omega) only [prv_n, nxt_n, q_sw, mc4, mc6, mc8, mc20, mc24, mc100, nv_rd, nb_rd, wr_rd, nI_lit, nI_add, pk_mul, pk_sub, q_div, cl_nI, vpi, q_eq, q_le, q_lt, n1_eq, n1_eq', n1_le, n1_lt, n1_ge, n1_gt, i_0m1, nlt_t, nlt_f, nle_t, nle_f, neq_f, f_below, f_within, f_isCorner, f_isIn, f_isCornerM, f_isStreet, f_isHouse, f_isCrew, f_isRow, f_has10, f_has0, jx_I, jx_N, jx_m1, jr_I, jr_N1, jr_N2, wr_2, isB_0, isB_1, true_and, and_true, and_self, false_and, and_false, true_or, or_true, false_or, or_false, not_true_eq_false, not_false_eq_true, forall_const, implies_true, false_implies, ne_eq, eq_self, if_true, if_false, Nat.zero_add, Nat.add_zero, Nat.mul_zero, Nat.zero_mul, Nat.mul_one, Nat.one_mul, Nat.add_sub_cancel, Nat.reduceEqDiff, Nat.reduceAdd, Nat.reduceMul, Nat.reduceSub, Nat.reduceLeDiff, Nat.reduceLT, Nat.reduceDiv, Nat.reduceMod, r9, v9.1, r1, v1.1, h.r.s1, w.v1]
  refine c_arrP h.r w (by omega) (by omega) (by omega) sl1 sl2 (fun y hy1 hy2 => ?_)
  have hy : Inv2P y s := h.kc (keepC_8 hy1)
  have e1 : y.1 (82 + j) 1 = nI (nv s.1 280 j) := by rw [hy1 _ (by omega), r1, v1.1]
  have e12 : y.1 66 12 = nI (nv s.1 246 1) := by rw [hy1 _ (by decide), h.r.s1, w.v1]
  have sm : smM x y := ⟨fun c q => hy1 c (by omega), hy2⟩
  have kt := keepT_8 hy1
  have mgs : ∀ s' : ab_X, s' = s → True := fun _ _ => trivial
  unfold wX0_turnHome_23 wX2_rest wX2_set wX2_leaveWork
  have en : nv (mg y s).1 246 58 = nv s.1 246 58 := by unfold nv; rw [mg_m (by decide)]
  have rest : tnS s j = rsS s j (s.1 280 j) → K (wr (wr (wr (wr (wr y (82 + j) 12 (-nI 1)) (82 + j) 13 (-nI 1)) (82 + j) 8 (nI 0)) (82 + j) 9 (nI (nv s.1 280 j))) (82 + j) 10 (-nI 1)) := by
    intro e
    refine k _ ?_ ?_ ?_
    · rw [e]
      unfold Inv2P rsS
      rw [v1.1]
      simp (disch := omega) only [mg_wc, mg_wm]
      exact i_restP (j := j) hy (by omega) (show nv s.1 280 j < 20 by omega) rfl
    · exact kt.tr (fun c k q => by unfold tk at q; simp (disch := omega) only [wr_ne])
    · exact sm.tr ⟨fun c q => by simp (disch := omega) only [wr_n], rfl⟩
  unfold tnS at rest k
  have ea : cmr s.1 (nv s.1 287 j) (nv s.1 280 j) (nv s.1 246 1) (slN s.1 j) = tnA s j := rfl
  rw [ea]
  rcases cmr_d (Y := s.1) (nv s.1 287 j) (nv s.1 280 j) (nv s.1 246 1) (slN s.1 j) with e | ⟨t, ht, e⟩
  · rw [ea] at e
    rw [if_pos (Or.inl e)] at rest
    rw [e]
    simp (disch := first | assumption | omega) only [prv_n, nxt_n, q_sw, mc4, mc6, mc8, mc20, mc24, mc100, nv_rd, nb_rd, wr_rd, nI_lit, nI_add, pk_mul, pk_sub, q_div, cl_nI, vpi, q_eq, q_le, q_lt, n1_eq, n1_eq', n1_le, n1_lt, n1_ge, n1_gt, i_0m1, nlt_t, nlt_f, nle_t, nle_f, neq_f, f_below, f_within, f_isCorner, f_isIn, f_isCornerM, f_isStreet, f_isHouse, f_isCrew, f_isRow, f_has10, f_has0, jx_I, jx_N, jx_m1, jr_I, jr_N1, jr_N2, wr_2, isB_0, isB_1, true_and, and_true, and_self, false_and, and_false, true_or, or_true, false_or, or_false, not_true_eq_false, not_false_eq_true, forall_const, implies_true, false_implies, ne_eq, eq_self, if_true, if_false, Nat.zero_add, Nat.add_zero, Nat.mul_zero, Nat.zero_mul, Nat.mul_one, Nat.one_mul, Nat.add_sub_cancel, Nat.reduceEqDiff, Nat.reduceAdd, Nat.reduceMul, Nat.reduceSub, Nat.reduceLeDiff, Nat.reduceLT, Nat.reduceDiv, Nat.reduceMod, e1]
    exact rest rfl
  · rw [ea] at e
    rw [e] at rest k ⊢
    by_cases q : t = 0
    · rw [if_pos (Or.inr (by rw [q]; rfl))] at rest
      simp (disch := first | assumption | omega) only [prv_n, nxt_n, q_sw, mc4, mc6, mc8, mc20, mc24, mc100, nv_rd, nb_rd, wr_rd, nI_lit, nI_add, pk_mul, pk_sub, q_div, cl_nI, vpi, q_eq, q_le, q_lt, n1_eq, n1_eq', n1_le, n1_lt, n1_ge, n1_gt, i_0m1, nlt_t, nlt_f, nle_t, nle_f, neq_f, f_below, f_within, f_isCorner, f_isIn, f_isCornerM, f_isStreet, f_isHouse, f_isCrew, f_isRow, f_has10, f_has0, jx_I, jx_N, jx_m1, jr_I, jr_N1, jr_N2, wr_2, isB_0, isB_1, true_and, and_true, and_self, false_and, and_false, true_or, or_true, false_or, or_false, not_true_eq_false, not_false_eq_true, forall_const, implies_true, false_implies, ne_eq, eq_self, if_true, if_false, Nat.zero_add, Nat.add_zero, Nat.mul_zero, Nat.zero_mul, Nat.mul_one, Nat.one_mul, Nat.add_sub_cancel, Nat.reduceEqDiff, Nat.reduceAdd, Nat.reduceMul, Nat.reduceSub, Nat.reduceLeDiff, Nat.reduceLT, Nat.reduceDiv, Nat.reduceMod, e1, e12]
      exact rest rfl
    · rw [if_neg (fun u => u.elim (n1_eq' (by omega)).mp (fun u => q (by rw [q_eq (by omega) (by omega)] at u; omega)))] at k
      simp (disch := first | assumption | omega) only [prv_n, nxt_n, q_sw, mc4, mc6, mc8, mc20, mc24, mc100, nv_rd, nb_rd, wr_rd, nI_lit, nI_add, pk_mul, pk_sub, q_div, cl_nI, vpi, q_eq, q_le, q_lt, n1_eq, n1_eq', n1_le, n1_lt, n1_ge, n1_gt, i_0m1, nlt_t, nlt_f, nle_t, nle_f, neq_f, f_below, f_within, f_isCorner, f_isIn, f_isCornerM, f_isStreet, f_isHouse, f_isCrew, f_isRow, f_has10, f_has0, jx_I, jx_N, jx_m1, jr_I, jr_N1, jr_N2, wr_2, isB_0, isB_1, true_and, and_true, and_self, false_and, and_false, true_or, or_true, false_or, or_false, not_true_eq_false, not_false_eq_true, forall_const, implies_true, false_implies, ne_eq, eq_self, if_true, if_false, Nat.zero_add, Nat.add_zero, Nat.mul_zero, Nat.zero_mul, Nat.mul_one, Nat.one_mul, Nat.add_sub_cancel, Nat.reduceEqDiff, Nat.reduceAdd, Nat.reduceMul, Nat.reduceSub, Nat.reduceLeDiff, Nat.reduceLT, Nat.reduceDiv, Nat.reduceMod, e1, e12]
      refine k _ ?_ ?_ ?_
      · unfold Inv2P rsS
        rw [v1.1]
        simp (disch := omega) only [mg_wc, mg_wm]
        exact i_wayP (j := j) hy (by omega) (show nv s.1 280 j < 20 by omega) rfl
      · exact kt.tr (fun c k q => by unfold tk at q; simp (disch := omega) only [wr_ne])
      · exact sm.tr ⟨fun c q => by simp (disch := omega) only [wr_n], rfl⟩
theorem m_turnP {x s : ab_X} {j : Nat} (m : keepM s.1 x.1) (w : WWp s.1) (hj : j < nv s.1 246 58) {K : ab_X → Prop} (k : ∀ y, keepM (tnS s j).1 y.1 → keepT x.1 y.1 → smC x y → (∀ c, c ≠ 253 → ¬ (286 ≤ c ∧ c ≤ 291) → y.1 c = x.1 c) → K y) : wX12_turns (nI j) (nI (nv s.1 287 j)) x K := by
  have bn := w.b58
  have b1 := w.b1
  obtain ⟨v0, v1, v2, v3, v3', v4, v5, v6, v7, v8, v9, v10, -⟩ := w.cr.1 j hj
  have u1 := v1.2
  have u9 := v9.2
  obtain ⟨sl1, sl2⟩ := sl_bP w hj
  unfold wX12_turns
  simp (disch := first | assumption | omega) only [prv_n, nxt_n, q_sw, mc4, mc6, mc8, mc20, mc24, mc100, nv_rd, nb_rd, wr_rd, nI_lit, nI_add, pk_mul, pk_sub, q_div, cl_nI, vpi, q_eq, q_le, q_lt, n1_eq, n1_eq', n1_le, n1_lt, n1_ge, n1_gt, i_0m1, nlt_t, nlt_f, nle_t, nle_f, neq_f, f_below, f_within, f_isCorner, f_isIn, f_isCornerM, f_isStreet, f_isHouse, f_isCrew, f_isRow, f_has10, f_has0, jx_I, jx_N, jx_m1, jr_I, jr_N1, jr_N2, wr_2, isB_0, isB_1, true_and, and_true, and_self, false_and, and_false, true_or, or_true, false_or, or_false, not_true_eq_false, not_false_eq_true, forall_const, implies_true, false_implies, ne_eq, eq_self, if_true, if_false, Nat.zero_add, Nat.add_zero, Nat.mul_zero, Nat.zero_mul, Nat.mul_one, Nat.one_mul, Nat.add_sub_cancel, Nat.reduceEqDiff, Nat.reduceAdd, Nat.reduceMul, Nat.reduceSub, Nat.reduceLeDiff, Nat.reduceLT, Nat.reduceDiv, Nat.reduceMod, m.c280, v1.1, m.s1, w.v1]
  refine m_slowP m w hj ?_
  refine m_comeP m w (by omega) (by omega) (by omega) sl1 sl2 (fun y hy1 hy2 => ?_)
  have my : keepM s.1 y.1 := m.tr (keepM_253 hy1)
  have sm : smC x y := ⟨fun c q => hy1 c (by omega), by rw [hy2]⟩
  have kt := keepT_253 hy1
  unfold wX12_rests
  simp (disch := first | assumption | omega) only [prv_n, nxt_n, q_sw, mc4, mc6, mc8, mc20, mc24, mc100, nv_rd, nb_rd, wr_rd, nI_lit, nI_add, pk_mul, pk_sub, q_div, cl_nI, vpi, q_eq, q_le, q_lt, n1_eq, n1_eq', n1_le, n1_lt, n1_ge, n1_gt, i_0m1, nlt_t, nlt_f, nle_t, nle_f, neq_f, f_below, f_within, f_isCorner, f_isIn, f_isCornerM, f_isStreet, f_isHouse, f_isCrew, f_isRow, f_has10, f_has0, jx_I, jx_N, jx_m1, jr_I, jr_N1, jr_N2, wr_2, isB_0, isB_1, true_and, and_true, and_self, false_and, and_false, true_or, or_true, false_or, or_false, not_true_eq_false, not_false_eq_true, forall_const, implies_true, false_implies, ne_eq, eq_self, if_true, if_false, Nat.zero_add, Nat.add_zero, Nat.mul_zero, Nat.zero_mul, Nat.mul_one, Nat.one_mul, Nat.add_sub_cancel, Nat.reduceEqDiff, Nat.reduceAdd, Nat.reduceMul, Nat.reduceSub, Nat.reduceLeDiff, Nat.reduceLT, Nat.reduceDiv, Nat.reduceMod, my.c280, v1.1, my.s1, w.v1]
  have mr : keepM (rsS s j (s.1 280 j)).1 (wr (wr (wr (wr (wr y 286 j (nI 0)) 287 j (nI (nv s.1 280 j))) 288 j (-nI 1)) 290 j (-nI 1)) 291 j (-nI 1)).1 := by
    unfold rsS
    rw [v1.1]
    exact keepM_wr (keepM_wr (keepM_wr (keepM_wr (keepM_wr my))))
  have rest : tnS s j = rsS s j (s.1 280 j) → K (wr (wr (wr (wr (wr y 286 j (nI 0)) 287 j (nI (nv s.1 280 j))) 288 j (-nI 1)) 290 j (-nI 1)) 291 j (-nI 1)) := by
    intro e
    refine k _ ?_ ?_ ?_ ?_
    · rw [e]; exact mr
    · exact kt.tr (fun c k q => by unfold tk at q; simp (disch := omega) only [wr_ne])
    · exact sm.tr ⟨fun c q => by simp (disch := omega) only [wr_n], rfl⟩
    · intro c h1 h2
      simp (disch := omega) only [wr_n]
      exact hy1 c h1
  unfold tnS at rest k
  have ea : cmr s.1 (nv s.1 287 j) (nv s.1 280 j) (nv s.1 246 1) (slN s.1 j) = tnA s j := rfl
  rw [ea]
  rcases cmr_d (Y := s.1) (nv s.1 287 j) (nv s.1 280 j) (nv s.1 246 1) (slN s.1 j) with e | ⟨t, ht, e⟩
  · rw [ea] at e
    rw [if_pos (Or.inl e)] at rest
    rw [e]
    simp (disch := first | assumption | omega) only [prv_n, nxt_n, q_sw, mc4, mc6, mc8, mc20, mc24, mc100, nv_rd, nb_rd, wr_rd, nI_lit, nI_add, pk_mul, pk_sub, q_div, cl_nI, vpi, q_eq, q_le, q_lt, n1_eq, n1_eq', n1_le, n1_lt, n1_ge, n1_gt, i_0m1, nlt_t, nlt_f, nle_t, nle_f, neq_f, f_below, f_within, f_isCorner, f_isIn, f_isCornerM, f_isStreet, f_isHouse, f_isCrew, f_isRow, f_has10, f_has0, jx_I, jx_N, jx_m1, jr_I, jr_N1, jr_N2, wr_2, isB_0, isB_1, true_and, and_true, and_self, false_and, and_false, true_or, or_true, false_or, or_false, not_true_eq_false, not_false_eq_true, forall_const, implies_true, false_implies, ne_eq, eq_self, if_true, if_false, Nat.zero_add, Nat.add_zero, Nat.mul_zero, Nat.zero_mul, Nat.mul_one, Nat.one_mul, Nat.add_sub_cancel, Nat.reduceEqDiff, Nat.reduceAdd, Nat.reduceMul, Nat.reduceSub, Nat.reduceLeDiff, Nat.reduceLT, Nat.reduceDiv, Nat.reduceMod]
    exact rest rfl
  · rw [ea] at e
    rw [e] at rest k ⊢
    by_cases q : t = 0
    · rw [if_pos (Or.inr (by rw [q]; rfl))] at rest
      subst q
      simp (disch := first | assumption | omega) only [prv_n, nxt_n, q_sw, mc4, mc6, mc8, mc20, mc24, mc100, nv_rd, nb_rd, wr_rd, nI_lit, nI_add, pk_mul, pk_sub, q_div, cl_nI, vpi, q_eq, q_le, q_lt, n1_eq, n1_eq', n1_le, n1_lt, n1_ge, n1_gt, i_0m1, nlt_t, nlt_f, nle_t, nle_f, neq_f, f_below, f_within, f_isCorner, f_isIn, f_isCornerM, f_isStreet, f_isHouse, f_isCrew, f_isRow, f_has10, f_has0, jx_I, jx_N, jx_m1, jr_I, jr_N1, jr_N2, wr_2, isB_0, isB_1, true_and, and_true, and_self, false_and, and_false, true_or, or_true, false_or, or_false, not_true_eq_false, not_false_eq_true, forall_const, implies_true, false_implies, ne_eq, eq_self, if_true, if_false, Nat.zero_add, Nat.add_zero, Nat.mul_zero, Nat.zero_mul, Nat.mul_one, Nat.one_mul, Nat.add_sub_cancel, Nat.reduceEqDiff, Nat.reduceAdd, Nat.reduceMul, Nat.reduceSub, Nat.reduceLeDiff, Nat.reduceLT, Nat.reduceDiv, Nat.reduceMod]
      exact rest rfl
    · rw [if_neg (fun u => u.elim (n1_eq' (by omega)).mp (fun u => q (by rw [q_eq (by omega) (by omega)] at u; omega)))] at k
      simp (disch := first | assumption | omega) only [prv_n, nxt_n, q_sw, mc4, mc6, mc8, mc20, mc24, mc100, nv_rd, nb_rd, wr_rd, nI_lit, nI_add, pk_mul, pk_sub, q_div, cl_nI, vpi, q_eq, q_le, q_lt, n1_eq, n1_eq', n1_le, n1_lt, n1_ge, n1_gt, i_0m1, nlt_t, nlt_f, nle_t, nle_f, neq_f, f_below, f_within, f_isCorner, f_isIn, f_isCornerM, f_isStreet, f_isHouse, f_isCrew, f_isRow, f_has10, f_has0, jx_I, jx_N, jx_m1, jr_I, jr_N1, jr_N2, wr_2, isB_0, isB_1, true_and, and_true, and_self, false_and, and_false, true_or, or_true, false_or, or_false, not_true_eq_false, not_false_eq_true, forall_const, implies_true, false_implies, ne_eq, eq_self, if_true, if_false, Nat.zero_add, Nat.add_zero, Nat.mul_zero, Nat.zero_mul, Nat.mul_one, Nat.one_mul, Nat.add_sub_cancel, Nat.reduceEqDiff, Nat.reduceAdd, Nat.reduceMul, Nat.reduceSub, Nat.reduceLeDiff, Nat.reduceLT, Nat.reduceDiv, Nat.reduceMod]
      refine k _ (keepM_wr (keepM_wr mr)) ?_ ?_ ?_
      · exact kt.tr (fun c k q => by unfold tk at q; simp (disch := omega) only [wr_ne])
      · exact sm.tr ⟨fun c q => by simp (disch := omega) only [wr_n], rfl⟩
      · intro c h1 h2
        simp (disch := omega) only [wr_n]
        exact hy1 c h1
