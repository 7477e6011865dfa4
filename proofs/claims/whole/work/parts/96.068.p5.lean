/-! CALLS: who comes soonest, the reference; the bare post. -/
theorem m_soonest {x : ab_X} {Y : Nat → Nat → Int32} (m : keepM Y x.1) (w : WW Y) {a : Int32} {c : Nat} (hc : c < 20) {K : Int32 → ab_X → Prop} (k : ∀ y v, (∀ d, d ≠ 253 → y.1 d = x.1 d) → y.2 = x.2 → (∀ j, j < 16 → mnF (arG Y a c) (nv Y 246 58) = nI j → v = arG Y a c j) → K (mnF (arG Y a c) (nv Y 246 58)) (wr y 246 93 v)) : wX12_soonest a (nI c) x K := by
  have bn := w.b58
  have b1 := w.b1
  unfold wX12_soonest
  refine Lp4.ind (fun ii b0 b1 b2 y => ∃ i, i ≤ nv Y 246 58 ∧ ii = nv Y 246 58 - i ∧ b0 = mnF (arG Y a c) i ∧ b2 = nI i ∧ (∀ j, j < 16 → mnF (arG Y a c) i = nI j → b1 = arG Y a c j) ∧ (∀ d, d ≠ 253 → y.1 d = x.1 d) ∧ y.2 = x.2) (nv Y 246 58) ⟨0, Nat.zero_le _, rfl, rfl, rfl, fun j hj e => absurd e (n1_eq (by omega)).mp, fun _ _ => rfl, rfl⟩ ?_
  rintro ii v3 v4 v5 y ⟨i, hi, hii, rfl, rfl, hv, e1, e2⟩ L hL
  have my : keepM Y y.1 := m.tr (keepM_253 e1)
  unfold lX12_soonest_8
  have ei : nI i + 1 = nI (i + 1) := nI_add i 1
  rw [my.s58, w.v58, q_le (by omega) (by omega), ei]
  refine ⟨fun q => ?_, fun q => ?_⟩
  · have : i = nv Y 246 58 := by omega
    subst this
    exact k y v4 e1 e2 hv
  have hi' : i < nv Y 246 58 := by omega
  have vi : vp_in (nI i) 16 := (vpi (by omega) (by decide)).mpr trivial
  obtain ⟨v0, u1, v2, v3, v3', u4, u5, v6, v7, v8, v9, v10, -⟩ := w.cr.1 i hi'
  have u9 := v9.2
  obtain ⟨sl1, sl2⟩ := sl_b w hi'
  have ms : mnF (arG Y a c) (i + 1) = if arG Y a c i = -nI 1 then mnF (arG Y a c) i else if mnF (arG Y a c) i = -nI 1 ∨ arG Y a c i < arG Y a c (mnF (arG Y a c) i).toNatClampNeg then nI i else mnF (arG Y a c) i := rfl
  have skip : ∀ z, arG Y a c i = -nI 1 → (∀ d, d ≠ 253 → z.1 d = x.1 d) → z.2 = x.2 → L (mnF (arG Y a c) i) v4 (nI (i + 1)) z := by
    intro z e z1 z2
    have e' : mnF (arG Y a c) (i + 1) = mnF (arG Y a c) i := by rw [ms, if_pos e]
    exact hL _ _ _ _ _ (by omega) ⟨i + 1, by omega, rfl, e'.symm, rfl, by rw [e']; exact hv, z1, z2⟩
  have go : Y 286 i = nI 0 → fitB Y a i = true → wX12_soonest_60 a (nI c) (mnF (arG Y a c) i) v4 (nI i) y K L := by
    intro g1 g2
    have ear : arG Y a c i = arT Y i c := by unfold arG; rw [if_pos ⟨g1, g2⟩]
    unfold wX12_soonest_60 wX12_soonest_105
    rw [cl_nI (by omega), my.c287, v9.1, my.s1, w.v1, ei]
    refine ⟨vi, m_slow my w hi' ?_⟩
    refine m_come my w (by omega) hc (by omega) sl1 sl2 (fun z z1 z2 => ?_)
    have et : cmr Y (nv Y 287 i) c (nv Y 246 1) (slN Y i) = arG Y a c i := ear.symm
    rw [et]
    have f1 : ∀ d, d ≠ 253 → z.1 d = x.1 d := fun d hd => by rw [z1 d hd]; exact e1 d hd
    have f2 := z2.trans e2
    refine ⟨fun q1 => skip z q1 f1 f2, fun q1 => ?_⟩
    have q1 : ¬ arG Y a c i = -nI 1 := q1
    have take : (mnF (arG Y a c) i = -nI 1 ∨ arG Y a c i < arG Y a c (mnF (arG Y a c) i).toNatClampNeg) → L (nI i) (arG Y a c i) (nI (i + 1)) z := by
      intro q2
      have e' : mnF (arG Y a c) (i + 1) = nI i := by rw [ms, if_neg q1, if_pos q2]
      refine hL _ _ _ _ _ (by omega) ⟨i + 1, by omega, rfl, e'.symm, rfl, fun j hj u => ?_, f1, f2⟩
      rw [e', q_eq (by omega) (by omega)] at u
      rw [u]
    have keep : ¬ (mnF (arG Y a c) i = -nI 1 ∨ arG Y a c i < arG Y a c (mnF (arG Y a c) i).toNatClampNeg) → L (mnF (arG Y a c) i) v4 (nI (i + 1)) z := by
      intro q2
      have e' : mnF (arG Y a c) (i + 1) = mnF (arG Y a c) i := by rw [ms, if_neg q1, if_neg q2]
      exact hL _ _ _ _ _ (by omega) ⟨i + 1, by omega, rfl, e'.symm, rfl, by rw [e']; exact hv, f1, f2⟩
    refine ⟨fun q2 => take (Or.inl q2), fun q2 => ?_⟩
    rcases mnF_d (arG Y a c) i with e | ⟨j, hj, e, -⟩
    · exact absurd e q2
    have ev := hv j (by omega) e
    rw [e, cl_nI (by omega)] at take keep
    rw [ev] at keep ⊢
    rw [e]
    refine ⟨fun q3 => take (Or.inr q3), fun q3 => keep (fun u => u.elim (n1_eq' (by omega)).mp q3)⟩
  rw [cl_nI (by omega), my.c286, my.c279]
  have noG : ¬ Y 286 i = nI 0 ∨ ¬ fitB Y a i = true → arG Y a c i = -nI 1 := by
    intro u
    unfold arG
    rw [if_neg (fun g => u.elim (fun n => n g.1) (fun n => n g.2))]
  have e43 : Y 286 i = nI 0 → (¬ a = -nI 1 → Y 279 i = a) → wX12_soonest_43 a (nI c) (mnF (arG Y a c) i) v4 (nI i) y K L := by
    intro g1 g2
    unfold wX12_soonest_43
    rw [ei]
    refine ⟨fun na => go g1 ?_, fun ea => ?_⟩
    · have na : ¬ a = -nI 1 := na
      unfold fitB; rw [if_neg na]; exact decide_eq_true (g2 na)
    · have ea : a = -nI 1 := ea
      refine m_isShared my w hi' ?_
      cases es : shB Y i
      · exact x0 (skip y (noG (Or.inr (by unfold fitB; rw [if_pos ea, es]; decide))) e1 e2)
      · exact x1 (go g1 (by unfold fitB; rw [if_pos ea]; exact es))
  refine ⟨vi, fun q1 => skip y (noG (Or.inl q1)) e1 e2, fun q1 => ⟨fun q2 => e43 q1 (fun na => absurd q2 na), fun q2 => ⟨vi, fun q3 => skip y (noG (Or.inr ?_)) e1 e2, fun q3 => e43 q1 (fun _ => q3)⟩⟩⟩
  have q2 : ¬ a = -nI 1 := q2
  unfold fitB; rw [if_neg q2, decide_eq_false q3]; decide
def hmP (Y : Nat → Nat → Int32) (k o : Nat) : Bool := decide (nv Y 280 o = k)
def hdP (Y : Nat → Nat → Int32) (k o : Nat) : Bool := decide ((Y 286 o = nI 0 ∨ Y 286 o = nI 3) ∧ nv Y 287 o = k)
def anB (p : Nat → Bool) (n : Nat) : Bool := decide (0 < cn p n)
theorem anB_s (p : Nat → Bool) (i : Nat) : anB p (i + 1) = (anB p i || p i) := by
  unfold anB
  show decide (0 < cn p i + (if p i then 1 else 0)) = _
  cases e : p i
  · rw [if_neg (by decide), Nat.add_zero, Bool.or_false]
  · rw [if_pos rfl, Bool.or_true]
    exact decide_eq_true (by omega)
def bpB (Y : Nat → Nat → Int32) (k : Nat) : Bool := anB (hmP Y k) (nv Y 246 58) && !(anB (hdP Y k) (nv Y 246 58))
def bpI (Y : Nat → Nat → Int32) : Int32 := fstB (bpB Y) 0 20
theorem bp_d (Y : Nat → Nat → Int32) : (bpI Y = -nI 1 ∧ ∀ h, h < 20 → bpB Y h = false) ∨ ∃ j, j < 20 ∧ bpI Y = nI j ∧ bpB Y j = true ∧ ∀ h, h < j → bpB Y h = false := by
  by_cases q : ∃ j, j < 20 ∧ bpB Y j = true
  · right
    obtain ⟨j, h1, h2⟩ := pk_least (fun j => j < 20 ∧ bpB Y j = true) q
    have h3 : ∀ h, h < j → bpB Y h = false := by
      intro h hh
      cases e : bpB Y h
      · rfl
      · exact absurd ⟨by omega, e⟩ (h2 h hh)
    exact ⟨j, h1.1, fstB_yes (Nat.zero_le j) (by omega) h1.2 (fun h _ hh => h3 h hh), h1.2, h3⟩
  · left
    have z : ∀ h, h < 20 → bpB Y h = false := by
      intro h hh
      cases e : bpB Y h
      · rfl
      · exact absurd ⟨h, hh, e⟩ q
    exact ⟨fstB_no (fun h _ h2 => z h (by omega)), z⟩
theorem c_bare {x : ab_X} {Y : Nat → Nat → Int32} {D : Nat → UInt64} (r : RR x.1 Y D) (w : WW Y) {K : Int32 → Prop} (k : K (bpI Y)) : wX0_barePost x K := by
  have bn := w.b58
  unfold wX0_barePost
  refine Lp3.ind (fun ii b0 b1 b2 => ∃ i, i ≤ nv Y 246 58 ∧ ii = nv Y 246 58 - i ∧ b2 = nI i ∧ (∀ j, j < 32 → bt b0 j = anB (hmP Y j) i) ∧ (∀ j, j < 32 → bt b1 j = anB (hdP Y j) i)) (nv Y 246 58) ⟨0, Nat.zero_le _, rfl, rfl, fun j hj => b_0 j, fun j hj => b_0 j⟩ ?_
  rintro ii b0 b1 b2 ⟨i, hi, hii, rfl, h0, h1⟩ L hL
  unfold lX0_barePost_6 wX0_barePost_53
  have ei : nI i + 1 = nI (i + 1) := nI_add i 1
  rw [r.s58, w.v58, q_le (by omega) (by omega), ei]
  refine ⟨fun q => ?_, fun q => ?_⟩
  · have : i = nv Y 246 58 := by omega
    subst this
    have bb' : ∀ j, j < 32 → bt (b0 &&& (b1 ^^^ (-1))) j = bpB Y j := by
      intro j hj
      rw [b_and, b_xor, b_m1 j hj, h0 j hj, h1 j hj]
      unfold bpB
      cases anB (hdP Y j) (nv Y 246 58) <;> rfl
    have hi20 : ∀ j, 20 ≤ j → bpB Y j = false := by
      intro j hj
      unfold bpB
      have : anB (hmP Y j) (nv Y 246 58) = false := by
        unfold anB
        rw [cn_0 (fun o ho => ?_)]
        · rfl
        · have := (w.cr.1 o ho).2.1.2
          unfold hmP
          exact decide_eq_false (by omega)
      rw [this]; rfl
    rcases bp_d Y with ⟨e, z⟩ | ⟨m, hm, e, o, z⟩
    · rw [e] at k
      have e0 : (b0 &&& (b1 ^^^ (-1))) = nI 0 := bt_ext0.mpr (fun j hj => by
        rw [bb' j hj]
        by_cases q : j < 20
        · exact z j q
        · exact hi20 j (by omega))
      exact ⟨fun u => absurd e0 u, fun _ => k⟩
    · rw [e] at k
      refine ⟨fun _ => low_bit (m := m) (fun j p q => by rw [bb' j q]; exact hi20 j p) hm (by rw [bb' m (by omega)]; exact o) (fun j hj => by rw [bb' j (by omega)]; exact z j hj) k, fun u => ?_⟩
      have u : (b0 &&& (b1 ^^^ (-1))) = nI 0 := u
      have := bt_ext0.mp u m (by omega)
      rw [bb' m (by omega), o] at this
      cases this
  · have hi' : i < nv Y 246 58 := by omega
    have vi : vp_in (nI i) 16 := (vpi (by omega) (by decide)).mpr trivial
    obtain ⟨v0, u1, -⟩ := w.cr.1 i hi'
    obtain ⟨-, -, -, -, -, -, -, -, -, v8, v9, -⟩ := w.cr.1 i hi'
    obtain ⟨r0, r1, r2, r3, r4, r5, r6, r7, r8, r9, -⟩ := r.cr.1 i hi'
    have l1 := u1.2
    have l9 := v9.2
    have n0 : ∀ j, j < 32 → bt (b0 ||| (1 <<< (nI (nv Y 280 i) &&& 31))) j = anB (hmP Y j) (i + 1) := by
      intro j hj
      rw [b_or, h0 j hj, anB_s]
      have : bt (1 <<< (nI (nv Y 280 i) &&& 31)) j = hmP Y j i := by
        have := bt_one (c := nv Y 280 i) (i := j) (by omega) hj
        refine Eq.trans this ?_
        unfold hmP
        by_cases q : nv Y 280 i = j
        · rw [decide_eq_true q, decide_eq_true q.symm]
        · rw [decide_eq_false q, decide_eq_false (fun u => q u.symm)]
      rw [this]
    have n1 : (Y 286 i = nI 0 ∨ Y 286 i = nI 3) → ∀ j, j < 32 → bt (b1 ||| (1 <<< (nI (nv Y 287 i) &&& 31))) j = anB (hdP Y j) (i + 1) := by
      intro g j hj
      rw [b_or, h1 j hj, anB_s]
      have : bt (1 <<< (nI (nv Y 287 i) &&& 31)) j = hdP Y j i := by
        have := bt_one (c := nv Y 287 i) (i := j) (by omega) hj
        refine Eq.trans this ?_
        unfold hdP
        by_cases q : nv Y 287 i = j
        · rw [decide_eq_true q.symm, decide_eq_true (show _ ∧ _ from ⟨g, q⟩)]
        · rw [decide_eq_false (fun u => q u.symm), decide_eq_false (fun u => q u.2)]
      rw [this]
    have n2 : ¬ (Y 286 i = nI 0 ∨ Y 286 i = nI 3) → ∀ j, j < 32 → bt b1 j = anB (hdP Y j) (i + 1) := by
      intro g j hj
      rw [h1 j hj, anB_s]
      have : hdP Y j i = false := decide_eq_false (fun u => g u.1)
      rw [this, Bool.or_false]
    rw [cl_nI (by omega), r8, r1, u1.1, r9, v9.1]
    refine ⟨vi, vi, fun q1 => ⟨vi, hL _ _ _ _ (by omega) ⟨i + 1, by omega, rfl, rfl, n0, n1 (Or.inl q1)⟩⟩, fun q1 => ⟨vi, fun q2 => hL _ _ _ _ (by omega) ⟨i + 1, by omega, rfl, rfl, n0, n2 (fun u => u.elim q1 q2)⟩, fun q2 => ⟨vi, hL _ _ _ _ (by omega) ⟨i + 1, by omega, rfl, rfl, n0, n1 (Or.inr q2)⟩⟩⟩⟩
theorem m_bare {x : ab_X} {Y : Nat → Nat → Int32} (m : keepM Y x.1) (w : WW Y) {K : Int32 → Prop} (k : K (bpI Y)) : wX12_emptyHome x K := by
  have bn := w.b58
  unfold wX12_emptyHome
  refine Lp1.ind (fun ii b => ∃ j, j ≤ 20 ∧ ii = 20 - j ∧ b = nI j ∧ ∀ h, h < j → bpB Y h = false) 20 ⟨0, by decide, rfl, rfl, fun h hh => absurd hh (Nat.not_lt_zero h)⟩ ?_
  rintro ii b ⟨j, hj, hii, rfl, z⟩ L hL
  unfold lX12_emptyHome_2
  simp only [nI_lit]
  rw [q_le (by omega) (by omega)]
  refine ⟨fun q => ?_, fun q => ?_⟩
  · have : bpI Y = -nI 1 := fstB_no (fun h _ h2 => z h (by omega))
    rw [this] at k; exact k
  have next : bpB Y j = false → L (nI (j + 1)) := fun e => hL _ _ (by omega) ⟨j + 1, by omega, rfl, rfl, fun h hh => by
    by_cases e2 : h = j
    · rw [e2]; exact e
    · exact z h (by omega)⟩
  have ej : nI j + 1 = nI (j + 1) := nI_add j 1
  refine Lp3.seq (nv Y 246 58) (fun i => bb (anB (hmP Y j) i)) (fun i => bb (anB (hdP Y j) i)) nI rfl rfl rfl ?_ ?_
  · intro i hi L2 hL2
    have hL2 : L2 (bb (anB (hmP Y j) (i + 1))) (bb (anB (hdP Y j) (i + 1))) (nI (i + 1)) := hL2
    rw [anB_s, anB_s] at hL2
    have vi : vp_in (nI i) 16 := (vpi (by omega) (by decide)).mpr trivial
    obtain ⟨v0, u1, -⟩ := w.cr.1 i hi
    obtain ⟨-, -, -, -, -, -, -, -, -, v8, v9, -⟩ := w.cr.1 i hi
    have l1 := u1.2
    have l9 := v9.2
    have ei : nI i + 1 = nI (i + 1) := nI_add i 1
    have e44 : ∀ s0, s0 = bb (anB (hmP Y j) i || hmP Y j i) → wX12_emptyHome_44 (nI j) (bb (anB (hdP Y j) i)) (nI i) s0 x K L L2 := by
      intro s0 es
      unfold wX12_emptyHome_44 wX12_emptyHome_70 wX12_emptyHome_81 wX12_emptyHome_85
      rw [ei, cl_nI (by omega), m.c286, m.c287, es]
      cases ed : anB (hdP Y j) i
      · rw [ed] at hL2
        have ff : hdP Y j i = false → L2 (bb (anB (hmP Y j) i || hmP Y j i)) 0 (nI (i + 1)) := fun u => by rw [u] at hL2; exact hL2
        have tt : hdP Y j i = true → L2 (bb (anB (hmP Y j) i || hmP Y j i)) 1 (nI (i + 1)) := fun u => by rw [u] at hL2; exact hL2
        have f70 : (Y 286 i = nI 0 ∨ Y 286 i = nI 3) → (vp_in (nI i) 16 ∧ ((¬ Y 287 i = nI j → L2 (bb (anB (hmP Y j) i || hmP Y j i)) 0 (nI (i + 1))) ∧ (Y 287 i = nI j → L2 (bb (anB (hmP Y j) i || hmP Y j i)) 1 (nI (i + 1))))) := by
          intro g
          refine ⟨vi, fun q1 => ff (decide_eq_false (fun u => q1 (by rw [v9.1, u.2]))), fun q1 => tt (decide_eq_true ⟨g, ?_⟩)⟩
          rw [v9.1, q_eq (by omega) (by omega)] at q1
          exact q1
        refine x0 ⟨vi, fun q1 => f70 (Or.inl q1), fun q1 => ⟨vi, fun q2 => ff (decide_eq_false (fun u => u.1.elim q1 q2)), fun q2 => f70 (Or.inr q2)⟩⟩
      · rw [ed, Bool.true_or] at hL2
        exact x1 hL2
    unfold lX12_emptyHome_15 wX12_emptyHome_39
    rw [m.s58, w.v58, q_le (by omega) (by omega), cl_nI (by omega), m.c280]
    refine ⟨fun u => absurd u (by omega), fun _ => ?_⟩
    cases eh : anB (hmP Y j) i
    · rw [eh, Bool.false_or] at e44
      refine x0 ⟨vi, fun q1 => e44 _ ?_, fun q1 => e44 _ ?_⟩
      · have : hmP Y j i = false := decide_eq_false (fun u => q1 (by rw [u1.1, u]))
        rw [this]; rfl
      · have : hmP Y j i = true := decide_eq_true (by rw [u1.1, q_eq (by omega) (by omega)] at q1; exact q1)
        rw [this]; rfl
    · rw [eh, Bool.true_or] at e44
      exact x1 (e44 _ rfl)
  · intro L2
    unfold lX12_emptyHome_15
    rw [m.s58, w.v58, q_le (by omega) (by omega), ej]
    refine ⟨fun _ => ?_, fun u => absurd (Nat.le_refl _) u⟩
    cases eh : anB (hmP Y j) (nv Y 246 58)
    · exact y0 (next (by unfold bpB; rw [eh]; rfl))
    · refine y1 ?_
      cases ed : anB (hdP Y j) (nv Y 246 58)
      · have o : bpB Y j = true := by unfold bpB; rw [eh, ed]; rfl
        have : bpI Y = nI j := fstB_yes (Nat.zero_le j) (by omega) o (fun h _ h2 => z h h2)
        rw [this] at k
        exact x0 k
      · exact x1 (next (by unfold bpB; rw [eh, ed]; rfl))
