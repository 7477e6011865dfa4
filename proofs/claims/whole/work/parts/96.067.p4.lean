/-! CALLS: who comes soonest. -/
def arT (Y : Nat → Nat → Int32) (j c : Nat) : Int32 := cmr Y (nv Y 287 j) c (nv Y 246 1) (slN Y j)
def shP (Y : Nat → Nat → Int32) (j o : Nat) : Bool := decide (o ≠ j ∧ Y 286 o = nI 0 ∧ Y 287 o = Y 287 j)
def shB (Y : Nat → Nat → Int32) (j : Nat) : Bool := decide (0 < cn (shP Y j) (nv Y 246 58))
def fitB (Y : Nat → Nat → Int32) (a : Int32) (j : Nat) : Bool := if a = -nI 1 then shB Y j else decide (Y 279 j = a)
def arG (Y : Nat → Nat → Int32) (a : Int32) (c j : Nat) : Int32 := if Y 286 j = nI 0 ∧ fitB Y a j = true then arT Y j c else -nI 1
def mnF (f : Nat → Int32) : Nat → Int32
  | 0 => -nI 1
  | i + 1 => if f i = -nI 1 then mnF f i else if mnF f i = -nI 1 ∨ f i < f (mnF f i).toNatClampNeg then nI i else mnF f i
theorem mnF_d (f : Nat → Int32) : ∀ n, mnF f n = -nI 1 ∨ ∃ j, j < n ∧ mnF f n = nI j ∧ ¬ f j = -nI 1
  | 0 => Or.inl rfl
  | n + 1 => by
    show (if f n = -nI 1 then mnF f n else if mnF f n = -nI 1 ∨ f n < f (mnF f n).toNatClampNeg then nI n else mnF f n) = -nI 1 ∨ ∃ j, j < n + 1 ∧ (if f n = -nI 1 then mnF f n else if mnF f n = -nI 1 ∨ f n < f (mnF f n).toNatClampNeg then nI n else mnF f n) = nI j ∧ ¬ f j = -nI 1
    have ih := mnF_d f n
    by_cases q : f n = -nI 1
    · rw [if_pos q]
      rcases ih with e | ⟨j, hj, e, o⟩
      · exact Or.inl e
      · exact Or.inr ⟨j, by omega, e, o⟩
    · rw [if_neg q]
      by_cases q2 : mnF f n = -nI 1 ∨ f n < f (mnF f n).toNatClampNeg
      · rw [if_pos q2]
        exact Or.inr ⟨n, by omega, rfl, q⟩
      · rw [if_neg q2]
        rcases ih with e | ⟨j, hj, e, o⟩
        · exact Or.inl e
        · exact Or.inr ⟨j, by omega, e, o⟩
theorem mnF_cg {f g : Nat → Int32} : ∀ n, (∀ i, i < n → f i = g i) → mnF f n = mnF g n
  | 0, _ => rfl
  | n + 1, h => by
    have ih := mnF_cg n (fun i hi => h i (by omega))
    show (if f n = -nI 1 then mnF f n else if mnF f n = -nI 1 ∨ f n < f (mnF f n).toNatClampNeg then nI n else mnF f n) = (if g n = -nI 1 then mnF g n else if mnF g n = -nI 1 ∨ g n < g (mnF g n).toNatClampNeg then nI n else mnF g n)
    rw [ih, h n (by omega)]
    rcases mnF_d g n with e | ⟨j, hj, e, -⟩
    · simp only [e, true_or]
    · by_cases u : j < 2147483648
      · rw [e, cl_nI u, h j (by omega)]
      · have u2 : (nI j).toNatClampNeg < n + 1 ∨ True := Or.inr trivial
        by_cases u3 : (nI j).toNatClampNeg < n + 1
        · rw [e, h _ u3]
        · exfalso
          apply u3
          have : (nI j).toNatClampNeg ≤ j := by
            by_cases q : nI j < 0
            · have : (nI j).toInt < 0 := by rw [Int32.lt_iff_toInt_lt] at q; exact q
              show (nI j).toInt.toNat ≤ j
              omega
            · show (nI j).toInt.toNat ≤ j
              obtain ⟨v, hv, ev⟩ := nI_of q
              rw [ev, nI_toInt hv]
              have e2 := congrArg (fun a : Int32 => a.toBitVec.toNat) ev
              have e3 : (BitVec.ofNat 32 j).toNat = (BitVec.ofNat 32 v).toNat := e2
              rw [BitVec.toNat_ofNat, BitVec.toNat_ofNat, Nat.mod_eq_of_lt (by omega : v < 2 ^ 32)] at e3
              have := Nat.mod_le j (2 ^ 32)
              omega
          omega
theorem c_soon {x : ab_X} {n : Nat} (hn : n ≤ 16) (e3 : x.1 66 3 = nI n) {f : Nat → Int32} (ef : ∀ i, i < n → x.1 80 i = f i) {K : Int32 → Prop} (k : K (mnF f n)) : wX0_soonest x K := by
  unfold wX0_soonest
  refine Lp2.seq n (mnF f) nI rfl rfl ?_ ?_
  · intro i hi L hL
    have hL : L (if f i = -nI 1 then mnF f i else if mnF f i = -nI 1 ∨ f i < f (mnF f i).toNatClampNeg then nI i else mnF f i) (nI (i + 1)) := hL
    unfold lX0_soonest_4 wX0_soonest_42
    have e2 : nI i + 1 = nI (i + 1) := nI_add i 1
    rw [e3, q_le (by omega) (by omega), cl_nI (by omega), ef i hi, e2]
    refine ⟨fun u => absurd u (by omega), fun _ => ⟨(vpi (by omega) (by decide)).mpr trivial, fun q => ?_, fun q => ⟨fun q2 => ?_, fun q2 => ?_⟩⟩⟩
    · have q : f i = -nI 1 := q
      rw [if_pos q] at hL; exact hL
    · have q : ¬ f i = -nI 1 := q
      have q2 : mnF f i = -nI 1 := q2
      rw [if_neg q, if_pos (Or.inl q2)] at hL; exact hL
    · have q : ¬ f i = -nI 1 := q
      rw [if_neg q] at hL
      rcases mnF_d f i with e | ⟨j, hj, e, -⟩
      · exact absurd e q2
      · rw [e] at hL ⊢
        rw [cl_nI (by omega)] at hL ⊢
        rw [ef j (by omega)]
        refine ⟨(vpi (by omega) (by decide)).mpr trivial, (vpi (by omega) (by decide)).mpr trivial, fun q3 => ?_, fun q3 => ?_⟩
        · rw [if_neg (fun u => u.elim (n1_eq' (by omega)).mp (fun u => absurd q3 (Int32.not_le.mpr u)))] at hL
          exact hL
        · rw [if_pos (Or.inr (Int32.not_le.mp q3))] at hL
          exact hL
  · intro L
    unfold lX0_soonest_4
    rw [e3, q_le (by omega) (by omega)]
    exact ⟨fun _ => k, fun u => absurd (Nat.le_refl _) u⟩
theorem ar_i {x : ab_X} {Y : Nat → Nat → Int32} {D : Nat → UInt64} (r : RR x.1 Y D) (w : WW Y) {j c : Nat} (hj : j < nv Y 246 58) (hc : c < 20) {K : Int32 → ab_X → Prop} (k : ∀ y : ab_X, (∀ d, d ≠ 8 → y.1 d = x.1 d) → y.2 = x.2 → K (arT Y j c) y) : wX0_arrivalOf (82 + j) (nI c) x K := by
  have b1 := w.b1
  obtain ⟨v0, v1, v2, v3, v3', v4, v5, v6, v7, v8, v9, v10, -⟩ := w.cr.1 j hj
  obtain ⟨r0, r1, r2, r3, r4, r5, r6, r7, r8, r9, -⟩ := r.cr.1 j hj
  have u9 := v9.2
  obtain ⟨sl1, sl2⟩ := sl_b w hj
  unfold wX0_arrivalOf
  refine c_slow r w hj ?_
  rw [r9, v9.1, r.s1, w.v1]
  exact c_arr r w (by omega) hc (by omega) sl1 sl2 (fun y hy1 hy2 => k y hy1 hy2)
theorem c_findArr {x : ab_X} {Y : Nat → Nat → Int32} {D : Nat → UInt64} (r : RR x.1 Y D) (w : WW Y) {a : Int32} {c : Nat} (ha : ¬ a = -nI 1) (hc : c < 20) {K : ab_X → Prop} (k : ∀ y : ab_X, (∀ d, d ≠ 8 → d ≠ 80 → y.1 d = x.1 d) → y.2 = x.2 → (∀ i, i < nv Y 246 58 → y.1 80 i = arG Y a c i) → K y) : wX0_findArrivals (nI c) a x K := by
  have bn := w.b58
  unfold wX0_findArrivals
  refine Lp2.ind (fun ii b y => ∃ i, i ≤ nv Y 246 58 ∧ ii = nv Y 246 58 - i ∧ b = nI i ∧ (∀ d, d ≠ 8 → d ≠ 80 → y.1 d = x.1 d) ∧ y.2 = x.2 ∧ ∀ j, j < i → y.1 80 j = arG Y a c j) (nv Y 246 58) ⟨0, Nat.zero_le _, rfl, rfl, fun _ _ _ => rfl, rfl, fun j hj => absurd hj (Nat.not_lt_zero j)⟩ ?_
  rintro ii b y ⟨i, hi, hii, rfl, e1, e2', e3'⟩ L hL
  have kc : keepC x.1 y.1 := ⟨fun d q => e1 d (by unfold kC at q; omega) (by unfold kC at q; omega), by rw [e1 158 (by decide) (by decide)], fun d f p q => by rw [e1 _ (by omega) (by omega)]⟩
  have ry : RR y.1 Y D := RR_keep w r kc keepM.rfl' (fun _ _ => rfl)
  unfold lX0_findArrivals_2 wX0_findArrivals_39 wX0_findArrivals_40
  have e2 : nI i + 1 = nI (i + 1) := nI_add i 1
  rw [ry.s58, w.v58, q_le (by omega) (by omega), e2]
  refine ⟨fun q => k y e1 e2' (fun j hj => e3' j (by omega)), fun q => ?_⟩
  have hi' : i < nv Y 246 58 := by omega
  have vi : vp_in (nI i) 16 := (vpi (by omega) (by decide)).mpr trivial
  obtain ⟨r0, r1, r2, r3, r4, r5, r6, r7, r8, r9, -⟩ := ry.cr.1 i hi'
  rw [cl_nI (by omega), r8, r0]
  have none_ : arG Y a c i = -nI 1 → L (nI (i + 1)) (wr y 80 i (-1)) := by
    intro e
    refine hL _ _ _ (by omega) ⟨i + 1, by omega, rfl, rfl, fun d p q => by rw [wr_n q]; exact e1 d p q, e2', fun j hj => ?_⟩
    by_cases ej : j = i
    · rw [ej, wr_e, e]; rfl
    · rw [wr_k ej]; exact e3' j (by omega)
  refine ⟨vi, fun q1 => y0 ⟨vi, none_ ?_⟩, fun q1 => ⟨vi, fun q2 => y0 ⟨vi, none_ ?_⟩, fun q2 => y1 ⟨vi, ?_⟩⟩⟩
  · unfold arG; rw [if_neg (fun u => q1 u.1)]
  · unfold arG fitB; rw [if_neg ha, if_neg (fun u => q2 (of_decide_eq_true u.2))]
  · refine ar_i ry w hi' hc (fun z z1 z2 => ⟨vi, hL _ _ _ (by omega) ⟨i + 1, by omega, rfl, rfl, fun d p q => by rw [wr_n q, z1 d p]; exact e1 d p q, z2.trans e2', fun j hj => ?_⟩⟩)
    by_cases ej : j = i
    · rw [ej, wr_e]
      unfold arG fitB
      rw [if_neg ha, if_pos ⟨q1, decide_eq_true q2⟩]
    · rw [wr_k ej, z1 80 (by decide)]; exact e3' j (by omega)
theorem shP_t {Y : Nat → Nat → Int32} {j o : Nat} : shP Y j o = true ↔ (o ≠ j ∧ Y 286 o = nI 0 ∧ Y 287 o = Y 287 j) := by unfold shP; rw [decide_eq_true_eq]
theorem c_isSpare {x : ab_X} {Y : Nat → Nat → Int32} {D : Nat → UInt64} (r : RR x.1 Y D) (w : WW Y) {j : Nat} (hj : j < nv Y 246 58) {K : Int32 → Prop} (k : K (bb (decide (Y 286 j = nI 0) && shB Y j))) : wX0_isSpare (nI j) x K := by
  have bn := w.b58
  obtain ⟨r0, r1, r2, r3, r4, r5, r6, r7, r8, r9, -⟩ := r.cr.1 j hj
  unfold wX0_isSpare
  rw [cl_nI (by omega), r8]
  refine ⟨(vpi (by omega) (by decide)).mpr trivial, fun q => ?_, fun q => by have q : ¬ Y 286 j = nI 0 := q; rw [decide_eq_false q] at k; exact k⟩
  · have q : Y 286 j = nI 0 := q
    rw [decide_eq_true q, Bool.true_and] at k
    refine Lp1.ind (fun ii b => ∃ i, i ≤ nv Y 246 58 ∧ ii = nv Y 246 58 - i ∧ b = nI i ∧ ∀ o, o < i → shP Y j o = false) (nv Y 246 58) ⟨0, Nat.zero_le _, rfl, rfl, fun o ho => absurd ho (Nat.not_lt_zero o)⟩ ?_
    rintro ii b ⟨i, hi, hii, rfl, z⟩ L hL
    unfold lX0_isSpare_16
    have e2 : nI i + 1 = nI (i + 1) := nI_add i 1
    rw [r.s58, w.v58, q_le (by omega) (by omega), q_eq (by omega) (by omega), e2]
    have next : shP Y j i = false → ¬ nv Y 246 58 ≤ i → L (nI (i + 1)) := fun e0 e1 => hL _ _ (by omega) ⟨i + 1, by omega, rfl, rfl, fun o ho => by
      by_cases e : o = i
      · rw [e]; exact e0
      · exact z o (by omega)⟩
    refine ⟨fun q1 => ?_, fun q1 => ⟨fun q2 => next ?_ q1, fun q2 => ?_⟩⟩
    · have : shB Y j = false := by
        unfold shB
        rw [cn_0 (fun o ho => z o (by omega))]; rfl
      rw [this] at k; exact k
    · cases e : shP Y j i
      · rfl
      · exact absurd q2 (shP_t.mp e).1
    · obtain ⟨p0, p1, p2, p3, p4, p5, p6, p7, p8, p9, -⟩ := r.cr.1 i (by omega)
      have vi : vp_in (nI i) 16 := (vpi (by omega) (by decide)).mpr trivial
      have vj : vp_in (nI j) 16 := (vpi (by omega) (by decide)).mpr trivial
      rw [cl_nI (by omega), cl_nI (by omega), p8, p9, r9]
      refine ⟨vi, fun q3 => next ?_ q1, fun q3 => ⟨vi, vj, fun q4 => next ?_ q1, fun q4 => ?_⟩⟩
      · cases e : shP Y j i
        · rfl
        · exact absurd (shP_t.mp e).2.1 q3
      · cases e : shP Y j i
        · rfl
        · exact absurd (shP_t.mp e).2.2 q4
      · have : shB Y j = true := by
          unfold shB
          exact decide_eq_true (cn_pos.mpr ⟨i, by omega, shP_t.mpr ⟨q2, q3, q4⟩⟩)
        rw [this] at k; exact k
theorem m_isShared {x : ab_X} {Y : Nat → Nat → Int32} (m : keepM Y x.1) (w : WW Y) {j : Nat} (hj : j < nv Y 246 58) {K : Int32 → Prop} (k : K (bb (shB Y j))) : wX12_isShared (nI j) x K := by
  have bn := w.b58
  unfold wX12_isShared
  refine Lp1.ind (fun ii b => ∃ i, i ≤ nv Y 246 58 ∧ ii = nv Y 246 58 - i ∧ b = nI i ∧ ∀ o, o < i → shP Y j o = false) (nv Y 246 58) ⟨0, Nat.zero_le _, rfl, rfl, fun o ho => absurd ho (Nat.not_lt_zero o)⟩ ?_
  rintro ii b ⟨i, hi, hii, rfl, z⟩ L hL
  unfold lX12_isShared_2
  have e2 : nI i + 1 = nI (i + 1) := nI_add i 1
  rw [m.s58, w.v58, q_le (by omega) (by omega), q_eq (by omega) (by omega), e2]
  have next : shP Y j i = false → ¬ nv Y 246 58 ≤ i → L (nI (i + 1)) := fun e0 e1 => hL _ _ (by omega) ⟨i + 1, by omega, rfl, rfl, fun o ho => by
    by_cases e : o = i
    · rw [e]; exact e0
    · exact z o (by omega)⟩
  refine ⟨fun q1 => ?_, fun q1 => ⟨fun q2 => next ?_ q1, fun q2 => ?_⟩⟩
  · have : shB Y j = false := by
      unfold shB
      rw [cn_0 (fun o ho => z o (by omega))]; rfl
    rw [this] at k; exact k
  · cases e : shP Y j i
    · rfl
    · exact absurd q2 (shP_t.mp e).1
  · have vi : vp_in (nI i) 16 := (vpi (by omega) (by decide)).mpr trivial
    have vj : vp_in (nI j) 16 := (vpi (by omega) (by decide)).mpr trivial
    rw [cl_nI (by omega), cl_nI (by omega), m.c286, m.c287]
    refine ⟨vi, fun q3 => next ?_ q1, fun q3 => ⟨vi, vj, fun q4 => next ?_ q1, fun q4 => ?_⟩⟩
    · cases e : shP Y j i
      · rfl
      · exact absurd (shP_t.mp e).2.1 q3
    · cases e : shP Y j i
      · rfl
      · exact absurd (shP_t.mp e).2.2 q4
    · have : shB Y j = true := by
        unfold shB
        exact decide_eq_true (cn_pos.mpr ⟨i, by omega, shP_t.mpr ⟨q2, q3, q4⟩⟩)
      rw [this] at k; exact k
