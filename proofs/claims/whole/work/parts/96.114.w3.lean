/-! ROUNDS: the reference's search. -/
def wkF (Y : Nat → Nat → Int32) (a b : Nat) : Nat := nv Y 251 (20 * a + b)
def crF (Y : Nat → Nat → Int32) (h : Nat) : Nat := nv Y 254 h
def tmY (Y : Nat → Nat → Int32) (base : Nat) (L : List Nat) : Nat := tmL (wkF Y) (crF Y) base base L
def bstS (b : Option (Nat × Nat × List Nat)) (x : ab_X) : Prop :=
  match b with
  | none => x.1 246 108 = -nI 1
  | some b => x.1 246 106 = nI b.1 ∧ x.1 246 107 = nI b.2.1 ∧ x.1 246 108 = nI b.2.2.length ∧ b.2.2.length ≤ 12 ∧ b.1 ≤ 12000 ∧ b.2.1 ≤ 500 ∧ ∀ k, k < b.2.2.length → x.1 326 k = nI (b.2.2.getD k 0)
def TS (Y : Nat → Nat → Int32) (n base most : Nat) (g : Nat → Nat) (p : List Nat) (S : Nat → Bool) (b : Option (Nat × Nat × List Nat)) (x : ab_X) : Prop :=
  keepM Y x.1 ∧ x.1 246 104 = nI base ∧ x.1 246 105 = nI most ∧ (∀ h, h < n → x.1 327 h = bb (S h)) ∧ (∀ h, h < n → S h = true → x.1 324 h = nI (g h)) ∧ (∀ k, k < p.length → x.1 325 k = nI (p.getD k 0)) ∧ bstS b x
def frT (x y : ab_X) : Prop := (∀ c k, c ≠ 325 → c ≠ 326 → c ≠ 327 → ¬ (c = 246 ∧ 106 ≤ k ∧ k ≤ 108) → y.1 c k = x.1 c k) ∧ y.2 = x.2
theorem frT.rfl' {x : ab_X} : frT x x := ⟨fun _ _ _ _ _ _ => rfl, rfl⟩
theorem frT.tr {x y z : ab_X} (h : frT x y) (f : frT y z) : frT x z := ⟨fun c k p q r s => (f.1 c k p q r s).trans (h.1 c k p q r s), f.2.trans h.2⟩
theorem frT.m {Y : Nat → Nat → Int32} {x z : ab_X} (h : frT x z) (m : keepM Y x.1) : keepM Y z.1 := ⟨fun c q => by rw [← m.1 c q]; exact funext (fun k => h.1 c k (by unfold kM at q; omega) (by unfold kM at q; omega) (by unfold kM at q; omega) (by unfold kM at q; omega)), fun f q => by rw [← m.2 f q]; exact h.1 246 f (by omega) (by omega) (by omega) (by unfold kS at q; omega)⟩
theorem smL_le {g : Nat → Nat} (hg : ∀ h, g h ≤ 1000) : ∀ p : List Nat, smL g p ≤ 1000 * p.length
  | [] => Nat.le_refl _
  | i :: p => by
    have := smL_le hg p
    have h2 := hg i
    show g i + smL g p ≤ 1000 * (p.length + 1)
    omega
theorem gD_l {p : List Nat} {k j : Nat} (h : j < p.length) : (p ++ [k]).getD j 0 = p.getD j 0 := by
  rw [List.getD_eq_getElem?_getD, List.getD_eq_getElem?_getD, List.getElem?_append_left h]
theorem gD_r {p : List Nat} {k : Nat} : (p ++ [k]).getD p.length 0 = k := by
  rw [List.getD_eq_getElem?_getD, List.getElem?_append_right (Nat.le_refl _), Nat.sub_self]; rfl
theorem m_tLoop {Y : Nat → Nat → Int32} (w : WW Y) {n base most : Nat} {g : Nat → Nat} (hn : n = nv Y 246 31) (hm : most ≤ 500) (hg : ∀ h, g h ≤ 1000) {p : List Nat} {S : Nat → Bool} {a took : Nat} (ha : a < 20) (ht : took ≤ most) (hl : p.length ≤ 12) (hp1 : ∀ k, k < n → S k = true → p.length < 12) (hp : ∀ q, tmY Y base (p ++ q) = took + tmL (wkF Y) (crF Y) base a q) {R : Int32 → Int32 → Int32 → Int32 → ab_X → (ab_X → Prop) → Prop}
  (hR : ∀ k y bk K', k < n → S k = true → took + (wkF Y a (crF Y k) + 10) ≤ most → TS Y n base most g (p ++ [k]) (rmS S k) bk y → (∀ z b', frT y z → TS Y n base most g (p ++ [k]) (rmS S k) b' z → Pst (smL g) (tmY Y base) (XT n (rmS S k) (tmY Y base) most (p ++ [k])) bk b' → K' z) → R (nI (p.length + 1)) (nI (crF Y k)) (nI (took + (wkF Y a (crF Y k) + 10))) (nI (smL g p + g k)) y K')
  {b b1 : Option (Nat × Nat × List Nat)} {x : ab_X} {K : ab_X → Prop} (h : TS Y n base most g p S b1 x) (hb : Pst (smL g) (tmY Y base) (XK n S (tmY Y base) most p 0) b b1) (k : ∀ y b', frT x y → TS Y n base most g p S b' y → Pst (smL g) (tmY Y base) (XT n S (tmY Y base) most p) b b' → K y) : Lp2 (lX12_tours_106 R (nI p.length) (nI a) (nI took) (nI (smL g p)) K) 0 x := by
  have b31 := w.b31
  have sl := smL_le hg p
  refine Lp2.ind (fun ii v y => ∃ i bk, i ≤ n ∧ ii = n - i ∧ v = nI i ∧ frT x y ∧ TS Y n base most g p S bk y ∧ Pst (smL g) (tmY Y base) (XK n S (tmY Y base) most p i) b bk) n ⟨0, b1, Nat.zero_le _, rfl, rfl, frT.rfl', h, hb⟩ ?_
  rintro ii v y ⟨i, bk, hi, hii, rfl, fy, ty, py⟩ L hL
  obtain ⟨t1, t2, t3, t4, t5, t6, t7⟩ := id ty
  unfold lX12_tours_106
  rw [t1.s31, w.v31, ← hn, q_le (by omega) (by omega), cl_nI (by omega), cl_nI (by omega)]
  refine ⟨fun q => ?_, fun q => ⟨(vpi (by omega) (by decide)).mpr trivial, ?_⟩⟩
  · have e : i = n := by omega
    rw [e] at py
    exact k y bk fy ty (py.mono (fun L => XK_n))
  have hi2 : i < n := by omega
  have e1 : nI i + 1 = nI (i + 1) := nI_add i 1
  have e2 : nI p.length + 1 = nI (p.length + 1) := nI_add _ 1
  rw [t4 i hi2, e1, e2]
  have vi : vp_in (nI i) 12 := (vpi (by omega) (by decide)).mpr trivial
  cases qs : S i
  · refine ⟨fun u => absurd rfl u, fun _ => ?_⟩
    exact hL _ _ _ (by omega) ⟨i + 1, bk, by omega, rfl, rfl, fy, ty, py.mono (XK_f (Or.inl qs))⟩
  · refine ⟨fun _ => ⟨vi, ?_⟩, fun u => absurd u (by decide)⟩
    obtain ⟨v1, -⟩ := w.ho.1 i (by omega)
    have e254 : y.1 254 i = nI (crF Y i) := by rw [t1.c254]; exact v1.1
    have c20 : crF Y i < 20 := by have := v1.2; unfold crF; omega
    rw [e254]
    refine m_walk t1 w ha c20 ?_
    have wb := (w.wk.1 (20 * a + crF Y i) (by omega)).2
    have wb' : wkF Y a (crF Y i) ≤ 1000000 := wb
    have e3 : nI took + nI (nv Y 251 (20 * a + crF Y i)) + 10 = nI (took + (wkF Y a (crF Y i) + 10)) := by
      show nI took + nI (wkF Y a (crF Y i)) + nI 10 = _
      rw [nI_add, nI_add, Nat.add_assoc]
    rw [e3, t3, q_le (by omega) (by omega)]
    refine ⟨fun u => ⟨vi, (vpi (hp1 i hi2 qs) (by decide)).mpr trivial, vi, vi, ?_⟩, fun u => ?_⟩
    · have p12 := hp1 i hi2 qs
      have f1 : (wr (wr y 327 i 0) 325 p.length (nI i)).1 254 i = nI (crF Y i) := by rw [wr_n (by decide), wr_n (by decide), e254]
      have f2 : (wr (wr y 327 i 0) 325 p.length (nI i)).1 324 i = nI (g i) := by rw [wr_n (by decide), wr_n (by decide), t5 i hi2 qs]
      have cl : Int32.toNatClampNeg (nI p.length) = p.length := cl_nI (by omega)
      rw [f1, f2, nI_add]
      have fr1 : frT y (wr (wr y 327 i 0) 325 p.length (nI i)) := ⟨fun c k q1 q2 q3 q4 => by rw [wr_n q1, wr_n q3], rfl⟩
      refine hR i _ bk _ hi2 qs u ⟨fr1.m t1, ?_, ?_, fun h hh => ?_, fun h hh hs => ?_, fun j hj => ?_, ?_⟩ (fun z b' fz tz pz => ⟨vi, ?_⟩)
      · rw [wr_n (by decide), wr_n (by decide), t2]
      · rw [wr_n (by decide), wr_n (by decide), t3]
      · rw [wr_n (by decide)]
        by_cases e : h = i
        · rw [e, wr_e]
          unfold rmS
          simp [bb]
          rfl
        · rw [wr_k e, t4 h hh]
          unfold rmS
          simp [e]
      · rw [wr_n (by decide), wr_n (by decide)]
        refine t5 h hh ?_
        unfold rmS at hs
        simp at hs
        exact hs.1
      · rw [List.length_append] at hj
        have hj : j < p.length + 1 := hj
        by_cases e : j = p.length
        · rw [e, wr_e, gD_r]
        · rw [wr_k e, wr_n (by decide), gD_l (by omega)]
          exact t6 j (by omega)
      · cases bk with
        | none =>
          show (wr (wr y 327 i 0) 325 p.length (nI i)).1 246 108 = _
          rw [wr_n (by decide), wr_n (by decide)]; exact t7
        | some bk =>
          obtain ⟨s1, s2, s3, s4, s5, s6, s7⟩ := t7
          refine ⟨?_, ?_, ?_, s4, s5, s6, fun j hj => ?_⟩
          · rw [wr_n (by decide), wr_n (by decide)]; exact s1
          · rw [wr_n (by decide), wr_n (by decide)]; exact s2
          · rw [wr_n (by decide), wr_n (by decide)]; exact s3
          · rw [wr_n (by decide), wr_n (by decide)]; exact s7 j hj
      · obtain ⟨z1, z2, z3, z4, z5, z6, z7⟩ := tz
        have fz2 : frT y (wr z 327 i 1) := (fr1.tr fz).tr ⟨fun c k q1 q2 q3 q4 => by rw [wr_n q3], rfl⟩
        refine hL _ _ _ (by omega) ⟨i + 1, b', by omega, rfl, rfl, fy.tr fz2, ⟨fz2.m t1, ?_, ?_, fun h hh => ?_, fun h hh hs => ?_, fun j hj => ?_, ?_⟩, (py.tr pz (XK_lx (S' := rmS S i))).mono (XK_s hi2 qs)⟩
        · rw [wr_n (by decide)]; exact z2
        · rw [wr_n (by decide)]; exact z3
        · by_cases e : h = i
          · rw [e, wr_e, qs]; rfl
          · rw [wr_k e, z4 h hh]
            unfold rmS
            simp [e]
        · rw [fz2.1 324 h (by decide) (by decide) (by decide) (by omega)]
          exact t5 h hh hs
        · rw [wr_n (by decide)]
          have := z6 j (by rw [List.length_append]; omega)
          rw [gD_l hj] at this
          exact this
        · cases b' with
          | none =>
            show (wr z 327 i 1).1 246 108 = _
            rw [wr_n (by decide)]; exact z7
          | some bk =>
            obtain ⟨s1, s2, s3, s4, s5, s6, s7⟩ := z7
            refine ⟨?_, ?_, ?_, s4, s5, s6, fun j hj => ?_⟩
            · rw [wr_n (by decide)]; exact s1
            · rw [wr_n (by decide)]; exact s2
            · rw [wr_n (by decide)]; exact s3
            · rw [wr_n (by decide)]; exact s7 j hj
    · refine hL _ _ _ (by omega) ⟨i + 1, bk, by omega, rfl, rfl, fy, ty, py.mono (XK_f (Or.inr (fun q => ?_)))⟩
      rw [hp]
      show most < took + (wkF Y a (crF Y i) + 10 + tmL (wkF Y) (crF Y) base (crF Y i) q)
      omega
