/-! ROUNDS: the reference's search, from one on. -/
theorem XK_0 {n : Nat} {S : Nat → Bool} {sM : List Nat → Nat} {most : Nat} {p L : List Nat} (h : XK n S sM most p 0 L) : L = p ∧ sM p ≤ most := by
  rcases h with ⟨rfl, h⟩ | ⟨i, q, hi, -⟩
  · exact ⟨rfl, h⟩
  · exact absurd hi (Nat.not_lt_zero i)
theorem m_tNode {Y : Nat → Nat → Int32} (w : WW Y) {n base most : Nat} {g : Nat → Nat} (hn : n = nv Y 246 31) (hb20 : base < 20) (hm : most ≤ 500) (hg : ∀ h, g h ≤ 1000) {p : List Nat} {S : Nat → Bool} {a took : Nat} (ha : a < 20) (ht : took ≤ most) (hl : p.length ≤ 12) (hp1 : ∀ k, k < n → S k = true → p.length < 12) (hp : ∀ q, tmY Y base (p ++ q) = took + tmL (wkF Y) (crF Y) base a q) {R : Int32 → Int32 → Int32 → Int32 → ab_X → (ab_X → Prop) → Prop}
  (hR : ∀ k y bk K', k < n → S k = true → took + (wkF Y a (crF Y k) + 10) ≤ most → TS Y n base most g (p ++ [k]) (rmS S k) bk y → (∀ z b', frT y z → TS Y n base most g (p ++ [k]) (rmS S k) b' z → Pst (smL g) (tmY Y base) (XT n (rmS S k) (tmY Y base) most (p ++ [k])) bk b' → K' z) → R (nI (p.length + 1)) (nI (crF Y k)) (nI (took + (wkF Y a (crF Y k) + 10))) (nI (smL g p + g k)) y K')
  {b : Option (Nat × Nat × List Nat)} {x : ab_X} {K : ab_X → Prop} (h : TS Y n base most g p S b x) (k : ∀ y b', frT x y → TS Y n base most g p S b' y → Pst (smL g) (tmY Y base) (XT n S (tmY Y base) most p) b b' → K y) : bX12_tours R (nI p.length) (nI a) (nI took) (nI (smL g p)) x K := by
  obtain ⟨t1, t2, t3, t4, t5, t6, t7⟩ := id h
  have sl := smL_le hg p
  have ep : tmY Y base p = took + wkF Y a base := by
    have := hp []
    rw [List.append_nil] at this
    exact this
  have wb : wkF Y a base ≤ 1000000 := (w.wk.1 (20 * a + base) (by omega)).2
  unfold bX12_tours
  rw [t2]
  refine m_walk t1 w ha hb20 ?_
  have e3 : nI took + nI (nv Y 251 (20 * a + base)) = nI (tmY Y base p) := by
    rw [ep]
    show nI took + nI (wkF Y a base) = _
    rw [nI_add]
  rw [e3, t3, q_lt (by omega) (by omega)]
  have noU : (∀ L, XK n S (tmY Y base) most p 0 L → ¬ bt2 (smL g L) (tmY Y base L) b) → Lp2 (lX12_tours_106 R (nI p.length) (nI a) (nI took) (nI (smL g p)) K) 0 x := fun q => m_tLoop w hn hm hg ha ht hl hp1 hp hR h (Or.inl ⟨rfl, q⟩) k
  have yesU : tmY Y base p ≤ most → bt2 (smL g p) (tmY Y base p) b → wX12_tours_57 R (nI p.length) (nI a) (nI took) (nI (smL g p)) (nI (tmY Y base p)) x K := by
    intro q1 q2
    unfold wX12_tours_57
    generalize hx0 : wr (wr (wr x 246 108 (nI p.length)) 246 106 (nI (smL g p))) 246 107 (nI (tmY Y base p)) = x0
    have g1 : ∀ c k, ¬ (c = 246 ∧ 106 ≤ k ∧ k ≤ 108) → x0.1 c k = x.1 c k := fun c k q => by rw [← hx0, wr_ne (by omega), wr_ne (by omega), wr_ne (by omega)]
    have g2 : x0.2 = x.2 := by rw [← hx0]; rfl
    have g3 : x0.1 246 106 = nI (smL g p) := by rw [← hx0, wr_k (by decide), wr_e]
    have g4 : x0.1 246 107 = nI (tmY Y base p) := by rw [← hx0, wr_e]
    have g5 : x0.1 246 108 = nI p.length := by rw [← hx0, wr_k (by decide), wr_k (by decide), wr_e]
    refine Lp2.ind (fun ii v y => ∃ i, i ≤ p.length ∧ ii = p.length - i ∧ v = nI i ∧ (∀ c k, c ≠ 326 → y.1 c k = x0.1 c k) ∧ y.2 = x0.2 ∧ ∀ j, j < i → y.1 326 j = nI (p.getD j 0)) p.length ⟨0, Nat.zero_le _, rfl, rfl, fun _ _ _ => rfl, rfl, fun j hj => absurd hj (Nat.not_lt_zero j)⟩ ?_
    rintro ii v y ⟨i, hi, hii, rfl, y1, y2, y3⟩ L hL
    unfold lX12_tours_77
    rw [q_le (by omega) (by omega), cl_nI (by omega)]
    refine ⟨fun u => ?_, fun u => ?_⟩
    · have e : i = p.length := by omega
      subst e
      have fy : frT x y := ⟨fun c k q1 q2 q3 q4 => by rw [y1 c k q2, g1 c k q4], y2.trans g2⟩
      refine m_tLoop w hn hm hg ha ht hl hp1 hp hR (b := b) (b1 := some (smL g p, tmY Y base p, p)) ⟨fy.m t1, ?_, ?_, fun h hh => ?_, fun h hh hs => ?_, fun j hj => ?_, ⟨?_, ?_, ?_, hl, by show smL g p ≤ 12000; omega, by show tmY Y base p ≤ 500; omega, y3⟩⟩ (Or.inr ⟨p, rfl, Or.inl ⟨rfl, q1⟩, q2, fun L q => ?_⟩) (fun z b' fz tz pz => k z b' (fy.tr fz) tz pz)
      · rw [y1 _ _ (by decide), g1 _ _ (by omega), t2]
      · rw [y1 _ _ (by decide), g1 _ _ (by omega), t3]
      · rw [y1 _ _ (by decide), g1 _ _ (by omega), t4 h hh]
      · rw [y1 _ _ (by decide), g1 _ _ (by omega), t5 h hh hs]
      · rw [y1 _ _ (by decide), g1 _ _ (by omega), t6 j hj]
      · rw [y1 _ _ (by decide), g3]
      · rw [y1 _ _ (by decide), g4]
      · rw [y1 _ _ (by decide), g5]
      · obtain ⟨e, -⟩ := XK_0 q
        subst e
        refine ⟨fun u => by unfold btr at u; omega, fun _ _ => ?_⟩
        have := lxL_app L [] [] trivial
        rw [List.append_nil] at this
        exact this
    · have hi2 : i < p.length := by omega
      have e1 : nI i + 1 = nI (i + 1) := nI_add i 1
      have vi : vp_in (nI i) 12 := (vpi (by omega) (by decide)).mpr trivial
      rw [e1]
      refine ⟨vi, vi, hL _ _ _ (by omega) ⟨i + 1, by omega, rfl, rfl, fun c k q => by rw [wr_n q, y1 c k q], y2, fun j hj => ?_⟩⟩
      by_cases e : j = i
      · rw [e, wr_e, y1 _ _ (by decide), g1 _ _ (by omega), t6 i hi2]
      · rw [wr_k e, y3 j (by omega)]
  refine ⟨fun u => noU (fun L q => ?_), fun u => ?_⟩
  · obtain ⟨-, q⟩ := XK_0 q
    omega
  cases b with
  | none =>
    have t7 : x.1 246 108 = -nI 1 := t7
    refine ⟨fun _ => yesU (by omega) trivial, fun v => absurd ?_ v⟩
    rw [t7]; rfl
  | some b =>
    obtain ⟨s1, s2, s3, s4, s5, s6, s7⟩ := t7
    rw [s1, s2, s3]
    refine ⟨fun v => absurd v (by simp only [nI_lit]; rw [n1_eq' (by omega)]; exact id), fun _ => ?_⟩
    rw [q_lt (by omega) (by omega), q_eq (by omega) (by omega), q_le (by omega) (by omega)]
    refine ⟨fun v => yesU (by omega) (Or.inl v), fun v => ⟨fun v2 => noU (fun L q => ?_), fun v2 => ⟨fun v3 => noU (fun L q => ?_), fun v3 => yesU (by omega) (Or.inr ⟨v2, by omega⟩)⟩⟩⟩
    · obtain ⟨rfl, -⟩ := XK_0 q
      show ¬ btr _ _ _ _
      unfold btr
      omega
    · obtain ⟨rfl, -⟩ := XK_0 q
      show ¬ btr _ _ _ _
      unfold btr
      omega
theorem m_tours {Y : Nat → Nat → Int32} (w : WW Y) {n base most : Nat} {g : Nat → Nat} (hn : n = nv Y 246 31) (hb20 : base < 20) (hm : most ≤ 500) (hg : ∀ h, g h ≤ 1000) (t : Nat) : ∀ (p : List Nat) (S : Nat → Bool) (a took : Nat) (b : Option (Nat × Nat × List Nat)) (x : ab_X) (K : ab_X → Prop), cn S n ≤ t → p.length + t ≤ 12 → a < 20 → took ≤ most → (∀ q, tmY Y base (p ++ q) = took + tmL (wkF Y) (crF Y) base a q) → TS Y n base most g p S b x → (∀ y b', frT x y → TS Y n base most g p S b' y → Pst (smL g) (tmY Y base) (XT n S (tmY Y base) most p) b b' → K y) → famX12_tours (t + 1) (nI p.length) (nI a) (nI took) (nI (smL g p)) x K := by
  induction t with
  | zero =>
    intro p S a took b x K hc hl ha ht hp h k
    have z := cn_z n (by omega : cn S n = 0)
    refine m_tNode w hn hb20 hm hg ha ht (by omega) (fun i hi hs => ?_) hp (R := famX12_tours 0) (fun i y bk K' hi hs => ?_) h k
    · rw [z i hi] at hs; cases hs
    · rw [z i hi] at hs; cases hs
  | succ t ih =>
    intro p S a took b x K hc hl ha ht hp h k
    refine m_tNode w hn hb20 hm hg ha ht (by omega) (fun i hi hs => by omega) hp (R := famX12_tours (t + 1)) (fun i y bk K' hi hs hle ty kk => ?_) h k
    have cr := cn_rm hs n
    rw [if_pos hi] at cr
    obtain ⟨v1, -⟩ := w.ho.1 i (by omega)
    have c20 : crF Y i < 20 := by have := v1.2; unfold crF; omega
    have el : (p ++ [i]).length = p.length + 1 := List.length_append
    have es : smL g (p ++ [i]) = smL g p + g i := by rw [smL_app]; rfl
    have := ih (p ++ [i]) (rmS S i) (crF Y i) (took + (wkF Y a (crF Y i) + 10)) bk y K' (by omega) (by omega) c20 hle (fun q => ?_) ty kk
    · rw [el, es] at this
      exact this
    · rw [List.append_assoc, hp]
      show took + (wkF Y a (crF Y i) + 10 + tmL (wkF Y) (crF Y) base (crF Y i) q) = _
      omega
