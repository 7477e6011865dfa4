/-! ROUNDS: the class's order and answer. -/
theorem tm_ge {w : Nat → Nat → Nat} {c : Nat → Nat} {b : Nat} (hb : b < 20) (tri : ∀ a d e, a < 20 → d < 20 → e < 20 → w a e ≤ w a d + w d e) : ∀ L a, a < 20 → (∀ i, i ∈ L → c i < 20) → w a b ≤ tmL w c b a L
  | [], _, _, _ => Nat.le_refl _
  | i :: L, a, ha, hc => by
    have ci := hc i (List.mem_cons_self ..)
    have ih := tm_ge hb tri L (c i) ci (fun j q => hc j (List.mem_cons_of_mem _ q))
    have := tri a (c i) b ha ci hb
    show w a b ≤ w a (c i) + 10 + tmL w c b (c i) L
    omega
theorem mkL_snoc {O : List Nat} {j : Nat} : mkL O ||| 2 ^ j = mkL (O ++ [j]) := Nat.eq_of_testBit_eq (fun i => by
  rw [Nat.testBit_or, mkL_bit, mkL_bit, Nat.testBit_two_pow]
  by_cases q : i ∈ O
  · rw [decide_eq_true q, decide_eq_true (List.mem_append_left _ q)]; rfl
  · by_cases e : j = i
    · rw [decide_eq_false q, decide_eq_true e, decide_eq_true (List.mem_append_right _ (by rw [e]; exact List.mem_cons_self ..))]; rfl
    · rw [decide_eq_false q, decide_eq_false e, decide_eq_false (fun u => (List.mem_append.mp u).elim q (fun u2 => e (List.mem_singleton.mp u2).symm))]; rfl)
theorem c_findOrder {Y : Nat → Nat → Int32} (w : WW Y) {x : ab_X} {base : Nat} {C : List Nat} {g : Nat → Nat} {within W M : Nat} (hb : base < 20) (hw : within ≤ 500) (hg : ∀ h, g h ≤ 1000) (hC : C.length ≤ 8) (hm : ∀ i, i ∈ C → i < nv Y 246 31) (hx : FOx Y base C g W M x) (ho : OptV Y base C g within W M) {K : ab_X → Prop} (k : ∀ (z : ab_X) (O : List Nat), (∀ c, c ≠ 234 → c ≠ 240 → z.1 c = x.1 c) → z.2 = x.2 → z.1 234 10 = nI W → z.1 234 11 = nI M → z.1 234 12 = nI O.length → (∀ i, i < O.length → z.1 240 i = nI (C.getD (O.getD i 0) 0)) → smL (gSt C g) O = W → tSt Y base C O = M → BestL (fun L => vL C.length L ∧ tSt Y base C L ≤ within) (smL (gSt C g)) (tSt Y base C) O → K z) : wX7_findOrder x K := by
  obtain ⟨h1, h2, h3, h4, h5, h6⟩ := id hx
  obtain ⟨o1, o2, o3, o4⟩ := id ho
  have co20 : ∀ i, i < C.length → coF Y C i < 20 := fun i hi => crF_20 w (hm _ (gD_m hi))
  unfold wX7_findOrder
  refine Lp5.ind (fun ii v1 v2 v3 v4 y => ∃ O a used, vL C.length O ∧ ii = C.length - O.length ∧ v1 = nI (mkL O) ∧ v2 = nI a ∧ v3 = nI used ∧ v4 = nI O.length ∧ (a < C.length ∨ a = 8) ∧ (∀ q, tSt Y base C (O ++ q) = used + tmL (wkF Y) (coF Y C) base (caF Y base C a) q) ∧ (∃ q, vL C.length (O ++ q) ∧ smL (gSt C g) (O ++ q) = W ∧ tSt Y base C (O ++ q) = M) ∧ (∀ L, vL C.length L → smL (gSt C g) L = W → tSt Y base C L = M → lxL O L) ∧ (∀ c f, c ≠ 240 → c ≠ 234 ∨ f ≠ 12 → y.1 c f = x.1 c f) ∧ y.2 = x.2 ∧ y.1 234 12 = nI O.length ∧ ∀ i, i < O.length → y.1 240 i = nI (C.getD (O.getD i 0) 0)) C.length ⟨[], 8, 0, ⟨List.nodup_nil, fun i q => absurd q List.not_mem_nil⟩, rfl, rfl, rfl, rfl, rfl, Or.inr rfl, fun q => ?_, o1, fun L _ _ _ => trivial, fun c f p q => wr_ne (by omega), rfl, wr_e, fun i q => absurd q (Nat.not_lt_zero i)⟩ ?_
  · show tmL (wkF Y) (coF Y C) base base q = 0 + tmL (wkF Y) (coF Y C) base base q
    omega
  rintro ii v1 v2 v3 v4 y ⟨O, a, used, hO, hii, rfl, rfl, rfl, rfl, ha, hp, hq, hlx, y1, y2, y3, y4⟩ L hL
  have lO := nd_len O hO.1 hO.2
  have a20 : caF Y base C a < 20 := by
    unfold caF
    split
    · exact hb
    · exact co20 a (by omega)
  have hy : FOx Y base C g W M y := ⟨⟨by rw [y1 _ _ (by decide) (by omega)]; exact h1.1, by rw [y1 _ _ (by decide) (by omega)]; exact h1.2.1, fun i hi => by rw [y1 _ _ (by decide) (by omega), y1 _ _ (by decide) (by omega)]; exact h1.2.2 i hi⟩, fun s hs => by rw [y1 _ _ (by decide) (by omega)]; exact h2 s hs, fun a t p q => by rw [y1 _ _ (by decide) (by omega)]; exact h3 a t p q, fun s a p q => by rw [y1 _ _ (by decide) (by omega)]; exact h4 s a p q, by rw [y1 _ _ (by decide) (by omega)]; exact h5, by rw [y1 _ _ (by decide) (by omega)]; exact h6⟩
  have fin : (∃ q, q = [] ∧ vL C.length (O ++ q) ∧ smL (gSt C g) (O ++ q) = W ∧ tSt Y base C (O ++ q) = M) → K y := by
    rintro ⟨q, rfl, q1, q2, q3⟩
    rw [List.append_nil] at q1 q2 q3
    refine k y O (fun c p q => funext (fun f => y1 c f q (Or.inl p))) y2 hy.2.2.2.2.1 hy.2.2.2.2.2 y3 y4 q2 q3 ⟨⟨q1, by omega⟩, fun L hL => ⟨?_, fun e1 e2 => hlx L hL.1 (e1.trans q2) (e2.trans q3)⟩⟩
    rw [q2, q3]
    exact o4 L hL.1 hL.2
  have um : used ≤ M := by
    obtain ⟨q, q1, q2, q3⟩ := hq
    rw [hp] at q3
    omega
  unfold lX7_findOrder_15
  simp only [nI_lit]
  rw [hy.1.1, hy.2.2.2.2.2, y3, q_le (by omega) (by omega), q_le (by omega) (by omega)]
  refine ⟨fun u => fin ?_, fun u => ⟨fun u2 => fin ?_, fun u2 => ?_⟩⟩
  · obtain ⟨q, q1, q2, q3⟩ := hq
    refine ⟨q, ?_, q1, q2, q3⟩
    have := nd_len _ q1.1 q1.2
    rw [List.length_append] at this
    exact List.length_eq_zero_iff.mp (by omega)
  · obtain ⟨q, q1, q2, q3⟩ := hq
    refine ⟨q, ?_, q1, q2, q3⟩
    rw [hp] at q3
    cases q with
    | nil => rfl
    | cons i q =>
      have q3 : used + (wkF Y (caF Y base C a) (coF Y C i) + 10 + tmL (wkF Y) (coF Y C) base (coF Y C i) q) = M := q3
      omega
  refine c_nextStop w hb hw hg hC hm hy ho hO ha (by omega) hp (fun j fj nj => ?_) (fun nf => ?_)
  · obtain ⟨t, t1, t2, t3⟩ := id fj
    have jN := t1.2 j (List.mem_append_right _ (List.mem_cons_self ..))
    have jO : ¬ j ∈ O := fun u3 => (List.nodup_append.mp t1.1).2.2 j u3 j (List.mem_cons_self ..) rfl
    have vO : vL C.length (O ++ [j]) := ⟨List.nodup_append.mpr ⟨hO.1, List.nodup_cons.mpr ⟨List.not_mem_nil, List.nodup_nil⟩, fun p hp q hq e => jO (by rw [List.mem_singleton.mp hq] at e; exact e ▸ hp)⟩, fun i hi => (List.mem_append.mp hi).elim (hO.2 i) (fun u3 => by rw [List.mem_singleton.mp u3]; exact jN)⟩
    have lj := nd_len _ vO.1 vO.2
    have el : (O ++ [j]).length = O.length + 1 := List.length_append
    refine ⟨fun _ => ?_, fun u3 => absurd u3 (by rw [n1_eq' (by omega)]; exact id)⟩
    have p2 := p2_le hC
    have mO := mkL_lt O hO.2
    have cj : Int32.toNatClampNeg (nI j) = j := cl_nI (by omega)
    have cO : Int32.toNatClampNeg (nI O.length) = O.length := cl_nI (by omega)
    rw [cj, cO, pk_mul, nI_add, hy.1.2.2 j jN |>.1]
    have ca8 : Int32.toNatClampNeg (nI (a * 8 + j)) = a * 8 + j := cl_nI (by omega)
    have s12 : (wr y 240 O.length (nI (C.getD j 0))).1 234 12 = nI O.length := by rw [wr_n (by decide), y3]
    have s239 : (wr (wr y 240 O.length (nI (C.getD j 0))) 234 12 (nI (O.length + 1))).1 239 (a * 8 + j) = nI (wkF Y (caF Y base C a) (coF Y C j) + 10) := by rw [wr_n (by decide), wr_n (by decide)]; exact hy.2.2.1 a j jN ha
    rw [ca8, s12, nI_add, s239, nI_add, bI_one (by omega), bI_or, mkL_snoc]
    refine ⟨(vpi (by omega) (by decide)).mpr trivial, (vpi (by omega) (by decide)).mpr trivial, (vpi (by omega) (by decide)).mpr trivial, ?_⟩
    have cja : caF Y base C j = coF Y C j := by unfold caF coF; rw [if_neg (by omega)]
    refine hL _ _ _ _ _ _ (by omega) ⟨O ++ [j], j, used + (wkF Y (caF Y base C a) (coF Y C j) + 10), vO, rfl, rfl, rfl, rfl, by rw [el], Or.inl jN, fun q => ?_, ⟨t, by rw [List.append_assoc]; exact ⟨t1, t2, t3⟩⟩, fun l l1 l2 l3 => ?_, fun c f p q => by rw [wr_ne (by omega), wr_n p, y1 c f p q], y2, by rw [wr_e, el], fun i hi => ?_⟩
    · rw [List.append_assoc, hp, cja]
      show used + (wkF Y (caF Y base C a) (coF Y C j) + 10 + tmL (wkF Y) (coF Y C) base (coF Y C j) q) = _
      omega
    · rcases lxL_pre O l (hlx l l1 l2 l3) with ⟨q, rfl⟩ | h9
      · cases q with
        | nil =>
          exfalso
          rw [hp] at l3 t3
          have l3 : used + wkF Y (caF Y base C a) base = M := l3
          have t3 : used + (wkF Y (caF Y base C a) (coF Y C j) + 10 + tmL (wkF Y) (coF Y C) base (coF Y C j) t) = M := t3
          have tri := w.wk.2.2.2
          have g1 := tm_ge (w := wkF Y) (c := coF Y C) hb (fun a d e h1 h2 h3 => tri a d e h1 h2 h3) t (coF Y C j) (co20 j jN) (fun i hi => co20 i (t1.2 i (List.mem_append_right _ (List.mem_cons_of_mem _ hi))))
          have g2 : wkF Y (caF Y base C a) base ≤ wkF Y (caF Y base C a) (coF Y C j) + wkF Y (coF Y C j) base := tri _ _ _ a20 (co20 j jN) hb
          omega
        | cons i q =>
          refine lxL_app O [j] (i :: q) ?_
          show j < i ∨ (j = i ∧ True)
          rcases Nat.lt_or_ge i j with u4 | u4
          · exact absurd ⟨q, l1, l2, l3⟩ (nj i u4)
          · rcases Nat.lt_or_ge j i with u5 | u5
            · exact Or.inl u5
            · exact Or.inr ⟨by omega, trivial⟩
      · exact h9 [j]
    · rw [el] at hi
      rw [wr_n (by decide)]
      by_cases e : i = O.length
      · rw [e, wr_e, gD_r]
      · rw [wr_k e, gD_l (by omega)]
        exact y4 i (by omega)
  · refine ⟨fun u3 => absurd rfl u3, fun _ => fin ?_⟩
    obtain ⟨q, q1, q2, q3⟩ := hq
    refine ⟨q, ?_, q1, q2, q3⟩
    cases q with
    | nil => rfl
    | cons i q => exact absurd ⟨q, q1, q2, q3⟩ (nf i)
