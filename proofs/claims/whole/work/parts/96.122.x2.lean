/-! ROUNDS: the class finds the order. -/
theorem y1' {A C : Prop} (h : C) : ((nI 1 = nI 0 → A) ∧ (¬ nI 1 = nI 0 → C)) := ⟨fun u => absurd u (by decide), fun _ => h⟩
theorem y0' {A C : Prop} (h : A) : ((nI 0 = nI 0 → A) ∧ (¬ nI 0 = nI 0 → C)) := ⟨fun _ => h, fun u => absurd rfl u⟩
def FOx (Y : Nat → Nat → Int32) (base : Nat) (C : List Nat) (g : Nat → Nat) (W M : Nat) (x : ab_X) : Prop := CS base C g x ∧ wsT C g x ∧ stT Y base C x ∧ rsT Y base C (2 ^ C.length) x ∧ x.1 234 10 = nI W ∧ x.1 234 11 = nI M
/-- a best round goes on so -/
def fea (Y : Nat → Nat → Int32) (base : Nat) (C : List Nat) (g : Nat → Nat) (W M : Nat) (O : List Nat) (j : Nat) : Prop := ∃ t, vL C.length (O ++ j :: t) ∧ smL (gSt C g) (O ++ j :: t) = W ∧ tSt Y base C (O ++ j :: t) = M
theorem vL_stL {n s : Nat} {O l : List Nat} (hO : vL n O) (hs : s < 2 ^ n) (st : stL s l) (hd : s &&& mkL O = 0) : vL n (O ++ l) ∧ stL (s ||| mkL O) (O ++ l) := by
  have dj : ∀ i, i ∈ O → ¬ i ∈ l := by
    intro i h1 h2
    have e : (s &&& mkL O).testBit i = true := by rw [Nat.testBit_and, (st.2 i).mp h2, mkL_bit, decide_eq_true h1]; rfl
    rw [hd, Nat.zero_testBit] at e
    cases e
  have nd : (O ++ l).Nodup := List.nodup_append.mpr ⟨hO.1, st.1, fun a ha b hb e => dj a ha (e ▸ hb)⟩
  refine ⟨⟨nd, fun i q => ?_⟩, nd, fun i => ?_⟩
  · rcases List.mem_append.mp q with q | q
    · exact hO.2 i q
    · exact bit_lt hs ((st.2 i).mp q)
  · rw [List.mem_append, Nat.testBit_or, mkL_bit, st.2 i]
    simp [or_comm]
theorem stL_app {O l : List Nat} (h : (O ++ l).Nodup) : stL (mkL l ||| mkL O) (O ++ l) ∧ mkL l &&& mkL O = 0 := by
  have h' := List.nodup_append.mp h
  refine ⟨⟨h, fun i => ?_⟩, Nat.eq_of_testBit_eq (fun i => ?_)⟩
  · rw [List.mem_append, Nat.testBit_or, mkL_bit, mkL_bit]
    simp [or_comm]
  · rw [Nat.testBit_and, mkL_bit, mkL_bit, Nat.zero_testBit]
    by_cases q : i ∈ l
    · by_cases q2 : i ∈ O
      · exact absurd rfl (h'.2.2 i q2 i q)
      · rw [decide_eq_false q2, Bool.and_false]
    · rw [decide_eq_false q, Bool.false_and]
theorem c_isBest {Y : Nat → Nat → Int32} (w : WW Y) {x : ab_X} {base : Nat} {C : List Nat} {g : Nat → Nat} {within W M : Nat} (hb : base < 20) (hw : within ≤ 500) (hg : ∀ h, g h ≤ 1000) (hC : C.length ≤ 8) (hm : ∀ i, i ∈ C → i < nv Y 246 31) (hx : FOx Y base C g W M x) (ho : OptV Y base C g within W M) {O : List Nat} {a used j : Nat} (hO : vL C.length O) (ha : a < C.length ∨ a = 8) (hu : used ≤ 500) (hp : ∀ q, tSt Y base C (O ++ q) = used + tmL (wkF Y) (coF Y C) base (caF Y base C a) q) (hj : j < C.length) {K : Int32 → Prop} (k1 : fea Y base C g W M O j → K (nI 1)) (k0 : ¬ fea Y base C g W M O j → K (nI 0)) : wX7_isBestWith (nI (mkL O)) (nI a) (nI used) (nI j) x K := by
  obtain ⟨h1, h2, h3, h4, h5, h6⟩ := hx
  obtain ⟨o1, o2, o3, o4⟩ := ho
  have p2 := p2_le hC
  have mO := mkL_lt O hO.2
  have a20 : caF Y base C a < 20 := by
    unfold caF
    split
    · exact hb
    · exact crF_20 w (hm _ (gD_m (by omega)))
  have wb : wkF Y (caF Y base C a) (coF Y C j) ≤ 1000000 := wkF_le w a20 (crF_20 w (hm _ (gD_m hj)))
  unfold wX7_isBestWith
  refine Lp1.ind (fun ii v => ∃ s, s ≤ 2 ^ C.length ∧ ii = 2 ^ C.length - s ∧ v = nI s ∧ ∀ t, vL C.length (O ++ j :: t) → smL (gSt C g) (O ++ j :: t) = W → tSt Y base C (O ++ j :: t) = M → s ≤ mkL (j :: t)) (2 ^ C.length) ⟨0, Nat.zero_le _, rfl, rfl, fun t _ _ _ => Nat.zero_le _⟩ ?_
  rintro ii v ⟨s, hs, hii, rfl, y1⟩ L hL
  unfold lX7_isBestWith_3
  simp only [nI_lit]
  rw [h1.1, bI_one (by omega), q_le (by omega) (by omega)]
  refine ⟨fun u => k0 ?_, fun u => ?_⟩
  · rintro ⟨t, v1, v2, v3⟩
    have := y1 t v1 v2 v3
    have lt := mkL_lt (n := C.length) (j :: t) (fun i q => v1.2 i (List.mem_append_right _ q))
    omega
  have hs2 : s < 2 ^ C.length := by omega
  have nx : (∀ t, vL C.length (O ++ j :: t) → smL (gSt C g) (O ++ j :: t) = W → tSt Y base C (O ++ j :: t) = M → mkL (j :: t) = s → False) → L (nI s + nI 1) := by
    intro no
    rw [nI_add]
    refine hL _ _ (by omega) ⟨s + 1, by omega, rfl, rfl, fun t v1 v2 v3 => ?_⟩
    have := y1 t v1 v2 v3
    rcases Nat.lt_or_ge s (mkL (j :: t)) with u5 | u5
    · exact u5
    · exact (no t v1 v2 v3 (by omega)).elim
  have no36 : (∀ t, vL C.length (O ++ j :: t) → smL (gSt C g) (O ++ j :: t) = W → tSt Y base C (O ++ j :: t) = M → mkL (j :: t) = s → False) → wX7_isBestWith_36 (nI (mkL O)) (nI a) (nI used) (nI j) (nI s) x K L := by
    intro no
    unfold wX7_isBestWith_36 wX7_isBestWith_37
    exact y0 (nx no)
  rw [bI_and, bI_bit (by omega), q_eq (Nat.lt_of_le_of_lt Nat.and_le_left (by omega)) (by omega)]
  refine ⟨fun u2 => no36 (fun t v1 v2 v3 e => ?_), fun u2 => ?_⟩
  · have := (stL_app v1.1).2
    rw [e] at this
    exact u2 this
  cases q : s.testBit j
  · refine ⟨fun _ => no36 (fun t v1 v2 v3 e => ?_), fun u3 => absurd u3 (by decide)⟩
    have := mkL_bit (j :: t) j
    rw [e, q, decide_eq_true (List.mem_cons_self ..)] at this
    cases this
  refine ⟨fun u3 => absurd rfl u3, fun _ => ?_⟩
  unfold wX7_isBestWith_37
  simp only [nI_lit]
  have lto : s ||| mkL O < 2 ^ C.length := Nat.or_lt_two_pow hs2 mO
  rw [bI_or, cl_nI (by omega)]
  refine y1' ?_
  have ews : x.1 237 (s ||| mkL O) = nI (sBn (fun i => (s ||| mkL O).testBit i) (gSt C g) C.length) := h2 _ lto
  have bws := sBn_8 (P := fun i => (s ||| mkL O).testBit i) hg hC
  refine ⟨(vpi (by omega) (by decide)).mpr trivial, ?_⟩
  rw [ews, h5, q_eq (by omega) (by omega)]
  refine ⟨fun u3 => nx (fun t v1 v2 v3 e => ?_), fun u3 => ?_⟩
  · have st := (stL_app v1.1).1
    rw [e] at st
    have := stL_sm (g := gSt C g) st lto
    omega
  refine c_through hC h3 h4 hs2 (Nat.lt_trans (xr_lt s (by omega) j (by omega) q) hs2) hj ha q (fun v' rv => ?_)
  obtain ⟨r1, r2, r3⟩ := rv
  have att : v' < 1000000 → ∃ l, vL C.length (O ++ j :: l) ∧ smL (gSt C g) (O ++ j :: l) = W ∧ tSt Y base C (O ++ j :: l) = used + (wkF Y (caF Y base C a) (coF Y C j) + 10 + v') := by
    intro lt
    obtain ⟨l, hl, el⟩ := r3 lt
    have st := (stL_cons q).mpr hl
    have vv := vL_stL hO hs2 st u2
    refine ⟨l, vv.1, ?_, ?_⟩
    · rw [stL_sm (g := gSt C g) vv.2 lto]; exact u3
    · rw [hp]
      show used + (wkF Y (caF Y base C a) (coF Y C j) + 10 + tmL (wkF Y) (coF Y C) base (coF Y C j) l) = _
      rw [el]
  clear r3
  rw [h6, nI_add, q_eq (by omega) (by omega)]
  refine ⟨fun u4 => nx (fun t v1 v2 v3 e => ?_), fun u4 => k1 ?_⟩
  · have st : stL s (j :: t) := by
      have := stL_mk (List.nodup_append.mp v1.1).2.1
      rw [e] at this
      exact this
    have low := r2 t ((stL_cons q).mp st)
    rw [hp] at v3
    have v3' : used + (wkF Y (caF Y base C a) (coF Y C j) + 10 + tmL (wkF Y) (coF Y C) base (coF Y C j) t) = M := v3
    have lt6 : v' < 1000000 := by omega
    obtain ⟨l, l1, l2, l3⟩ := att lt6
    clear att
    have := o4 _ l1 (by omega)
    unfold btr at this
    omega
  · have lt6 : v' < 1000000 := by omega
    obtain ⟨l, l1, l2, l3⟩ := att lt6
    exact ⟨l, l1, l2, by rw [l3]; exact u4⟩
theorem c_nextStop {Y : Nat → Nat → Int32} (w : WW Y) {x : ab_X} {base : Nat} {C : List Nat} {g : Nat → Nat} {within W M : Nat} (hb : base < 20) (hw : within ≤ 500) (hg : ∀ h, g h ≤ 1000) (hC : C.length ≤ 8) (hm : ∀ i, i ∈ C → i < nv Y 246 31) (hx : FOx Y base C g W M x) (ho : OptV Y base C g within W M) {O : List Nat} {a used : Nat} (hO : vL C.length O) (ha : a < C.length ∨ a = 8) (hu : used ≤ 500) (hp : ∀ q, tSt Y base C (O ++ q) = used + tmL (wkF Y) (coF Y C) base (caF Y base C a) q) {K : Int32 → Prop} (k1 : ∀ j, fea Y base C g W M O j → (∀ i, i < j → ¬ fea Y base C g W M O i) → K (nI j)) (k0 : (∀ j, ¬ fea Y base C g W M O j) → K (-nI 1)) : wX7_nextStop (nI (mkL O)) (nI a) (nI used) x K := by
  unfold wX7_nextStop
  refine Lp1.ind (fun ii v => ∃ j, j ≤ C.length ∧ ii = C.length - j ∧ v = nI j ∧ ∀ i, i < j → ¬ fea Y base C g W M O i) C.length ⟨0, Nat.zero_le _, rfl, rfl, fun i q => absurd q (Nat.not_lt_zero i)⟩ ?_
  rintro ii v ⟨j, hj, hii, rfl, nf⟩ L hL
  unfold lX7_nextStop_3
  simp only [nI_lit]
  rw [hx.1.1, q_le (by omega) (by omega)]
  refine ⟨fun u => k0 (fun i fi => ?_), fun u => ?_⟩
  · obtain ⟨t, v1, v2, v3⟩ := id fi
    have := v1.2 i (List.mem_append_right _ (List.mem_cons_self ..))
    exact nf i (by omega) fi
  have hj2 : j < C.length := by omega
  have nx : ¬ fea Y base C g W M O j → L (nI j + nI 1) := by
    intro no
    rw [nI_add]
    refine hL _ _ (by omega) ⟨j + 1, by omega, rfl, rfl, fun i hi => ?_⟩
    by_cases e : i = j
    · rw [e]; exact no
    · exact nf i (by omega)
  rw [bI_bit (by omega), mkL_bit]
  by_cases q : j ∈ O
  · rw [decide_eq_true q]
    refine ⟨fun _ => nx ?_, fun u2 => absurd u2 (by decide)⟩
    rintro ⟨t, v1, v2, v3⟩
    exact (List.nodup_append.mp v1.1).2.2 j q j (List.mem_cons_self ..) rfl
  · rw [decide_eq_false q]
    refine ⟨fun u2 => absurd rfl u2, fun _ => ?_⟩
    exact c_isBest w hb hw hg hC hm hx ho hO ha hu hp hj2 (fun f => y1' (k1 j f nf)) (fun f => y0' (nx f))
