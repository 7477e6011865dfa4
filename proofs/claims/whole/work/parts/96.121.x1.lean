/-! ROUNDS: the class finds the best. -/
def vL (n : Nat) (L : List Nat) : Prop := L.Nodup ∧ ∀ i, i ∈ L → i < n
def tSt (Y : Nat → Nat → Int32) (base : Nat) (C : List Nat) (L : List Nat) : Nat := tmL (wkF Y) (coF Y C) base base L
def gSt (C : List Nat) (g : Nat → Nat) (i : Nat) : Nat := g (C.getD i 0)
def OptV (Y : Nat → Nat → Int32) (base : Nat) (C : List Nat) (g : Nat → Nat) (within W M : Nat) : Prop := (∃ L, vL C.length L ∧ smL (gSt C g) L = W ∧ tSt Y base C L = M) ∧ M ≤ within ∧ W ≤ 8000 ∧ ∀ L, vL C.length L → tSt Y base C L ≤ within → ¬ btr (smL (gSt C g) L) (tSt Y base C L) W M
theorem bit_lt {s n i : Nat} (hs : s < 2 ^ n) (h : s.testBit i = true) : i < n := by
  rcases Nat.lt_or_ge i n with u | u
  · exact u
  · rw [Nat.testBit_lt_two_pow (Nat.lt_of_lt_of_le hs (Nat.pow_le_pow_right (by decide) u))] at h
    cases h
theorem stL_v {s n : Nat} {L : List Nat} (hs : s < 2 ^ n) (h : stL s L) : vL n L := ⟨h.1, fun i q => bit_lt hs ((h.2 i).mp q)⟩
theorem sBn_8 {P : Nat → Bool} {C : List Nat} {g : Nat → Nat} (hg : ∀ h, g h ≤ 1000) (hC : C.length ≤ 8) : sBn P (gSt C g) C.length ≤ 8000 := by
  have := sBn_le (P := P) (g := gSt C g) (m := 1000) (fun i => hg _) C.length
  omega
def OBs (Y : Nat → Nat → Int32) (base : Nat) (C : List Nat) (g : Nat → Nat) (within s W M : Nat) : Prop := (∃ L, vL C.length L ∧ smL (gSt C g) L = W ∧ tSt Y base C L = M) ∧ M ≤ within ∧ W ≤ 8000 ∧ ∀ L, vL C.length L → mkL L < s → tSt Y base C L ≤ within → ¬ btr (smL (gSt C g) L) (tSt Y base C L) W M
theorem c_findBest {Y : Nat → Nat → Int32} (w : WW Y) {x : ab_X} {base : Nat} {C : List Nat} {g : Nat → Nat} {within : Nat} (hb : base < 20) (hw : within ≤ 500) (hg : ∀ h, g h ≤ 1000) (hC : C.length ≤ 8) (hm : ∀ i, i ∈ C → i < nv Y 246 31) (h : CS base C g x) (hws : wsT C g x) (hst : stT Y base C x) (hrs : rsT Y base C (2 ^ C.length) x) {K : ab_X → Prop} (k : ∀ (z : ab_X) (W M : Nat), (∀ c f, c ≠ 234 ∨ (f ≠ 10 ∧ f ≠ 11) → z.1 c f = x.1 c f) → z.2 = x.2 → z.1 234 10 = nI W → z.1 234 11 = nI M → OptV Y base C g within W M → K z) : wX7_findBest (nI within) x K := by
  have p2 := p2_le hC
  have p1 : 1 ≤ 2 ^ C.length := Nat.two_pow_pos _
  have w0 : wkF Y base base = 0 := w.wk.2.1 base hb
  unfold wX7_findBest
  refine Lp2.ind (fun ii v y => ∃ s W M, 1 ≤ s ∧ s ≤ 2 ^ C.length ∧ ii = 2 ^ C.length - s ∧ v = nI s ∧ (∀ c f, c ≠ 234 ∨ (f ≠ 10 ∧ f ≠ 11) → y.1 c f = x.1 c f) ∧ y.2 = x.2 ∧ y.1 234 10 = nI W ∧ y.1 234 11 = nI M ∧ OBs Y base C g within s W M) (2 ^ C.length - 1) ⟨1, 0, 0, Nat.le_refl _, p1, rfl, rfl, fun c f q => by rw [wr_ne (by omega), wr_ne (by omega)], rfl, by rw [wr_k (by decide), wr_e]; rfl, by rw [wr_e]; rfl, ⟨[], ⟨List.nodup_nil, fun i q => absurd q List.not_mem_nil⟩, rfl, w0⟩, by omega, by omega, fun L hL hl _ => ?_⟩ ?_
  · have e : mkL L = 0 := by omega
    have st := stL_mk hL.1
    rw [e] at st
    rw [stL_0 st]
    show ¬ btr 0 (wkF Y base base) 0 0
    rw [w0]
    unfold btr
    omega
  rintro ii v y ⟨s, W, M, hs1, hs, hii, rfl, y1, y2, y3, y4, ob⟩ L hL
  have y5 : y.1 234 5 = nI C.length := by rw [y1 _ _ (by omega)]; exact h.1
  unfold lX7_findBest_12
  simp only [nI_lit]
  rw [y5, bI_one (by omega), q_le (by omega) (by omega), cl_nI (by omega)]
  refine ⟨fun u => ?_, fun u => ⟨(vpi (by omega) (by decide)).mpr trivial, ?_⟩⟩
  · have e : s = 2 ^ C.length := by omega
    subst e
    exact k y W M y1 y2 y3 y4 ⟨ob.1, ob.2.1, ob.2.2.1, fun L hL => ob.2.2.2 L hL (mkL_lt L hL.2)⟩
  have hs2 : s < 2 ^ C.length := by omega
  have its : y.1 237 s = nI (sBn (fun i => s.testBit i) (gSt C g) C.length) := by rw [y1 _ _ (by omega)]; exact hws s hs2
  have itl := sBn_8 (P := fun i => s.testBit i) hg hC
  have smE : ∀ L, stL s L → smL (gSt C g) L = sBn (fun i => s.testBit i) (gSt C g) C.length := fun L q => stL_sm q hs2
  rw [its]
  generalize sBn (fun i => s.testBit i) (gSt C g) C.length = it at itl smE
  refine Lp2.ind (fun ii v z => ∃ t W M, t ≤ C.length ∧ ii = C.length - t ∧ v = nI t ∧ (∀ c f, c ≠ 234 ∨ (f ≠ 10 ∧ f ≠ 11) → z.1 c f = x.1 c f) ∧ z.2 = x.2 ∧ z.1 234 10 = nI W ∧ z.1 234 11 = nI M ∧ OBs Y base C g within s W M ∧ ∀ i L, i < t → stL s (i :: L) → tSt Y base C (i :: L) ≤ within → ¬ btr it (tSt Y base C (i :: L)) W M) C.length ⟨0, W, M, Nat.zero_le _, rfl, rfl, y1, y2, y3, y4, ob, fun i L q => absurd q (Nat.not_lt_zero i)⟩ ?_
  clear y1 y2 y3 y4 ob its W M
  rintro jj v z ⟨t, W, M, ht, hjj, rfl, z1, z2, z3, z4, ob, on⟩ L' hL'
  obtain ⟨o1, o2, o3, o4⟩ := id ob
  have z5 : z.1 234 5 = nI C.length := by rw [z1 _ _ (by omega)]; exact h.1
  unfold lX7_findBest_32
  simp only [nI_lit]
  rw [z5, q_le (by omega) (by omega), nI_add, nI_add, z3, z4]
  refine ⟨fun u2 => ?_, fun u2 => ?_⟩
  · have e : t = C.length := by omega
    subst e
    refine hL _ _ _ (by omega) ⟨s + 1, W, M, by omega, by omega, rfl, rfl, z1, z2, z3, z4, o1, o2, o3, fun l hl hk hle => ?_⟩
    by_cases e : mkL l = s
    · have st := stL_mk hl.1
      rw [e] at st
      rw [smE l st]
      cases l with
      | nil =>
        have e : 0 = s := e
        omega
      | cons i l => exact on i l (hl.2 i (List.mem_cons_self ..)) st hle
    · exact o4 l hl (by omega) hle
  have ht2 : t < C.length := by omega
  rw [bI_bit (by omega)]
  cases q : s.testBit t
  · refine ⟨fun u3 => absurd rfl u3, fun _ => ?_⟩
    refine hL' _ _ _ (by omega) ⟨t + 1, W, M, by omega, rfl, rfl, z1, z2, z3, z4, ob, fun i l hi st hle => ?_⟩
    by_cases e : i = t
    · have := (st.2 i).mp (List.mem_cons_self ..)
      rw [e, q] at this; cases this
    · exact on i l (by omega) st hle
  · refine ⟨fun _ => ?_, fun u3 => absurd u3 (by decide)⟩
    have lt' : C.length - (t + 1) < jj := by omega
    have lt2 : t + 1 ≤ C.length := by omega
    have sz : stT Y base C z := fun a t p q => by rw [z1 _ _ (by omega)]; exact hst a t p q
    have rz : rsT Y base C (2 ^ C.length) z := fun s a p q => by rw [z1 _ _ (by omega)]; exact hrs s a p q
    refine c_through hC sz rz hs2 (Nat.lt_trans (xr_lt s (by omega) t (by omega) q) hs2) ht2 (Or.inr rfl) q (fun v' rv => ?_)
    obtain ⟨r1, r2, r3⟩ := rv
    have ec : caF Y base C 8 = base := rfl
    have wb : wkF Y base (coF Y C t) ≤ 1000000 := wkF_le w hb (crF_20 w (hm _ (gD_m ht2)))
    rw [ec]
    have low : ∀ l, stL s (t :: l) → wkF Y base (coF Y C t) + 10 + v' ≤ tSt Y base C (t :: l) := by
      intro l st
      have := r2 l ((stL_cons q).mp st)
      show _ ≤ wkF Y base (coF Y C t) + 10 + tmL (wkF Y) (coF Y C) base (coF Y C t) l
      omega
    generalize hT : wkF Y base (coF Y C t) + 10 + v' = T at low
    have keep : (T ≤ within → ¬ btr it T W M) → L' (nI (t + 1)) z := by
      intro nb
      refine hL' _ _ _ lt' ⟨t + 1, W, M, lt2, rfl, rfl, z1, z2, z3, z4, ob, fun i l hi st hle => ?_⟩
      by_cases e : i = t
      · subst e
        have := low l st
        have := nb (by omega)
        unfold btr at *
        omega
      · exact on i l (by omega) st hle
    have upd : T ≤ within → btr it T W M → wX7_findBest_95 (nI within) (nI s) (nI it) (nI t) (nI T) z K L L' := by
      intro q1 q2
      unfold wX7_findBest_95
      have e1 : nI t + 1 = nI (t + 1) := nI_add t 1
      rw [e1]
      obtain ⟨l, hl, el⟩ := r3 (by omega)
      have st := (stL_cons q).mpr hl
      have eT : tSt Y base C (t :: l) = T := by
        show wkF Y base (coF Y C t) + 10 + tmL (wkF Y) (coF Y C) base (coF Y C t) l = T
        rw [el, hT]
      refine hL' _ _ _ lt' ⟨t + 1, it, T, lt2, rfl, rfl, fun c f p => by rw [wr_ne (by omega), wr_ne (by omega), z1 c f p], z2, by rw [wr_k (by decide), wr_e], by rw [wr_e], ⟨⟨t :: l, stL_v hs2 st, smE _ st, eT⟩, q1, itl, fun l2 h2 hk hle => ?_⟩, fun i l2 hi st2 hle => ?_⟩
      · have := o4 l2 h2 hk hle
        unfold btr at *
        omega
      · by_cases e : i = t
        · subst e
          have := low l2 st2
          unfold btr
          omega
        · have := on i l2 (by omega) st2 hle
          unfold btr at *
          omega
    rw [q_lt (by omega) (by omega), q_lt (by omega) (by omega), q_eq (by omega) (by omega), q_le (by omega) (by omega)]
    refine ⟨fun u4 => keep (fun q1 => by omega), fun u4 => ⟨fun u5 => upd (by omega) (Or.inl u5), fun u5 => ⟨fun u6 => keep (fun _ => by unfold btr; omega), fun u6 => ⟨fun u7 => keep (fun _ => by unfold btr; omega), fun u7 => upd (by omega) (Or.inr ⟨u6, by omega⟩)⟩⟩⟩⟩
