/-! house -/
theorem lastB_s (p : Nat → Bool) (n : Nat) : lastB p (n + 1) = if p n then nI n else lastB p n := rfl
theorem lastB_d (p : Nat → Bool) (n : Nat) : (lastB p n = -nI 1 ∧ ∀ j, j < n → p j = false) ∨ ∃ h, h < n ∧ lastB p n = nI h ∧ p h = true ∧ ∀ j, h < j → j < n → p j = false := by
  induction n with
  | zero => exact Or.inl ⟨rfl, fun j hj => by omega⟩
  | succ n ih =>
    rw [lastB_s]
    cases q : p n
    · rw [if_neg (by decide)]
      rcases ih with ⟨e, z⟩ | ⟨h, hh, e, p1, z⟩
      · refine Or.inl ⟨e, fun j hj => ?_⟩
        by_cases e2 : j = n
        · subst e2; exact q
        · exact z j (by omega)
      · refine Or.inr ⟨h, by omega, e, p1, fun j h1 h2 => ?_⟩
        by_cases e2 : j = n
        · subst e2; exact q
        · exact z j h1 (by omega)
    · rw [if_pos rfl]
      exact Or.inr ⟨n, by omega, rfl, q, fun j h1 h2 => by omega⟩
theorem lastB_congr {p q : Nat → Bool} {n : Nat} (h : ∀ i, i < n → p i = q i) : lastB p n = lastB q n := by
  induction n with
  | zero => rfl
  | succ n ih => rw [lastB_s, lastB_s, h n (by omega), ih (fun i hi => h i (by omega))]
theorem fstB_congr {p q : Nat → Bool} : ∀ {n i : Nat}, (∀ j, i ≤ j → j < i + n → p j = q j) → fstB p i n = fstB q i n
  | 0, i, _ => rfl
  | n + 1, i, h => by
    show (if p i then nI i else fstB p (i + 1) n) = (if q i then nI i else fstB q (i + 1) n)
    rw [h i (by omega) (by omega), fstB_congr (fun j h1 h2 => h j (by omega) (by omega))]
def hP (Y : Nat → Nat → Int32) (c : Int32) (n : Nat) : Int32 := lastB (fun j => decide (Y 254 j = c)) n
theorem house_new {x z : ab_X} {c kd fl wd : Nat} {sh : Int32} (h : InvA x) (hn : nv x.1 246 31 < 12) (hc : c < 20) (hk : kd ≤ 2) (hf : 1 ≤ fl) (hf2 : fl ≤ 6) (hw : 1 ≤ wd) (hw2 : wd ≤ 4) (hs : sh = -nI 1 ∨ ∃ i, i < wd ∧ sh = nI i)
    (chg : Chg x.1 z.1 [(30, 65), (254, 258), (260, 260)] [0, 31] [(9, 2)]) (hD : z.2.1 329 = x.2.1 329) (s31 : z.1 246 31 = nI (nv x.1 246 31 + 1)) (c2 : z.1 9 2 = nI (nv x.1 246 31 + 1))
    (oc : ∀ i f, i < 12 → i ≠ nv x.1 246 31 → f ≠ 11 → z.1 (30 + 3 * i) f = x.1 (30 + 3 * i) f)
    (on : ∀ f, f ≠ 1 → f ≠ 2 → f ≠ 3 → f ≠ 4 → f ≠ 5 → f ≠ 10 → z.1 (30 + 3 * nv x.1 246 31) f = x.1 (30 + 3 * nv x.1 246 31) f)
    (o11 : ∀ i, i < 12 → i ≠ nv x.1 246 31 → z.1 (30 + 3 * i) 11 = if hP x.1 (nI c) (nv x.1 246 31) = nI i then nI (nv x.1 246 31) else x.1 (30 + 3 * i) 11)
    (ot : ∀ i j, i < 12 → 1 ≤ j → j ≤ 2 → z.1 (30 + 3 * i + j) = x.1 (30 + 3 * i + j))
    (v1 : z.1 (30 + 3 * nv x.1 246 31) 1 = nI c) (v2 : z.1 (30 + 3 * nv x.1 246 31) 2 = nI kd) (v3 : z.1 (30 + 3 * nv x.1 246 31) 3 = nI fl) (v4 : z.1 (30 + 3 * nv x.1 246 31) 4 = nI wd) (v5 : z.1 (30 + 3 * nv x.1 246 31) 5 = sh) (v10 : z.1 (30 + 3 * nv x.1 246 31) 10 = hP x.1 (nI c) (nv x.1 246 31))
    (om : ∀ d k, 254 ≤ d → d ≤ 260 → k ≠ nv x.1 246 31 → z.1 d k = x.1 d k)
    (m1 : z.1 254 (nv x.1 246 31) = nI c) (m2 : z.1 255 (nv x.1 246 31) = nI kd) (m3 : z.1 256 (nv x.1 246 31) = nI fl) (m4 : z.1 257 (nv x.1 246 31) = nI wd) (m5 : z.1 258 (nv x.1 246 31) = sh) (m6 : z.1 260 (nv x.1 246 31) = nI 1) : InvA z := by
  generalize en0 : nv x.1 246 31 = n at *
  have en : nv z.1 246 31 = n + 1 := nv_of s31 (by omega)
  have sc : ∀ f, f ≠ 0 → f ≠ 31 → z.1 246 f = x.1 246 f := fun f p q => chg.2.1 f (by simp [p, q])
  have scn : ∀ f, f ≠ 0 → f ≠ 31 → nv z.1 246 f = nv x.1 246 f := fun f p q => by unfold nv; rw [sc f p q]
  have cs : ∀ i f, scC i → (i ≠ 9 ∨ f ≠ 2) → z.1 i f = x.1 i f := fun i f p q => chg.2.2 i f p (by simp; omega)
  have mo : ∀ d, 247 ≤ d → (d < 254 ∨ d = 259 ∨ 260 < d) → z.1 d = x.1 d := fun d p q => chg.1 d (by omega) (by unfold scC; omega) (by intro p hp; simp at hp; rcases hp with rfl | rfl | rfl <;> simp <;> omega)
  have nvm : ∀ d k, 254 ≤ d → d ≤ 260 → k ≠ n → nv z.1 d k = nv x.1 d k := fun d k p q e => by unfold nv; rw [om d k p q e]
  have nvo : ∀ d k, 247 ≤ d → (d < 254 ∨ d = 259 ∨ 260 < d) → nv z.1 d k = nv x.1 d k := fun d k p q => by unfold nv; rw [mo d p q]
  have nbo : ∀ d k b, 247 ≤ d → (d < 254 ∨ d = 259 ∨ 260 < d) → nbd x.1 d k b → nbd z.1 d k b := fun d k b p q u => by unfold nbd at u ⊢; rw [nvo d k p q, mo d p q]; exact u
  have nbm : ∀ d k b, 254 ≤ d → d ≤ 260 → k ≠ n → nbd x.1 d k b → nbd z.1 d k b := fun d k b p q e u => by unfold nbd at u ⊢; rw [nvm d k p q e, om d k p q e]; exact u
  refine InvA_chg h chg (Or.inr ?sc) (Or.inl rfl) (Or.inr ?ho) (Or.inl rfl) (Or.inl rfl) (Or.inl rfl) (Or.inl rfl) (Or.inl rfl) (Or.inl rfl) (Or.inl rfl) (Or.inl ⟨rfl, hD⟩) (Or.inr ?wsc) (Or.inl rfl) (Or.inl rfl) (Or.inr ?who) (Or.inr ?wfi) (Or.inl rfl) (Or.inr ?wcr) (Or.inl rfl) (Or.inr ?wev) (Or.inr ?wcb)
  case sc =>
    unfold Rsc
    rw [s31, c2, cs 1 7 (by unfold scC; omega) (by omega), cs 9 6 (by unfold scC; omega) (by omega), cs 9 9 (by unfold scC; omega) (by omega), cs 66 3 (by unfold scC; omega) (by omega), cs 66 5 (by unfold scC; omega) (by omega), cs 66 7 (by unfold scC; omega) (by omega), cs 66 12 (by unfold scC; omega) (by omega), cs 158 1 (by unfold scC; omega) (by omega), cs 165 4 (by unfold scC; omega) (by omega), cs 165 9 (by unfold scC; omega) (by omega), cs 0 9 (by unfold scC; omega) (by omega)]
    rw [sc 9 (by decide) (by decide), sc 56 (by decide) (by decide), sc 57 (by decide) (by decide), sc 58 (by decide) (by decide), sc 92 (by decide) (by decide), sc 71 (by decide) (by decide), sc 1 (by decide) (by decide), sc 70 (by decide) (by decide), sc 72 (by decide) (by decide), sc 99 (by decide) (by decide), sc 116 (by decide) (by decide)]
    exact ⟨h.1.s9, rfl, h.1.s56, h.1.s57, h.1.s58, h.1.s92, h.1.s71, h.1.s1, h.1.s70, h.1.s72, h.1.s99, h.1.s116⟩
  case wsc =>
    have keep : ∀ f b, f ≠ 0 → f ≠ 31 → nbd x.1 246 f b → nbd z.1 246 f b := fun f b p q u => by unfold nbd nv at u ⊢; rw [sc f p q]; exact u
    obtain ⟨w1, w2, w3, w4, w5, w6, w7, w8, w9, w10, w11, w12⟩ := h.2.sc
    exact ⟨keep _ _ (by decide) (by decide) w1, nb_of s31 (by omega) (by decide), keep _ _ (by decide) (by decide) w3, keep _ _ (by decide) (by decide) w4, keep _ _ (by decide) (by decide) w5, keep _ _ (by decide) (by decide) w6, keep _ _ (by decide) (by decide) w7, keep _ _ (by decide) (by decide) w8, keep _ _ (by decide) (by decide) w9, keep _ _ (by decide) (by decide) w10, keep _ _ (by decide) (by decide) w11, keep _ _ (by decide) (by decide) w12⟩
  case ho =>
    obtain ⟨s1, s2, s3, s4⟩ := h.1.ho
    rw [en0] at s3 s4
    have cell : ∀ i f, i < 12 → (f = 0 ∨ f = 6 ∨ f = 7 ∨ f = 8 ∨ f = 9 ∨ f = 14 ∨ f = 15 ∨ f = 16) → z.1 (30 + 3 * i) f = x.1 (30 + 3 * i) f := by
      intro i f p q
      by_cases e : i = n
      · subst e; exact on f (by omega) (by omega) (by omega) (by omega) (by omega) (by omega)
      · exact oc i f p e (by omega)
    have pcg : ∀ i, i ≤ n → prv z.1 i = hP x.1 (z.1 254 i) i := fun i hi => lastB_congr (fun j hj => by rw [om 254 j (by decide) (by decide) (by omega)])
    refine ⟨fun i p => ?_, fun i f p q => ?_, fun i p => ?_, fun i p q => ?_⟩
    · rw [cell i 0 p (by omega), cell i 6 p (by omega), cell i 7 p (by omega), cell i 9 p (by omega), cell i 14 p (by omega), cell i 15 p (by omega), cell i 16 p (by omega), mo 265 (by decide) (by decide), mo 259 (by decide) (by decide), mo 261 (by decide) (by decide), mo 262 (by decide) (by decide), mo 263 (by decide) (by decide), mo 264 (by decide) (by decide)]
      exact s1 i p
    · rw [ot i 1 p (by decide) (by decide), ot i 2 p (by decide) (by decide), mo 273 (by decide) (by decide), mo 272 (by decide) (by decide)]
      exact s2 i f p q
    · rw [en] at p
      by_cases e : i = n
      · subst e
        obtain ⟨d8, d10, d11⟩ := s4 i (Nat.le_refl _) (by omega)
        refine ⟨by rw [v1, m1], by rw [v2, m2], by rw [v3, m3], by rw [v4, m4], by rw [v5, m5], ?_, ?_, ?_⟩
        · rw [cell i 8 (by omega) (by omega), m6]; exact d8
        · rw [v10, pcg i (Nat.le_refl _), m1]
        · rw [on 11 (by decide) (by decide) (by decide) (by decide) (by decide) (by decide), d11, en]
          unfold nxt
          rw [Nat.sub_self]; rfl
      · obtain ⟨a1, a2, a3, a4, a5, a8, a10, a11⟩ := s3 i (by omega)
        have o := fun f q => oc i f (by omega) e q
        rw [o 1 (by decide), o 2 (by decide), o 3 (by decide), o 4 (by decide), o 5 (by decide), o 8 (by decide), o 10 (by decide), om 254 i (by decide) (by decide) e, om 255 i (by decide) (by decide) e, om 256 i (by decide) (by decide) e, om 257 i (by decide) (by decide) e, om 258 i (by decide) (by decide) e, om 260 i (by decide) (by decide) e]
        refine ⟨a1, a2, a3, a4, a5, a8, ?_, ?_⟩
        · rw [a10, pcg i (by omega), om 254 i (by decide) (by decide) e]; rfl
        · rw [o11 i (by omega) e, a11, en]
          have pe : ∀ j, i + 1 ≤ j → j < n → (fun j => decide (z.1 254 j = z.1 254 i)) j = (fun j => decide (x.1 254 j = x.1 254 i)) j := fun j h1 h2 => by
            show decide (z.1 254 j = z.1 254 i) = decide (x.1 254 j = x.1 254 i)
            rw [om 254 j (by decide) (by decide) (by omega), om 254 i (by decide) (by decide) e]
          unfold nxt
          rcases fstB_d (fun j => decide (x.1 254 j = x.1 254 i)) (n - (i + 1)) (i + 1) with ⟨e1, z1⟩ | ⟨m, g1, g2, g3, e1, z1⟩
          · rw [e1]
            by_cases q : x.1 254 i = nI c
            · have : hP x.1 (nI c) n = nI i := by
                rcases lastB_d (fun j => decide (x.1 254 j = nI c)) n with ⟨_, z2⟩ | ⟨h', hh, e2, p2, z2⟩
                · have := z2 i (by omega)
                  rw [decide_eq_true q] at this; exact absurd this (by decide)
                · by_cases lt : h' < i
                  · have := z2 i lt (by omega)
                    rw [decide_eq_true q] at this; exact absurd this (by decide)
                  · by_cases gt : i < h'
                    · have := z1 h' (by omega) (by omega)
                      rw [decide_eq_false_iff_not] at this
                      exact absurd ((of_decide_eq_true p2).trans q.symm) this
                    · have : h' = i := by omega
                      rw [← this]; exact e2
              rw [if_pos this]
              refine (fstB_yes (by omega) (by omega) (decide_eq_true ?_) (fun j h1 h2 => ?_)).symm
              · rw [m1, om 254 i (by decide) (by decide) e, q]
              · exact (pe j h1 h2).trans (z1 j h1 (by omega))
            · have ne : ¬ hP x.1 (nI c) n = nI i := by
                intro u
                rcases lastB_d (fun j => decide (x.1 254 j = nI c)) n with ⟨e2, _⟩ | ⟨h', hh, e2, p2, z2⟩
                · exact (n1_eq (show i < 2147483648 by omega)).mp (e2.symm.trans u)
                · have := e2.symm.trans u
                  rw [q_eq (by omega) (by omega)] at this
                  rw [this] at p2
                  exact q (of_decide_eq_true p2)
              rw [if_neg ne]
              refine (fstB_no (fun j h1 h2 => ?_)).symm
              by_cases e3 : j = n
              · subst e3
                show decide (z.1 254 j = z.1 254 i) = false
                rw [m1, om 254 i (by decide) (by decide) e]
                exact decide_eq_false (fun u => q u.symm)
              · exact (pe j h1 (by omega)).trans (z1 j h1 (by omega))
          · rw [e1]
            have ne : ¬ hP x.1 (nI c) n = nI i := by
              intro u
              rcases lastB_d (fun j => decide (x.1 254 j = nI c)) n with ⟨e2, _⟩ | ⟨h', hh, e2, p2, z2⟩
              · exact (n1_eq (show i < 2147483648 by omega)).mp (e2.symm.trans u)
              · have := e2.symm.trans u
                rw [q_eq (by omega) (by omega)] at this
                rw [this] at p2 z2
                have z3 := z2 m (by omega) (by omega)
                rw [decide_eq_false_iff_not] at z3
                exact z3 ((of_decide_eq_true g3).trans (of_decide_eq_true p2))
            rw [if_neg ne]
            exact (fstB_yes g1 (by omega) ((pe m g1 (by omega)).trans g3) (fun j h1 h2 => (pe j h1 (by omega)).trans (z1 j h1 h2))).symm
    · rw [en] at p
      rw [oc i 8 q (by omega) (by decide), oc i 10 q (by omega) (by decide), o11 i q (by omega), if_neg]
      · exact s4 i (by omega) q
      · intro u
        rcases lastB_d (fun j => decide (x.1 254 j = nI c)) n with ⟨e2, _⟩ | ⟨h', hh, e2, p2, z2⟩
        · exact (n1_eq (show i < 2147483648 by omega)).mp (e2.symm.trans u)
        · have := e2.symm.trans u
          rw [q_eq (by omega) (by omega)] at this
          omega
  case who =>
    obtain ⟨s1, s2, s3⟩ := h.2.ho
    rw [en0] at s1
    refine ⟨fun i p => ?_, fun i p => ?_, fun k p => ?_⟩
    · rw [en] at p
      by_cases e : i = n
      · subst e
        have e3 : nv z.1 256 i = fl := nv_of m3 (by omega)
        have e4 : nv z.1 257 i = wd := nv_of m4 (by omega)
        have e6 : nv z.1 260 i = 1 := nv_of m6 (by omega)
        refine ⟨nb_of m1 (by omega) (by decide), nb_of m2 hk (by decide), nb_of m3 hf2 (by decide), by omega, nb_of m4 hw2 (by decide), by omega, ?_, nb_of m6 (by decide) (by decide), by omega⟩
        rcases hs with e | ⟨u, hu, e⟩
        · left; rw [m5, e]
        · right; exact nb_of (m5.trans e) (by omega) (by omega)
      · obtain ⟨a1, a2, a3, a4, a5, a6, a7, a8, a9⟩ := s1 i (by omega)
        refine ⟨nbm 254 i _ (by decide) (by decide) e a1, nbm 255 i _ (by decide) (by decide) e a2, nbm 256 i _ (by decide) (by decide) e a3, by rw [nvm 256 i (by decide) (by decide) e]; exact a4, nbm 257 i _ (by decide) (by decide) e a5, by rw [nvm 257 i (by decide) (by decide) e]; exact a6, ?_, nbm 260 i _ (by decide) (by decide) e a8, by rw [nvm 260 i (by decide) (by decide) e]; exact a9⟩
        rw [om 258 i (by decide) (by decide) e, nvm 257 i (by decide) (by decide) e]
        exact a7.imp id (nbm 258 i _ (by decide) (by decide) e)
    · obtain ⟨a1, a2, a3⟩ := s2 i p
      exact ⟨nbo 259 i _ (by decide) (by decide) a1, nbo 261 i _ (by decide) (by decide) a2, by rw [mo 265 (by decide) (by decide)]; exact a3⟩
    · obtain ⟨a1, a2⟩ := s3 k p
      exact ⟨nbo 272 k _ (by decide) (by decide) a1, nbo 273 k _ (by decide) (by decide) a2⟩
  case wfi =>
    obtain ⟨s1, s2, s3, s4, s5, s6, s7⟩ := h.2.fi
    unfold WLd at s6
    rw [en0] at s3 s4 s6 s7
    refine ⟨fun k p => ?_, fun k p => ?_, fun i r p q u => ?_, fun i f r p q u v => ?_, fun k p u => ?_, fun i g p q u => ?_, fun i f p q u => ?_⟩
    · obtain ⟨a1, a2⟩ := s1 k p
      exact ⟨nbo 266 k _ (by decide) (by decide) a1, nbo 267 k _ (by decide) (by decide) a2⟩
    · rw [mo 274 (by decide) (by decide)]; exact s2 k p
    · rw [mo 266 (by decide) (by decide)]
      refine s3 i r p q ?_
      by_cases e : i = n
      · left; omega
      · rw [nvm 256 i (by decide) (by decide) e, nvm 257 i (by decide) (by decide) e, en] at u
        omega
    · rw [en] at p
      rw [mo 274 (by decide) (by decide)] at v
      rw [mo 266 (by decide) (by decide)]
      by_cases e : i = n
      · subst e
        have e3 : nv z.1 256 i = fl := nv_of m3 (by omega)
        have e4 : nv z.1 257 i = wd := nv_of m4 (by omega)
        rw [e3] at q
        rw [e4] at u ⊢
        have : f * wd + r < 24 := by
          have : f * wd ≤ 5 * wd := Nat.mul_le_mul_right wd (by omega)
          omega
        exact s3 i _ (by omega) this (Or.inl (Nat.le_refl _))
      · rw [nvm 256 i (by decide) (by decide) e] at q
        rw [nvm 257 i (by decide) (by decide) e] at u ⊢
        exact s4 i f r (by omega) q u v
    · rw [mo 274 (by decide) (by decide)] at u
      rw [mo 272 (by decide) (by decide)]
      exact s5 k p u
    · rw [en] at p
      rw [mo 274 (by decide) (by decide)] at u
      by_cases e : i = n
      · subst e
        have e2 : nv z.1 255 i = kd := nv_of m2 (by omega)
        have e3 : nv z.1 256 i = fl := nv_of m3 (by omega)
        have e4 : nv z.1 257 i = wd := nv_of m4 (by omega)
        rw [e3] at q
        unfold ld brN
        rw [if_neg (by omega), mo 271 (by decide) (by decide), s7 i (g + 1) (Nat.le_refl _) (by omega) (by omega), show 6 * i + (g + 1) - 1 = 6 * i + g by omega, s7 i g (Nat.le_refl _) (by omega) (by omega), e2, e4, pk_mul, nI_add]
        apply nI_lt
        · split
          · omega
          · split <;> omega
        · split
          · omega
          · split <;> omega
      · rw [nvm 256 i (by decide) (by decide) e] at q
        unfold ld brN
        rw [mo 271 (by decide) (by decide), nvm 255 i (by decide) (by decide) e, nvm 257 i (by decide) (by decide) e]
        exact s6 i g (by omega) q u
    · rw [en] at p
      rw [mo 271 (by decide) (by decide)]
      exact s7 i f (by omega) q u
  case wcr =>
    obtain ⟨s1, s2, s3, s4⟩ := h.2.cr
    have g : ∀ d, 279 ≤ d → d ≤ 298 → z.1 d = x.1 d := fun d p q => mo d (by omega) (by omega)
    have gn : ∀ d k, 279 ≤ d → d ≤ 298 → nv z.1 d k = nv x.1 d k := fun d k p q => nvo d k (by omega) (by omega)
    refine ⟨fun i p => ?_, fun i p => ?_, fun i p => ?_, fun i p q => ?_⟩
    · rw [scn 58 (by decide) (by decide)] at p
      have := s1 i p
      simp only [nbd, gn 279 i (by decide) (by decide), gn 280 i (by decide) (by decide), gn 281 i (by decide) (by decide), gn 282 i (by decide) (by decide), gn 283 i (by decide) (by decide), gn 284 i (by decide) (by decide), gn 285 i (by decide) (by decide), gn 286 i (by decide) (by decide), gn 287 i (by decide) (by decide), gn 292 i (by decide) (by decide), gn 293 i (by decide) (by decide), g 279 (by decide) (by decide), g 280 (by decide) (by decide), g 298 (by decide) (by decide), g 281 (by decide) (by decide), g 282 (by decide) (by decide), g 283 (by decide) (by decide), g 284 (by decide) (by decide), g 285 (by decide) (by decide), g 286 (by decide) (by decide), g 287 (by decide) (by decide), g 292 (by decide) (by decide), g 293 (by decide) (by decide), scn 1 (by decide) (by decide)] at this ⊢
      exact this
    · rw [scn 58 (by decide) (by decide)] at p
      have := s2 i p
      simp only [gn 279 i (by decide) (by decide), gn 283 i (by decide) (by decide), gn 284 i (by decide) (by decide), gn 285 i (by decide) (by decide)]
      exact this
    · rw [scn 58 (by decide) (by decide)] at p
      obtain ⟨a1, a2, a3, a4⟩ := s3 i p
      simp only [nbd, gn 286 i (by decide) (by decide), gn 289 i (by decide) (by decide), gn 290 i (by decide) (by decide), g 286 (by decide) (by decide), g 287 (by decide) (by decide), g 288 (by decide) (by decide), g 289 (by decide) (by decide), g 290 (by decide) (by decide), g 291 (by decide) (by decide), scn 92 (by decide) (by decide), en]
      refine ⟨a1, fun u => ?_, a3, a4⟩
      obtain ⟨b1, b2, b3⟩ := a2 u
      rw [en0] at b2
      exact ⟨b1, by omega, by rw [om 254 _ (by decide) (by decide) (by omega)]; exact b3⟩
    · rw [scn 58 (by decide) (by decide)] at p
      rw [g 286 (by decide) (by decide), g 292 (by decide) (by decide), g 293 (by decide) (by decide), g 295 (by decide) (by decide)]
      exact s4 i p q
  case wev =>
    obtain ⟨s1, s2⟩ := h.2.ev
    refine ⟨fun k p => ?_, fun k p => ?_⟩
    · rw [scn 99 (by decide) (by decide)] at p
      obtain ⟨a1, a2, a3, a4, a5, a6, a7⟩ := s1 k p
      rw [en0] at a2
      rw [nvo 320 k (by decide) (by decide), nvo 322 k (by decide) (by decide), nvo 323 k (by decide) (by decide), scn 1 (by decide) (by decide), en]
      exact ⟨nbo 320 k _ (by decide) (by decide) a1, by omega, by rw [mo 321 (by decide) (by decide)]; exact a3.imp id (nbo 321 k _ (by decide) (by decide)), nbo 322 k _ (by decide) (by decide) a4, nbo 323 k _ (by decide) (by decide) a5, a6, a7⟩
    · rw [scn 72 (by decide) (by decide)] at p
      obtain ⟨a1, a2, a3, a4⟩ := s2 k p
      rw [nvo 305 k (by decide) (by decide), nvo 306 k (by decide) (by decide), scn 1 (by decide) (by decide)]
      exact ⟨nbo 305 k _ (by decide) (by decide) a1, a2, nbo 306 k _ (by decide) (by decide) a3, a4⟩
  case wcb =>
    have gz : ∀ i, i < n → bg z.1 i = bg x.1 i := by
      intro i hi
      unfold bg
      rw [nvm 256 i (by decide) (by decide) (by omega), nvm 257 i (by decide) (by decide) (by omega)]
      congr 1
      funext r
      unfold bu
      rw [nvo 266 _ (by decide) (by decide), nvo 267 _ (by decide) (by decide)]
    have g0 : bg z.1 n = 0 := by
      have e3 : nv z.1 256 n = fl := nv_of m3 (by omega)
      have e4 : nv z.1 257 n = wd := nv_of m4 (by omega)
      unfold bg
      rw [e3, e4]
      have le : fl * wd ≤ 24 := Nat.le_trans (Nat.mul_le_mul hf2 hw2) (by decide)
      have all : ∀ m, m ≤ 24 → cn (fun r => bu z.1 (24 * n + r)) m = 0 := by
        intro m
        induction m with
        | zero => intro _; rfl
        | succ m ih =>
          intro hm
          show cn (fun r => bu z.1 (24 * n + r)) m + (if bu z.1 (24 * n + m) then 1 else 0) = 0
          have hz := h.2.fi.2.2.1 n m hn (by omega) (Or.inl (by omega))
          have : bu z.1 (24 * n + m) = false := by
            unfold bu
            rw [nvo 266 _ (by decide) (by decide), nv_of hz (by decide)]; rfl
          rw [ih (by omega), this]; rfl
      exact all _ le
    have wz : ∀ c, wor z.1 c = wor x.1 c := by
      intro c
      have w' : ∀ i, i ≤ n → wo z.1 c i = wo x.1 c i := by
        intro i
        induction i with
        | zero => intro _; rfl
        | succ i ih =>
          intro hi
          show (if z.1 254 i = c ∧ (wo z.1 c i).2 < bg z.1 i then (nI i, bg z.1 i) else wo z.1 c i) = (if x.1 254 i = c ∧ (wo x.1 c i).2 < bg x.1 i then (nI i, bg x.1 i) else wo x.1 c i)
          rw [ih (by omega), gz i (by omega), om 254 i (by decide) (by decide) (by omega)]
      unfold wor
      rw [en, en0]
      show (if z.1 254 n = c ∧ (wo z.1 c n).2 < bg z.1 n then (nI n, bg z.1 n) else wo z.1 c n).1 = _
      rw [g0, if_neg (fun u => by omega), w' n (Nat.le_refl _)]
    intro k p u v
    rw [scn 92 (by decide) (by decide)] at p
    rw [mo 312 (by decide) (by decide)] at u
    rw [wz, mo 310 (by decide) (by decide)] at v
    rw [mo 318 (by decide) (by decide)]
    exact h.2.cb k p u v
