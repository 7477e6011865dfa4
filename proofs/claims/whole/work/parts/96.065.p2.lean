/-! CALLS: a call begins. -/
def beS (s : ab_X) (c : Int32) : ab_X := wr (wr (wr (wr (wr (wr s 310 (nv s.1 246 92) c) 311 (nv s.1 246 92) (nI 0)) 313 (nv s.1 246 92) (nI (nv s.1 246 1))) 314 (nv s.1 246 92) (-nI 1)) 246 92 (nI (nv s.1 246 92 + 1))) 318 (nv s.1 246 92) (bb (decide (¬ wor s.1 c = -nI 1)))
theorem bb_isB (b : Bool) : isB (bb b) := by cases b; exact isB_0; exact isB_1
theorem i_begin {x : ab_X} {c n : Nat} {bv : Int32} (h : InvA x) (en0 : nv x.1 246 92 = n) (hn : n < 60) (hc : c < 20) (ho : ∀ i, i < n → opB x.1 (nI c) i = false) (hb : bv = bb (decide (¬ wor x.1 (nI c) = -nI 1))) {z : ab_X} (e : z = wr (wr (wr (wr (wr (wr (wr (wr (wr (wr x (98 + n) 0 (nI c)) (98 + n) 3 (nI (nv x.1 246 1))) (98 + n) 8 bv) 66 5 (nI (n + 1))) 310 n (nI c)) 311 n (nI 0)) 313 n (nI (nv x.1 246 1))) 314 n (-nI 1)) 246 92 (nI (n + 1))) 318 n bv) : InvA z := by
  have b1 := h.2.b1
  have m1 : z.1 310 n = nI c := by rw [e]; simp (disch := omega) only [wr_ne, wr_e]
  have m2 : z.1 311 n = nI 0 := by rw [e]; simp (disch := omega) only [wr_ne, wr_e]
  have m3 : z.1 313 n = nI (nv x.1 246 1) := by rw [e]; simp (disch := omega) only [wr_ne, wr_e]
  have m4 : z.1 314 n = -nI 1 := by rw [e]; simp (disch := omega) only [wr_ne, wr_e]
  have m8 : z.1 318 n = bv := by rw [e, wr_e]
  have s92 : z.1 246 92 = nI (n + 1) := by rw [e]; simp (disch := omega) only [wr_ne, wr_e]
  have c5 : z.1 66 5 = nI (n + 1) := by rw [e]; simp (disch := omega) only [wr_ne, wr_e]
  have k0 : z.1 (98 + n) 0 = nI c := by rw [e]; simp (disch := omega) only [wr_ne, wr_e]
  have k3 : z.1 (98 + n) 3 = nI (nv x.1 246 1) := by rw [e]; simp (disch := omega) only [wr_ne, wr_e]
  have k8 : z.1 (98 + n) 8 = bv := by rw [e]; simp (disch := omega) only [wr_ne, wr_e]
  have oc : ∀ i f, i < 60 → i ≠ n ∨ (f ≠ 0 ∧ f ≠ 3 ∧ f ≠ 8) → z.1 (98 + i) f = x.1 (98 + i) f := fun i f p q => by rw [e]; simp (disch := omega) only [wr_ne]
  have om : ∀ d i, 310 ≤ d → d ≤ 318 → i ≠ n ∨ d = 312 ∨ d = 315 ∨ d = 316 ∨ d = 317 → z.1 d i = x.1 d i := fun d i p q r => by rw [e]; simp (disch := omega) only [wr_ne]
  have hD : z.2.1 329 = x.2.1 329 := by rw [e]; rfl
  have sc : ∀ f, f ≠ 92 → z.1 246 f = x.1 246 f := fun f p => by rw [e]; simp (disch := omega) only [wr_ne]
  have cs : ∀ i f, scC i → (i ≠ 66 ∨ f ≠ 5) → z.1 i f = x.1 i f := fun i f p q => by unfold scC at p; rw [e]; simp (disch := omega) only [wr_ne]
  have mo : ∀ d, d ≠ 246 → ¬ scC d → (d < 98 ∨ 157 < d) → (d < 310 ∨ 318 < d) → z.1 d = x.1 d := fun d p q a b => by unfold scC at q; rw [e]; simp (disch := omega) only [wr_n]
  clear e
  have bvB : isB bv := by rw [hb]; exact bb_isB _
  have scn : ∀ f, f ≠ 92 → nv z.1 246 f = nv x.1 246 f := fun f p => by unfold nv; rw [sc f p]
  have en : nv z.1 246 92 = n + 1 := nv_of s92 (by omega)
  have nvo : ∀ d i, 310 ≤ d → d ≤ 318 → i ≠ n → nv z.1 d i = nv x.1 d i := fun d i a b e => by unfold nv; rw [om d i a b (by omega)]
  have nbo : ∀ d i b, 310 ≤ d → d ≤ 318 → i ≠ n → nbd x.1 d i b → nbd z.1 d i b := fun d i b p q e u => by unfold nbd at u ⊢; rw [nvo d i p q e, om d i p q (by omega)]; exact u
  refine InvA_chg h (L := [(98, 157), (310, 318)]) (S := [92]) (C := [(66, 5)]) ⟨fun d p q r => ?_, fun f p => sc f (by simpa using p), fun c f p q => cs c f p (by simp at q; omega)⟩ (Or.inr ?sc) (Or.inl rfl) (Or.inl rfl) (Or.inl rfl) (Or.inl rfl) (Or.inl rfl) (Or.inr ?ca) (Or.inl rfl) (Or.inl rfl) (Or.inl rfl) (Or.inl ⟨rfl, hD⟩) (Or.inr ?wsc) (Or.inl rfl) (Or.inl rfl) (Or.inl rfl) (Or.inl rfl) (Or.inl rfl) (Or.inr ?wcr) (Or.inr ?wca) (Or.inl rfl) (Or.inr ?wcb)
  · have r0 : d < 98 ∨ 157 < d := r (98, 157) (by simp)
    have r1 : d < 310 ∨ 318 < d := r (310, 318) (by simp)
    exact mo d p q r0 r1
  case sc =>
    unfold Rsc
    rw [s92, c5, cs 1 7 (by unfold scC; omega) (by omega), cs 9 2 (by unfold scC; omega) (by omega), cs 9 6 (by unfold scC; omega) (by omega), cs 9 9 (by unfold scC; omega) (by omega), cs 66 3 (by unfold scC; omega) (by omega), cs 66 7 (by unfold scC; omega) (by omega), cs 66 12 (by unfold scC; omega) (by omega), cs 158 1 (by unfold scC; omega) (by omega), cs 165 4 (by unfold scC; omega) (by omega), cs 165 9 (by unfold scC; omega) (by omega), cs 0 9 (by unfold scC; omega) (by omega)]
    rw [sc 9 (by decide), sc 31 (by decide), sc 56 (by decide), sc 57 (by decide), sc 58 (by decide), sc 71 (by decide), sc 1 (by decide), sc 70 (by decide), sc 72 (by decide), sc 99 (by decide), sc 116 (by decide)]
    exact ⟨h.1.s9, h.1.s31, h.1.s56, h.1.s57, h.1.s58, rfl, h.1.s71, h.1.s1, h.1.s70, h.1.s72, h.1.s99, h.1.s116⟩
  case wsc =>
    have keep : ∀ f b, f ≠ 92 → nbd x.1 246 f b → nbd z.1 246 f b := fun f b p u => by unfold nbd nv at u ⊢; rw [sc f p]; exact u
    obtain ⟨w1, w2, w3, w4, w5, w6, w7, w8, w9, w10, w11, w12⟩ := h.2.sc
    exact ⟨keep _ _ (by decide) w1, keep _ _ (by decide) w2, keep _ _ (by decide) w3, keep _ _ (by decide) w4, keep _ _ (by decide) w5, nb_of s92 (by omega) (by decide), keep _ _ (by decide) w7, keep _ _ (by decide) w8, keep _ _ (by decide) w9, keep _ _ (by decide) w10, keep _ _ (by decide) w11, keep _ _ (by decide) w12⟩
  case ca =>
    obtain ⟨r1, r2⟩ := h.1.ca
    rw [en0] at r1 r2
    refine ⟨fun i p => ?_, fun i p q => ?_⟩
    · rw [en] at p
      by_cases e : i = n
      · subst e
        obtain ⟨d1, d2, d4, d5, d6, d7, d8⟩ := r2 i (Nat.le_refl _) hn
        obtain ⟨g2, g5, g6, g7, g8⟩ := h.2.ca.2.1 i (by omega) hn
        refine ⟨k0.trans m1.symm, ?_, ?_, k3.trans m3.symm, ?_, ?_, ?_, ?_, k8.trans m8.symm⟩
        · rw [oc i 1 hn (by omega), m2]; exact d1
        · rw [oc i 2 hn (by omega), om 312 i (by decide) (by decide) (by omega), g2]; exact d2
        · rw [oc i 4 hn (by omega), m4]; exact d4
        · rw [oc i 5 hn (by omega), om 315 i (by decide) (by decide) (by omega), g5]; exact d5
        · rw [oc i 6 hn (by omega), om 316 i (by decide) (by decide) (by omega), g6]; exact d6
        · rw [oc i 7 hn (by omega), om 317 i (by decide) (by decide) (by omega), g7]; exact d7
      · have := r1 i (by omega)
        have o := fun f => oc i f (by omega) (Or.inl e)
        have o2 := fun d p q => om d i p q (Or.inl e)
        rw [o, o, o, o, o, o, o, o, o, o2 310 (by decide) (by decide), o2 311 (by decide) (by decide), o2 312 (by decide) (by decide), o2 313 (by decide) (by decide), o2 314 (by decide) (by decide), o2 315 (by decide) (by decide), o2 316 (by decide) (by decide), o2 317 (by decide) (by decide), o2 318 (by decide) (by decide)]
        exact this
    · rw [en] at p
      have e : i ≠ n := by omega
      have := r2 i (by omega) q
      have o := fun f => oc i f q (Or.inl e)
      rw [o, o, o, o, o, o, o]
      exact this
  case wcr =>
    have f1 : ∀ i, 279 ≤ i → i ≤ 298 → z.1 i = x.1 i := fun i p q => mo i (by omega) (by unfold scC; omega) (by omega) (by omega)
    have fn : ∀ i k, 279 ≤ i → i ≤ 298 → nv z.1 i k = nv x.1 i k := fun i k p q => by unfold nv; rw [f1 i p q]
    have fb : ∀ i k b, 279 ≤ i → i ≤ 298 → nbd x.1 i k b → nbd z.1 i k b := fun i k b p q u => by unfold nbd at u ⊢; rw [fn i k p q, f1 i p q]; exact u
    obtain ⟨r1, r2, r3, r4⟩ := h.2.cr
    have n58 := scn 58 (by decide)
    refine ⟨fun i p => ?_, fun i p => ?_, fun i p => ?_, fun i p q => ?_⟩
    · rw [n58] at p
      obtain ⟨a1, a2, a3, a4, a5, a6, a7, a8, a9, a10, a11, a12, a13, a14⟩ := r1 i p
      exact ⟨fb _ _ _ (by decide) (by decide) a1, fb _ _ _ (by decide) (by decide) a2, by rw [f1 298 (by decide) (by decide)]; exact a3, fb _ _ _ (by decide) (by decide) a4, by rw [fn _ _ (by decide) (by decide)]; exact a5, fb _ _ _ (by decide) (by decide) a6, fb _ _ _ (by decide) (by decide) a7, fb _ _ _ (by decide) (by decide) a8, fb _ _ _ (by decide) (by decide) a9, fb _ _ _ (by decide) (by decide) a10, fb _ _ _ (by decide) (by decide) a11, fb _ _ _ (by decide) (by decide) a12, fb _ _ _ (by decide) (by decide) a13, by rw [fn _ _ (by decide) (by decide), scn 1 (by decide)]; exact a14⟩
    · rw [n58] at p
      rw [fn 279 i (by decide) (by decide), fn 283 i (by decide) (by decide), fn 284 i (by decide) (by decide), fn 285 i (by decide) (by decide)]
      exact r2 i p
    · rw [n58] at p
      obtain ⟨a1, a2, a3, a4⟩ := r3 i p
      rw [fn 286 i (by decide) (by decide), f1 288 (by decide) (by decide), f1 290 (by decide) (by decide), f1 291 (by decide) (by decide), f1 287 (by decide) (by decide)]
      refine ⟨fun q => ⟨fb _ _ _ (by decide) (by decide) (a1 q).1, ?_⟩, fun q => ⟨fb _ _ _ (by decide) (by decide) (a2 q).1, ?_, ?_⟩, a3, a4⟩
      · rw [fn 289 i (by decide) (by decide), en]
        have := (a1 q).2
        omega
      · rw [fn 290 i (by decide) (by decide), scn 31 (by decide)]; exact (a2 q).2.1
      · rw [fn 290 i (by decide) (by decide), mo 254 (by decide) (by unfold scC; omega) (by omega) (by omega)]; exact (a2 q).2.2
    · rw [n58] at p
      rw [f1 286 (by decide) (by decide), f1 292 (by decide) (by decide), f1 293 (by decide) (by decide), f1 295 (by decide) (by decide)]
      exact r4 i p q
  case wca =>
    obtain ⟨r1, r2, r3⟩ := h.2.ca
    rw [en0] at r1 r2 r3
    have g2 := (r2 n (Nat.le_refl _) hn).1
    refine ⟨fun i p => ?_, fun i p q => ?_, fun a b p q s1 s2 => ?_⟩
    · rw [en] at p
      rw [scn 1 (by decide)]
      by_cases e : i = n
      · subst e
        refine ⟨nb_of m1 (by omega) (by decide), nb_of m2 (by decide) (by decide), nb_of (n := 0) (by rw [om 312 i (by decide) (by decide) (by omega)]; exact g2) (by decide) (by decide), nb_of m3 b1 (by decide), ?_, by rw [m8]; exact bvB⟩
        rw [nv_of m3 (by omega)]; exact Nat.le_refl _
      · obtain ⟨a1, a2, a3, a4, a5, a6⟩ := r1 i (by omega)
        exact ⟨nbo _ _ _ (by decide) (by decide) e a1, nbo _ _ _ (by decide) (by decide) e a2, nbo _ _ _ (by decide) (by decide) e a3, nbo _ _ _ (by decide) (by decide) e a4, by rw [nvo _ _ (by decide) (by decide) e]; exact a5, by rw [om _ _ (by decide) (by decide) (by omega)]; exact a6⟩
    · rw [en] at p
      have e : i ≠ n := by omega
      rw [om 312 i (by decide) (by decide) (by omega), om 315 i (by decide) (by decide) (by omega), om 316 i (by decide) (by decide) (by omega), om 317 i (by decide) (by decide) (by omega), om 318 i (by decide) (by decide) (by omega)]
      exact r2 i (by omega) q
    · rw [en] at q
      have ea : a ≠ n := by omega
      rw [om 312 a (by decide) (by decide) (by omega)] at s1
      rw [om 312 b (by decide) (by decide) (by omega)] at s2
      rw [om 310 a (by decide) (by decide) (by omega)]
      by_cases e : b = n
      · subst e
        rw [m1]
        intro u
        have := ho a p
        rw [opB_t.mpr ⟨u, s1⟩] at this
        cases this
      · rw [om 310 b (by decide) (by decide) (by omega)]
        exact r3 a b p (by omega) s1 s2
  case wcb =>
    intro i p s1 s2
    rw [en] at p
    have ew : ∀ c, wor z.1 c = wor x.1 c := wor_cg (mo 254 (by decide) (by unfold scC; omega) (by omega) (by omega)) (mo 256 (by decide) (by unfold scC; omega) (by omega) (by omega)) (mo 257 (by decide) (by unfold scC; omega) (by omega) (by omega)) (mo 266 (by decide) (by unfold scC; omega) (by omega) (by omega)) (mo 267 (by decide) (by unfold scC; omega) (by omega) (by omega)) (sc 31 (by decide))
    rw [ew] at s2
    by_cases e : i = n
    · subst e
      rw [m8, hb]
      rw [m1] at s2
      rw [decide_eq_true s2]; rfl
    · rw [om 312 i (by decide) (by decide) (by omega)] at s1
      rw [om 310 i (by decide) (by decide) (by omega)] at s2
      rw [om 318 i (by decide) (by decide) (by omega)]
      exact h.2.cb i (by omega) s1 s2
