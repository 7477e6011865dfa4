/-! A MINUTE, 33: the witness of the reference; a state of the program that goes with the fire's end. -/
def mdA (x v : ab_X) (n : Nat) : ab_X := ((fun c => if c = 12 then v.1 266 else if c = 13 then v.1 267 else if c = 15 then v.1 271 else if c = 16 then v.1 274 else if c = 11 then (fun f => if f = 7 then nI 0 else x.1 11 f) else if 30 ≤ c ∧ c ≤ 65 ∧ (c - 30) % 3 = 2 then (fun f => v.1 272 (6 * ((c - 30) / 3) + f)) else if 30 ≤ c ∧ c ≤ 65 ∧ (c - 30) % 3 = 0 then (fun f => if f = 15 then v.1 263 ((c - 30) / 3) else x.1 c f) else if 82 ≤ c ∧ c < 82 + n then (fun f => if f = 8 then v.1 286 (c - 82) else if f = 9 then v.1 287 (c - 82) else if f = 10 then v.1 288 (c - 82) else if f = 12 then v.1 290 (c - 82) else if f = 13 then v.1 291 (c - 82) else x.1 c f) else x.1 c), x.2)
theorem md_o {x v : ab_X} {n c : Nat} (h : c < 11 ∨ c = 14 ∨ (16 < c ∧ c < 30) ∨ (65 < c ∧ c < 82) ∨ 82 + n ≤ c) (hn : n ≤ 16) : (mdA x v n).1 c = x.1 c := by
  show (if c = 12 then _ else _) = _
  rw [if_neg (by omega), if_neg (by omega), if_neg (by omega), if_neg (by omega), if_neg (by omega), if_neg (by omega), if_neg (by omega), if_neg (by omega)]
theorem md_h {x v : ab_X} {n h f : Nat} (hh : h < 12) (hf : f ≠ 15) : (mdA x v n).1 (30 + 3 * h) f = x.1 (30 + 3 * h) f := by
  show (if 30 + 3 * h = 12 then _ else _ : Nat → Int32) f = _
  rw [if_neg (by omega), if_neg (by omega), if_neg (by omega), if_neg (by omega), if_neg (by omega), if_neg (by omega), if_pos (by omega)]
  show (if f = 15 then _ else _) = _
  rw [if_neg hf]
theorem md_h15 {x v : ab_X} {n h : Nat} (hh : h < 12) : (mdA x v n).1 (30 + 3 * h) 15 = v.1 263 h := by
  show (if 30 + 3 * h = 12 then _ else _ : Nat → Int32) 15 = _
  rw [if_neg (by omega), if_neg (by omega), if_neg (by omega), if_neg (by omega), if_neg (by omega), if_neg (by omega), if_pos (by omega)]
  show (if 15 = 15 then v.1 263 ((30 + 3 * h - 30) / 3) else _) = _
  rw [if_pos rfl, show (30 + 3 * h - 30) / 3 = h by omega]
theorem md_h1 {x v : ab_X} {n h : Nat} (hh : h < 12) : (mdA x v n).1 (30 + 3 * h + 1) = x.1 (30 + 3 * h + 1) := by
  show (if 30 + 3 * h + 1 = 12 then _ else _) = _
  rw [if_neg (by omega), if_neg (by omega), if_neg (by omega), if_neg (by omega), if_neg (by omega), if_neg (by omega), if_neg (by omega), if_neg (by omega)]
theorem md_h2 {x v : ab_X} {n h f : Nat} (hh : h < 12) : (mdA x v n).1 (30 + 3 * h + 2) f = v.1 272 (6 * h + f) := by
  show (if 30 + 3 * h + 2 = 12 then _ else _ : Nat → Int32) f = _
  rw [if_neg (by omega), if_neg (by omega), if_neg (by omega), if_neg (by omega), if_neg (by omega), if_pos (by omega)]
  show v.1 272 (6 * ((30 + 3 * h + 2 - 30) / 3) + f) = _
  rw [show (30 + 3 * h + 2 - 30) / 3 = h by omega]
theorem md_c {x v : ab_X} {n i : Nat} (hi : i < n) (hn : n ≤ 16) : (mdA x v n).1 (82 + i) = (fun f => if f = 8 then v.1 286 i else if f = 9 then v.1 287 i else if f = 10 then v.1 288 i else if f = 12 then v.1 290 i else if f = 13 then v.1 291 i else x.1 (82 + i) f) := by
  show (if 82 + i = 12 then _ else _) = _
  rw [if_neg (by omega), if_neg (by omega), if_neg (by omega), if_neg (by omega), if_neg (by omega), if_neg (by omega), if_neg (by omega), if_pos (by omega), show 82 + i - 82 = i by omega]
theorem bu_I {x s : ab_X} {Wa : Nat → Int32} (i : Inv2 x s) : ∃ y, Inv2P y (buS s Wa) := by
  have w := i.w
  have b58 := w.b58
  have b31 := w.b31
  obtain ⟨o1, o2, o3⟩ := bu_o w Wa
  have v31 : nv (buS s Wa).1 246 31 = nv s.1 246 31 := by unfold nv; rw [o3 246 (by decide) (by decide) (by decide) (by decide) (by decide) (by decide) (by decide) (by decide)]
  have v58 : nv (buS s Wa).1 246 58 = nv s.1 246 58 := by unfold nv; rw [o3 246 (by decide) (by decide) (by decide) (by decide) (by decide) (by decide) (by decide) (by decide)]
  have e : ∀ c, (c < 263 ∨ (264 ≤ c ∧ c ≤ 265) ∨ c = 273 ∨ (275 ≤ c ∧ c ≤ 285) ∨ c = 289 ∨ 292 ≤ c) → (buS s Wa).1 c = s.1 c := fun c p => o3 c (by omega) (by omega) (by omega) (by omega) (by omega) (by omega) (by omega) (by omega)
  refine ⟨mdA x (buS s Wa) (nv s.1 246 58), ?_⟩
  have rr := RR_fire (X := x.1) (Y := s.1) (X' := (mdA x (buS s Wa) (nv s.1 246 58)).1) (Y' := (buS s Wa).1) (D := s.2.1 329) w i.r (fun c p => md_o (by omega) b58) (fun c p q1 q2 q3 q4 q5 q6 => o3 c q1 q2 q3 q4 q5 (by omega) (by omega) (by omega)) ?_ ?_ ?_ (bu_who w Wa) (bu_wfi w Wa) (bu_wcr w Wa)
  · refine Inv2P_of ?_ rr.2
    rw [o2]; exact rr.1
  · obtain ⟨h1, h2, h3, h4⟩ := i.r.ho
    refine ⟨fun h p => ?_, fun h f p p' => ?_, fun h p => ?_, fun h p p' => ?_⟩
    · obtain ⟨a0, a1, a2, a3, a4, a5, a6⟩ := h1 h p
      rw [md_h15 p, md_h p (by decide), md_h p (by decide), md_h p (by decide), md_h p (by decide), md_h p (by decide), md_h p (by decide), e 265 (by decide), e 259 (by decide), e 261 (by decide), e 262 (by decide), e 264 (by decide)]
      exact ⟨a0, a1, a2, a3, a4, rfl, a6⟩
    · rw [md_h1 p, md_h2 p, e 273 (by decide)]
      exact ⟨(h2 h f p p').1, rfl⟩
    · rw [v31] at p
      have p' : h < 12 := by omega
      have g := h3 h p
      have epr : prv (buS s Wa).1 h = prv s.1 h := by unfold prv; rw [e 254 (by decide)]
      have enx : ∀ n, nxt (buS s Wa).1 n h = nxt s.1 n h := fun n => by unfold nxt; rw [e 254 (by decide)]
      rw [epr, enx, v31, e 254 (by decide), e 255 (by decide), e 256 (by decide), e 257 (by decide), e 258 (by decide), e 260 (by decide), md_h p' (by decide), md_h p' (by decide), md_h p' (by decide), md_h p' (by decide), md_h p' (by decide), md_h p' (by decide), md_h p' (by decide), md_h p' (by decide)]
      exact g
    · rw [v31] at p
      rw [md_h p' (by decide), md_h p' (by decide), md_h p' (by decide)]
      exact h4 h p p'
  · obtain ⟨q1, q2, q3, q4⟩ := i.r.fi
    have e25 : (mdA x (buS s Wa) (nv s.1 246 58)).1 25 = x.1 25 := md_o (by omega) b58
    have e24 : (mdA x (buS s Wa) (nv s.1 246 58)).1 24 = x.1 24 := md_o (by omega) b58
    have e17 : (mdA x (buS s Wa) (nv s.1 246 58)).1 17 = x.1 17 := md_o (by omega) b58
    have e11 : (mdA x (buS s Wa) (nv s.1 246 58)).1 11 7 = nI 0 := rfl
    refine ⟨fun k p => ⟨rfl, rfl, by rw [e17]; exact (q1 k p).2.2.1, by rw [e25]; exact (q1 k p).2.2.2⟩, fun k p => ⟨rfl, rfl, by rw [e24]; exact (q2 k p).2.2⟩, by rw [e11]; exact isB_0, fun u => absurd e11 u⟩
  · obtain ⟨q1, q2⟩ := i.r.cr
    refine ⟨fun j hj => ?_, fun j p p' => ?_⟩
    · rw [v58] at hj
      obtain ⟨r0, r1, r2, r3, r4, r5, r6, r7, r8, r9, r10, r11, r12, r13, r14, r15, r16⟩ := q1 j hj
      rw [md_c hj b58, e 279 (by decide), e 280 (by decide), e 298 (by decide), e 281 (by decide), e 282 (by decide), e 283 (by decide), e 284 (by decide), e 285 (by decide), e 289 (by decide), e 293 (by decide), e 292 (by decide), e 295 (by decide)]
      exact ⟨r0, r1, r2, r3, r4, r5, r6, r7, rfl, rfl, rfl, r11, rfl, rfl, r14, r15, r16⟩
    · rw [v58] at p
      rw [md_o (by omega) b58]; exact q2 j p p'
theorem shN_I {x t : ab_X} {n : Nat} {R : Nat → AR} (h : Inv2 x t) (hn : n = nv t.1 246 58) (ok : ∀ i, i < n → Rok t i (R i)) : ∀ j, j ≤ n → ∃ y, Inv2 y (shN t n R j).1
  | 0, _ => ⟨x, h⟩
  | j + 1, hj => by
    obtain ⟨y, hy⟩ := shN_I h hn ok j (by omega)
    have so := (shN_o t n R j).1
    have o := ok j (by omega)
    show ∃ y, Inv2 y (sh1 (shN t n R j) n R j).1
    cases e : R j with
    | none => unfold sh1; rw [e]; exact ⟨y, hy⟩
    | some u =>
      obtain ⟨r, m, a, fl⟩ := u
      rw [e] at o
      refine ⟨_, sh1_I (n := n) hy ?_ e ?_⟩
      · have : nv (shN t n R j).1.1 246 58 = nv t.1 246 58 := congrArg (fun q : Nat → Int32 => (q 58).toNatClampNeg) (so 246 (by decide) (by decide))
        omega
      · have e1 : nv (shN t n R j).1.1 246 31 = nv t.1 246 31 := congrArg (fun q : Nat → Int32 => (q 31).toNatClampNeg) (so 246 (by decide) (by decide))
        have e2 : nv (shN t n R j).1.1 290 j = nv t.1 290 j := congrArg (fun q : Nat → Int32 => (q j).toNatClampNeg) (so 290 (by decide) (by decide))
        rw [e1, e2]; exact o.2.1
theorem m_wit {x s : ab_X} (m : keepM s.1 x.1) (w : WWp s.1) {K : ab_X → Prop} (k : ∀ y, keepM (wtS s).1 y.1 → (∀ d, d ≠ 318 → y.1 d = x.1 d) → y.2 = x.2 → K y) : Lp2 (lX12_minute_404 K) 0 x := by
  have b92 := w.b92
  refine Lp2.ind (fun ii a y => ∃ j, j ≤ nv s.1 246 92 ∧ ii = nv s.1 246 92 - j ∧ a = nI j ∧ (∀ d, d ≠ 318 → y.1 d = x.1 d) ∧ y.2 = x.2 ∧ (∀ k, k < j → y.1 318 k = wtF s.1 k) ∧ (∀ k, j ≤ k → y.1 318 k = s.1 318 k)) (nv s.1 246 92) ⟨0, Nat.zero_le _, rfl, rfl, fun _ _ => rfl, rfl, fun k hk => by omega, fun k _ => by rw [m.c318]⟩ ?_
  rintro ii a y ⟨j, hj, hii, rfl, y1, y2, y3, y4⟩ L hL
  have mo : ∀ d, kM d → d ≠ 318 → y.1 d = s.1 d := fun d p q => by rw [y1 d q]; exact m.1 d p
  have e92 : y.1 246 92 = nI (nv s.1 246 92) := by rw [y1 246 (by decide), m.s92]; exact w.v92
  unfold lX12_minute_404
  have ej : nI j + 1 = nI (j + 1) := nI_add j 1
  rw [e92, q_le (by omega) (by omega), ej]
  have vj : j < nv s.1 246 92 → vp_in (nI j) 60 := fun u => (vpi (by omega) (by decide)).mpr trivial
  refine ⟨fun q => ?_, fun q => ⟨vj (by omega), ?_⟩⟩
  · have : j = nv s.1 246 92 := by omega
    subst this
    refine k y ⟨fun d p => ?_, fun f p => ?_⟩ y1 y2
    · by_cases e : d = 318
      · subst e
        rw [wtS_e]
        funext kk
        by_cases u : kk < nv s.1 246 92
        · exact y3 kk u
        · rw [y4 kk (by omega)]; unfold wtF; rw [if_neg (fun t => u t.1)]
      · rw [wtS_o e]; exact mo d p e
    · rw [wtS_o (by decide), y1 246 (by decide)]; exact m.2 f p
  have vj := vj (by omega)
  have mf : keepF s.1 y.1 := ⟨fun c p => by rw [y1 c (by unfold kF at p; omega)]; exact m.f.1 c p, by rw [y1 246 (by decide)]; exact m.f.2⟩
  have c312 : y.1 312 = s.1 312 := mo 312 (by unfold kM; omega) (by decide)
  have c310 : y.1 310 = s.1 310 := mo 310 (by unfold kM; omega) (by decide)
  have skip : ¬ (s.1 312 j = nI 0 ∧ ¬ wor s.1 (s.1 310 j) = -nI 1) → L (nI (j + 1)) y := fun u => hL _ _ _ (by omega) ⟨j + 1, by omega, rfl, rfl, y1, y2, fun kk hk => by
    by_cases e : kk = j
    · subst e; rw [y4 kk (Nat.le_refl _)]; unfold wtF; rw [if_neg (fun t => u t.2)]
    · exact y3 kk (by omega), fun kk hk => y4 kk (by omega)⟩
  rw [cl_nI (by omega), c312, c310]
  refine ⟨fun u => skip (fun t => u t.1), fun u => ⟨vj, m_burnsAt mf w.tw ?_⟩⟩
  by_cases v : wor s.1 (s.1 310 j) = -nI 1
  · rw [decide_eq_false (fun t => t v)]
    exact ⟨fun _ => skip (fun t => t.2 v), fun t => absurd rfl t⟩
  · rw [decide_eq_true v]
    refine ⟨fun t => absurd t (by decide), fun _ => ⟨vj, hL _ _ _ (by omega) ⟨j + 1, by omega, rfl, rfl, fun d p => by rw [wr_n p]; exact y1 d p, y2, fun kk hk => ?_, fun kk hk => by rw [wr_ne (by omega)]; exact y4 kk (by omega)⟩⟩⟩
    by_cases e : kk = j
    · subst e; rw [wr_e]; unfold wtF; rw [if_pos ⟨by omega, u, v⟩]; rfl
    · rw [wr_ne (by omega)]; exact y3 kk (by omega)
