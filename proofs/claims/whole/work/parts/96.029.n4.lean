/-! TEXTS, 13: the run of a program. -/
theorem wd_w (w : Nat) : wd (w / 65536) (w % 65536) = w := by unfold wd; omega
theorem drop_c {c : List Nat} {i : Nat} (h : i < c.length) : c.drop i = c.getD i 0 :: c.drop (i + 1) := by
  rw [List.drop_eq_getElem_cons h]
  congr 1
  simp [List.getD_eq_getElem?_getD, List.getElem?_eq_getElem h]
theorem PM_S {v0 : Nat} {x : ab_X} {c : List Nat} {m : MS} (h : PM v0 x c m) {n : Nat} {hh : Int32} {S : ST} (z : ab_X) (f : rn v0 x z) (e1 : ∀ k, k = 3 → z.1 v0 k = x.1 v0 k) (e2 : z.1 (v0 + 2) = x.1 (v0 + 2)) (n4 : z.1 v0 4 = nI n) (n5 : z.1 v0 5 = hh) (n6 : z.1 v0 6 = S.1) (s3 : ∀ k, k < 5 → z.1 (v0 + 3) k = S.2.1 k) (n9 : z.1 v0 9 = nI S.2.2.length) (s4 : ∀ i, i < S.2.2.length → z.1 (v0 + 4) i = S.2.2.getD i 0) : PM v0 z c (m.1, n, hh, S) := by
  obtain ⟨⟨h1, h2⟩, ⟨h3, h5, h6⟩, -, -⟩ := h
  refine ⟨⟨by rw [f.1 _ _ (by omega) (by omega) (by omega) (by omega)]; exact h1, ?_⟩, ⟨by rw [e1 3 rfl]; exact h3, by rw [e2]; exact h5, h6⟩, ⟨n4, n5⟩, n6, s3, n9, s4⟩
  intro i hi
  rw [f.1 _ _ (by omega) (by omega) (by omega) (by omega)]
  exact h2 i hi
theorem c_step1 {s v0 v1 i : Nat} {e : Nat → Int32} {x : ab_X} {c : List Nat} {m m' : MS} (hs : s < 4) (h : PM v0 x c m) (hb : isB m.2.2.1) (hi : i < c.length) (hc : c.length ≤ 200) (hn : m.2.1 ≤ i) (hlet : ∀ k, k < slen (2000000 + s) → x.1 v1 k = e (sbN s k)) (hw : exW s e (c.getD i 0) m = some m') {K : ab_X → Prop} {L : Int32 → ab_X → Prop} (k : ∀ z, PM v0 z c m' → isB m'.2.2.1 → m'.2.1 ≤ i + 1 → rn v0 x z → L (nI (i + 1)) z) : lX9_run_35 v0 v1 K L (nI i) x := by
  have sl := sln s hs
  generalize hW : c.getD i 0 = w at hw
  have hp : x.1 (v0 + 1) i = nI w := by rw [h.1.2 i hi, hW]
  have k20 : w / 65536 ≤ 13 := by
    by_cases q : w / 65536 ≤ 13
    · exact q
    · unfold exW at hw
      rw [if_neg (by omega), if_neg (by omega), if_neg (by omega), if_neg (by omega)] at hw
      cases hw
  have vlt : w % 65536 < 65536 := Nat.mod_lt _ (by decide)
  have ek : nI w >>> (nI 16 &&& nI 31) = nI (w / 65536) := by
    have := wd_k (k := w / 65536) (v := w % 65536) (by omega) vlt
    rw [wd_w] at this; exact this
  have ev : nI w &&& nI 65535 = nI (w % 65536) := by
    have := wd_v (k := w / 65536) (v := w % 65536) (by omega) vlt
    rw [wd_w] at this; exact this
  have e1 : nI i + nI 1 = nI (i + 1) := nI_add i 1
  unfold lX9_run_35
  rw [h.1.1, cl_nI (by omega), hp]
  simp only [nI_lit]
  rw [ek, ev, q_le (by omega) (by omega), nI_toInt (by omega), e1]
  have vi : vp_in (nI i) 200 := (vpi (by omega) (by omega)).mpr trivial
  refine ⟨fun u => absurd u (by omega), fun _ => ⟨vi, vi, ?_⟩⟩
  obtain ⟨st, n, hh, S⟩ := m
  have hn : n ≤ i := hn
  have hb : isB hh := hb
  have len40 : st.length ≤ 40 := h.2.1.2.2
  have bin : (2 ≤ w / 65536 ∧ w / 65536 ≤ 10 ∧ w / 65536 ≠ 8) → wX9_pop v0 x (fun r4 x5 => (vp_in (nI i) 200 ∧ wX9_pop v0 x5 (fun r7 x8 => wX9_joined ((x5.1 (v0 + 1) i) >>> (nI 16 &&& nI 31)) r7 r4 x8 (fun r9 => wX9_bounded r9 x8 (fun r10 => wX9_push v0 r10 x8 (fun x11 => L (nI (i + 1)) x11)))))) := by
    intro hk
    unfold exW at hw
    rw [if_pos (by omega)] at hw
    have hw : (match ex1 s e w st with | some t => some (t, n, hh, S) | none => none) = some m' := hw
    unfold ex1 at hw
    rw [if_neg (by omega), if_neg (by omega), if_neg (by omega), if_pos (by omega)] at hw
    rcases st with _ | ⟨b, _ | ⟨a, t⟩⟩
    · cases hw
    · cases hw
    · have len40 : t.length + 1 + 1 ≤ 40 := len40
      have hw : some (jn (w / 65536) a b :: t, n, hh, S) = some m' := hw
      have hw := Option.some.inj hw
      subst hw
      refine c_popM h (fun z hz fz => ⟨vi, ?_⟩)
      refine c_popM hz (fun g hg fg => ?_)
      rw [fz.1 _ _ (by omega) (by omega) (by omega) (by omega), hp, ek]
      refine c_join hk ?_
      show wX9_push v0 (jn (w / 65536) a b) g (fun x11 => L (nI (i + 1)) x11)
      exact c_pushM hg (by omega) (fun y hy fy => k y hy hb (by show n ≤ i + 1; omega) ((fz.tr fg).tr fy))
  have qe : ∀ j, j < 20 → (nI (w / 65536) = nI j ↔ w / 65536 = j) := fun j hj => q_eq (by omega) (by omega)
  refine ⟨fun u => absurd u (by omega), fun u => ?_, fun u => ?_, fun u => bin ?_, fun u => bin ?_, fun u => bin ?_, fun u => bin ?_, fun u => bin ?_, fun u => bin ?_, fun u => ?_, fun u => bin ?_, fun u => bin ?_, fun u => ?_, fun u => ?_, fun u => ?_⟩
  · -- a number
    rw [qe 0 (by decide)] at u
    unfold exW at hw
    rw [if_pos (by omega)] at hw
    have hw : (match ex1 s e w st with | some t => some (t, n, hh, S) | none => none) = some m' := hw
    unfold ex1 at hw
    rw [if_pos u] at hw
    by_cases l : st.length < 40
    · rw [if_pos l] at hw
      have hw := Option.some.inj hw
      subst hw
      exact c_pushM h l (fun y hy fy => k y hy hb (by show n ≤ i + 1; omega) fy)
    · rw [if_neg l] at hw; cases hw
  · -- a letter
    rw [qe 1 (by decide)] at u
    unfold exW at hw
    rw [if_pos (by omega)] at hw
    have hw : (match ex1 s e w st with | some t => some (t, n, hh, S) | none => none) = some m' := hw
    unfold ex1 at hw
    rw [if_neg (by omega), if_pos u] at hw
    by_cases l : st.length < 40 ∧ w % 65536 < slen (2000000 + s)
    · rw [if_pos l] at hw
      have hw := Option.some.inj hw
      subst hw
      rw [f_below, jx_I (by omega) (by omega), cl_nI (by omega), hlet _ l.2]
      refine y1 ⟨(vpi (by omega) (by omega)).mpr trivial, ?_⟩
      unfold wX9_run_157
      have e2 : nI i + 1 = nI (i + 1) := e1
      rw [e2]
      exact c_pushM h l.1 (fun y hy fy => k y hy hb (by show n ≤ i + 1; omega) fy)
    · rw [if_neg l] at hw; cases hw
  · rw [qe 2 (by decide)] at u; omega
  · rw [qe 3 (by decide)] at u; omega
  · rw [qe 4 (by decide)] at u; omega
  · rw [qe 5 (by decide)] at u; omega
  · rw [qe 6 (by decide)] at u; omega
  · rw [qe 7 (by decide)] at u; omega
  · -- not
    rw [qe 8 (by decide)] at u
    unfold exW at hw
    rw [if_pos (by omega)] at hw
    have hw : (match ex1 s e w st with | some t => some (t, n, hh, S) | none => none) = some m' := hw
    unfold ex1 at hw
    rw [if_neg (by omega), if_neg (by omega), if_pos u] at hw
    rcases st with _ | ⟨a, t⟩
    · cases hw
    · have len40 : t.length + 1 ≤ 40 := len40
      have hw : some ((nI 1 - a) :: t, n, hh, S) = some m' := hw
      have hw := Option.some.inj hw
      subst hw
      refine c_popM h (fun z hz fz => ?_)
      exact c_pushM hz (by omega) (fun y hy fy => k y hy hb (by show n ≤ i + 1; omega) (fz.tr fy))
  · rw [qe 9 (by decide)] at u; omega
  · rw [qe 10 (by decide)] at u; omega
  · -- actions begin
    rw [qe 11 (by decide)] at u
    unfold exW at hw
    rw [if_neg (by omega), if_pos u] at hw
    rcases st with _ | ⟨a, t⟩
    · cases hw
    · have hw : some (t, n + 1, (if a = nI 0 then nI 0 else nI 1), if a = nI 0 then S else wyF n S) = some m' := hw
      have hw := Option.some.inj hw
      subst hw
      refine c_popM h (fun z hz fz => ?_)
      obtain ⟨g1, g2, ⟨g4, g5⟩, g6, g7, g8, g9⟩ := hz
      have g4 : z.1 v0 4 = nI n := g4
      have e2 : nI i + 1 = nI (i + 1) := e1
      have e3 : nI n + 1 = nI (n + 1) := nI_add n 1
      unfold wX9_run_189 wX9_beginActions wX9_beginActions_33
      rw [e2]
      refine ⟨fun q => ⟨isB_0, y0 ?_⟩, fun q => ⟨isB_1, y1 ?_⟩⟩
      · have q : a = nI 0 := q
        rw [if_pos q, if_pos q] at k
        rw [wr_k (by omega), g4, e3]
        refine k _ (PM_S (m := (t, n, hh, S)) ⟨g1, g2, ⟨g4, g5⟩, g6, g7, g8, g9⟩ _ ⟨fun c k a b d e => by simp (disch := omega) only [wr_ne], rfl⟩ (fun k hk => by simp (disch := omega) only [wr_ne]) (by rw [wr_n (by omega), wr_n (by omega)]) wr_e (by rw [wr_k (by omega), wr_e]) (by simp (disch := omega) only [wr_ne]; exact g6) (fun k hk => by simp (disch := omega) only [wr_ne]; exact g7 k hk) (by simp (disch := omega) only [wr_ne]; exact g8) (fun i hi => by simp (disch := omega) only [wr_ne]; exact g9 i hi)) isB_0 (by show n + 1 ≤ i + 1; omega) (fz.tr ⟨fun c k a b d e => by simp (disch := omega) only [wr_ne], rfl⟩)
      · have q : ¬ a = nI 0 := q
        rw [if_neg q, if_neg q] at k
        rw [wr_k (by omega), g4]
        simp only [nI_lit]
        rw [q_le (by omega) (by omega)]
        refine ⟨fun q3 => ?_, fun q3 => ?_⟩
        · rw [nI_add]
          refine k _ (PM_S (m := (t, n, hh, S)) ⟨g1, g2, ⟨g4, g5⟩, g6, g7, g8, g9⟩ _ ⟨fun c k a b d e => by simp (disch := omega) only [wr_ne], rfl⟩ (fun k hk => by simp (disch := omega) only [wr_ne]) (by rw [wr_n (by omega), wr_n (by omega)]) wr_e (by rw [wr_k (by omega), wr_e]) (by simp (disch := omega) only [wr_ne]; unfold wyF; rw [if_neg (by omega)]; exact g6) (fun k hk => by simp (disch := omega) only [wr_ne]; exact g7 k hk) (by simp (disch := omega) only [wr_ne]; exact g8) (fun i hi => by simp (disch := omega) only [wr_ne]; exact g9 i hi)) isB_1 (by show n + 1 ≤ i + 1; omega) (fz.tr ⟨fun c k a b d e => by simp (disch := omega) only [wr_ne], rfl⟩)
        · have e4 : (wr (wr z v0 5 (nI 1)) v0 6 ((wr z v0 5 (nI 1)).1 v0 6 ||| nI 1 <<< (nI n &&& nI 31))).1 v0 4 + nI 1 = nI (n + 1) := by
            simp (disch := omega) only [wr_ne]
            rw [g4, nI_add]
          rw [e4]
          refine k _ (PM_S (m := (t, n, hh, S)) ⟨g1, g2, ⟨g4, g5⟩, g6, g7, g8, g9⟩ _ ⟨fun c k a b d e => by simp (disch := omega) only [wr_ne], rfl⟩ (fun k hk => by simp (disch := omega) only [wr_ne]) (by rw [wr_n (by omega), wr_n (by omega), wr_n (by omega)]) wr_e (by simp (disch := omega) only [wr_ne]; rw [wr_e]) ?_ (fun k hk => by simp (disch := omega) only [wr_ne]; exact g7 k hk) (by simp (disch := omega) only [wr_ne]; exact g8) (fun i hi => by simp (disch := omega) only [wr_ne]; exact g9 i hi)) isB_1 (by show n + 1 ≤ i + 1; omega) (fz.tr ⟨fun c k a b d e => by simp (disch := omega) only [wr_ne], rfl⟩)
          rw [wr_k (by omega), wr_e, wr_k (by omega), g6]
          unfold wyF
          rw [if_pos (by omega)]
  · -- an action
    rw [qe 12 (by decide)] at u
    unfold exW at hw
    rw [if_neg (by omega), if_neg (by omega), if_pos u] at hw
    by_cases l : w % 65536 / 10 < 5
    · rw [if_pos l] at hw
      have hw : some (st, n, hh, if hh = nI 0 then S else ac1 w S) = some m' := hw
      have hw := Option.some.inj hw
      subst hw
      have h' := h
      obtain ⟨g1, g2, ⟨g4, g5⟩, g6, g7, g8, g9⟩ := h'
      have g5 : x.1 v0 5 = hh := g5
      unfold wX9_ask
      rw [g5]
      refine ⟨fun q => ?_, fun q => ?_⟩
      · have q : hh = nI 0 := q
        rw [if_pos q] at k
        exact k x h hb (by show n ≤ i + 1; omega) rn.rfl'
      · have q : ¬ hh = nI 0 := q
        rw [if_neg q] at k
        have ed : nI (w % 65536) / nI 10 = nI (w % 65536 / 10) := q_div (by omega) (by decide) (by decide)
        have em : nI (w % 65536) - nI (w % 65536 / 10) * nI 10 = nI (w % 65536 % 10) := by
          rw [pk_mul, pk_sub (by omega)]; congr 1; omega
        rw [ed, em]
        have c5 : (5 : Int32) = nI 5 := rfl
        rw [c5, f_below, jx_I l (by decide), cl_nI (by omega)]
        refine y1 ⟨(vpi l (by decide)).mpr trivial, (vpi l (by decide)).mpr trivial, ?_⟩
        have a1 : ac1 w S = (S.1, updI S.2.1 (w % 65536 / 10) (imin 9 (S.2.1 (w % 65536 / 10) + nI (w % 65536 % 10))), S.2.2) := by unfold ac1; rw [if_pos u]
        rw [a1] at k
        refine k _ (PM_S (m := (st, n, hh, S)) h _ ⟨fun c k a b d e => by simp (disch := omega) only [wr_ne], rfl⟩ (fun k hk => by simp (disch := omega) only [wr_ne]) (by rw [wr_n (by omega)]) (by rw [wr_n (by omega)]; exact g4) (by rw [wr_n (by omega)]; exact g5) (by rw [wr_n (by omega)]; exact g6) (fun j hj => ?_) (by rw [wr_n (by omega)]; exact g8) (fun i hi => by rw [wr_n (by omega)]; exact g9 i hi)) hb (by show n ≤ i + 1; omega) ⟨fun c k a b d e => by simp (disch := omega) only [wr_ne], rfl⟩
        show _ = updI S.2.1 (w % 65536 / 10) _ j
        unfold updI
        by_cases q4 : j = w % 65536 / 10
        · rw [if_pos q4, q4, wr_e, g7 _ l]
        · rw [if_neg q4, wr_k q4]; exact g7 j hj
    · rw [if_neg l] at hw; cases hw
  · -- a code
    rw [qe 13 (by decide)] at u
    unfold exW at hw
    rw [if_neg (by omega), if_neg (by omega), if_neg (by omega), if_pos u] at hw
    by_cases l : S.2.2.length < 40
    · have hw : (if S.2.2.length < 40 then some (st, n, hh, if hh = nI 0 then S else ac1 w S) else none) = some m' := hw
      rw [if_pos l] at hw
      have hw := Option.some.inj hw
      subst hw
      have h' := h
      obtain ⟨g1, g2, ⟨g4, g5⟩, g6, g7, g8, g9⟩ := h'
      have g5 : x.1 v0 5 = hh := g5
      have g8 : x.1 v0 9 = nI S.2.2.length := g8
      unfold wX9_find
      rw [g5, g8]
      refine ⟨fun q => ?_, fun q => ?_⟩
      · have q : hh = nI 0 := q
        rw [if_pos q] at k
        exact k x h hb (by show n ≤ i + 1; omega) rn.rfl'
      · have q : ¬ hh = nI 0 := q
        rw [if_neg q] at k
        have a1 : ac1 w S = (S.1, S.2.1, S.2.2 ++ [nI (w % 65536)]) := by unfold ac1; rw [if_neg (by omega)]
        rw [a1] at k
        rw [cl_nI (by omega), wr_n (by omega), g8]
        simp only [nI_lit]
        rw [q_le (by omega) (by omega), nI_add]
        refine ⟨fun q2 => absurd q2 (by omega), fun _ => ⟨(vpi (by omega) (by omega)).mpr trivial, ?_⟩⟩
        refine k _ (PM_S (m := (st, n, hh, S)) h _ ⟨fun c k a b d e => by simp (disch := omega) only [wr_ne], rfl⟩ (fun k hk => by simp (disch := omega) only [wr_ne]) (by rw [wr_n (by omega), wr_n (by omega)]) (by simp (disch := omega) only [wr_ne]; exact g4) (by simp (disch := omega) only [wr_ne]; exact g5) (by simp (disch := omega) only [wr_ne]; exact g6) (fun j hj => by simp (disch := omega) only [wr_ne]; exact g7 j hj) ?_ (fun j hj => ?_)) hb (by show n ≤ i + 1; omega) ⟨fun c k a b d e => by simp (disch := omega) only [wr_ne], rfl⟩
        · rw [wr_e]
          show _ = nI (S.2.2 ++ [nI (w % 65536)]).length
          rw [List.length_append]; rfl
        · have hj : j < (S.2.2 ++ [nI (w % 65536)]).length := hj
          rw [List.length_append] at hj
          have hj : j < S.2.2.length + 1 := hj
          show _ = (S.2.2 ++ [nI (w % 65536)]).getD j 0
          rw [wr_n (by omega)]
          by_cases qq : j = S.2.2.length
          · subst qq
            rw [wr_e]
            simp [List.getD_eq_getElem?_getD]
          · rw [wr_k qq, g9 j (by show j < S.2.2.length; omega)]
            simp [List.getD_eq_getElem?_getD, List.getElem?_append_left (show j < S.2.2.length by omega)]
    · have hw : (if S.2.2.length < 40 then some (st, n, hh, if hh = nI 0 then S else ac1 w S) else none) = some m' := hw
      rw [if_neg l] at hw; cases hw
theorem c_run {s v0 v1 : Nat} {e : Nat → Int32} {x : ab_X} {c : List Nat} {mf : MS} (hs : s < 4) (hT : exT s e c ([], 0, nI 0, S0) = some mf) (h1 : x.1 v0 1 = nI c.length) (h2 : stC (x.1 (v0 + 1)) c) (hc : c.length ≤ 200) (hlet : ∀ k, k < slen (2000000 + s) → x.1 v1 k = e (sbN s k)) (hv : v1 < v0 ∨ v0 + 4 < v1) {K : ab_X → Prop} (k : ∀ z, rn v0 x z → PM v0 z c mf → K z) : wX9_run v0 v1 x K := by
  unfold wX9_run
  refine c_fill (by decide) (fun y y1 y2 y3 y4 => ?_)
  have y1' : ∀ d j, d ≠ v0 + 3 → y.1 d j = (wr (wr (wr (wr (wr x v0 3 0) v0 4 0) v0 5 0) v0 6 0) v0 9 0).1 d j := fun d j hd => by rw [y1 d hd]
  have fy : rn v0 x y := by
    refine ⟨fun c k a b d f => ?_, y2⟩
    rw [y1' c k d]
    simp (disch := omega) only [wr_ne]
  have P0 : PM v0 y c ([], 0, nI 0, S0) := by
    refine ⟨⟨?_, ?_⟩, ⟨?_, trivial, by decide⟩, ⟨?_, ?_⟩, ?_, fun j hj => y3 j hj, ?_, fun i hi => absurd hi (Nat.not_lt_zero i)⟩
    · rw [y1' _ _ (by omega)]; simp (disch := omega) only [wr_ne]; exact h1
    · intro i hi
      rw [y1' _ _ (by omega)]; simp (disch := omega) only [wr_ne]; exact h2 i hi
    · rw [y1' _ _ (by omega)]; simp (disch := omega) only [wr_ne]; rw [wr_e]; rfl
    · rw [y1' _ _ (by omega)]; simp (disch := omega) only [wr_ne]; rw [wr_e]; rfl
    · rw [y1' _ _ (by omega)]; simp (disch := omega) only [wr_ne]; rw [wr_e]; rfl
    · rw [y1' _ _ (by omega)]; simp (disch := omega) only [wr_ne]; rw [wr_e]; rfl
    · rw [y1' _ _ (by omega)]; rw [wr_e]; rfl
  refine Lp2.ind (fun ii a z => ∃ i m, a = nI i ∧ i ≤ c.length ∧ ii = c.length - i ∧ PM v0 z c m ∧ isB m.2.2.1 ∧ m.2.1 ≤ i ∧ rn v0 x z ∧ exT s e (c.drop i) m = some mf) c.length ⟨0, ([], 0, nI 0, S0), rfl, Nat.zero_le _, rfl, P0, isB_0, Nat.le_refl _, fy, hT⟩ ?_
  rintro ii a z ⟨i, m, rfl, hi, hii, hz, hb, hn, fz, hE⟩ L hL
  by_cases q : i < c.length
  · rw [drop_c q] at hE
    have hE : (match exW s e (c.getD i 0) m with | some t => exT s e (c.drop (i + 1)) t | none => none) = some mf := hE
    cases hx : exW s e (c.getD i 0) m with
    | none => rw [hx] at hE; cases hE
    | some m' =>
      rw [hx] at hE
      refine c_step1 hs hz hb q hc hn (fun k hk => ?_) hx (fun g hg hb' hn' fg => ?_)
      · rw [fz.1 _ _ (by omega) (by omega) (by omega) (by omega)]; exact hlet k hk
      · exact hL _ _ _ (by omega) ⟨i + 1, m', rfl, by omega, rfl, hg, hb', hn', fz.tr fg, hE⟩
  · have e0 : i = c.length := by omega
    subst e0
    rw [List.drop_length] at hE
    have hE := Option.some.inj hE
    subst hE
    unfold lX9_run_35
    rw [hz.1.1, q_le (by omega) (by omega)]
    exact ⟨fun _ => k z fz hz, fun u => absurd (Nat.le_refl _) u⟩
