/-! A MINUTE, 5: who leaves. -/
def TXV (f : Nat → Int32) (len p1 : Int32) (pg : Nat → Int32) (cv : List Nat × ((Nat → Int32) → Int32)) : Prop := ∃ B n q, TX B n 1 ∧ len = nI n ∧ (∀ i, i < n → f (0 + i) = s8 (B i)) ∧ pLv B n 0 = (q, some cv) ∧ p1 = nI cv.1.length ∧ stC pg cv.1 ∧ cv.1.length ≤ 200
noncomputable def lvT (Y : Nat → Nat → Int32) : List Nat × ((Nat → Int32) → Int32) := @Classical.epsilon _ ⟨([], fun _ => 0)⟩ (TXV (Y 302) (Y 246 73) (Y 74 1) (Y (74 + 1)))
theorem lvT_of {Y : Nat → Nat → Int32} (h : txAt Y 1 302 0 (Y 246 73) 74) : TXV (Y 302) (Y 246 73) (Y 74 1) (Y (74 + 1)) (lvT Y) := by
  apply Classical.epsilon_spec (p := TXV (Y 302) (Y 246 73) (Y 74 1) (Y (74 + 1)))
  obtain ⟨B, n, q, c, t, h1, h2, h3, h4, h5, h6⟩ := h
  unfold pA at h3
  rw [if_pos rfl] at h3
  cases hx : pLv B n 0 with
  | mk q1 r1 =>
    rw [hx] at h3
    cases r1 with
    | none => cases h3
    | some cv =>
      obtain ⟨c1, v1⟩ := cv
      injection h3 with u1 u2
      injection u2 with u2
      have u2 : c1 = c := u2
      subst u2
      exact ⟨(c1, v1), B, n, q1, t, h1, h2, hx, h4, h5, h6⟩
theorem TXV.ok {f : Nat → Int32} {len p1 : Int32} {pg : Nat → Int32} {cv : List Nat × ((Nat → Int32) → Int32)} (h : TXV f len p1 pg cv) : (∀ e, isB (cv.2 e)) ∧ rOK 1 cv.1 cv.2 22 := by
  obtain ⟨B, n, q, t, -, -, h3, -⟩ := h
  have hB : ∀ i, i < n → B i < 256 := t.2.2
  unfold pLv at h3
  have wx := pCo_W hB t.2.1 0 (Nat.zero_le _)
  cases hx : pCo B n 1 0 with
  | mk q1 r1 =>
    rw [hx] at h3
    cases r1 with
    | none => cases h3
    | some r1 =>
      obtain ⟨c, v⟩ := r1
      obtain ⟨a1, a2, a3, a4, a5⟩ := (wx q1).2 c v hx
      by_cases e : cB B n q1 = 256
      · simp only [if_pos e] at h3
        injection h3 with u1 u2
        injection u2 with u2
        rw [← u2]
        exact ⟨a4, a5⟩
      · simp only [if_neg e] at h3
        cases h3
def lL (Y : Nat → Nat → Int32) (j h r i : Nat) : Int32 := if i = 0 then nI (r / nv Y 257 h) else if i = 1 then nI 100 * ld Y h (r / nv Y 257 h) / nI (brN Y h) else if i = 2 then Y 246 1 - Y 293 j else if i = 3 then Y 266 (24 * h + r) else if i = 4 then Y 282 j else nI (bg Y h)
def eL (Y : Nat → Nat → Int32) (j h r c : Nat) : Int32 := lL Y j h r (kxI 1 c).toNatClampNeg
theorem kx_1 : ∀ i, i < 6 → kxI 1 (sbN 1 i) = nI i := by decide +kernel
theorem eL_s {Y : Nat → Nat → Int32} {j h r i : Nat} (hi : i < 6) : eL Y j h r (sbN 1 i) = lL Y j h r i := by
  unfold eL; rw [kx_1 i hi, cl_nI (by omega)]
noncomputable def lvV (Y : Nat → Nat → Int32) (j h r : Nat) : Int32 := if Y 246 73 = -nI 1 then nI 0 else (lvT Y).2 (eL Y j h r)
theorem lv_d {Y : Nat → Nat → Int32} (ht : InvT Y) : (Y 246 73 = -nI 1 ∧ Y 74 1 = nI 0) ∨ (¬ Y 246 73 = -nI 1 ∧ txAt Y 1 302 0 (Y 246 73) 74) := by
  rcases ht.2.2.1 with a | a
  · exact Or.inl a
  · refine Or.inr ⟨?_, a⟩
    obtain ⟨B, n, q, c, t, h1, -⟩ := a
    rw [h1, n1_eq' (by have := t.1; omega)]
    exact id
theorem lvV_B {Y : Nat → Nat → Int32} (ht : InvT Y) (j h r : Nat) : isB (lvV Y j h r) := by
  unfold lvV
  rcases lv_d ht with ⟨a, -⟩ | ⟨a, b⟩
  · rw [if_pos a]; exact isB_0
  · rw [if_neg a]; exact (lvT_of b).ok.1 _
theorem c_leaving {x : ab_X} {Y : Nat → Nat → Int32} {D : Nat → UInt64} (r : RR x.1 Y D) (w : WW Y) (ht : InvT Y) (kt : keepT Y x.1) {j h r' : Nat} (hj : j < nv Y 246 58) (hh : h < nv Y 246 31) (hr : r' < nv Y 256 h * nv Y 257 h) {K : Int32 → ab_X → Prop} (k : ∀ z : ab_X, (∀ d, d < 74 ∨ 79 < d → z.1 d = x.1 d) → keepT x.1 z.1 → z.2 = x.2 → K (lvV Y j h r') z) : wX0_isLeaving (82 + j) (30 + 3 * h) (nI r') x K := by
  have b31 := w.b31
  have b58 := w.b58
  obtain ⟨t1, t2, t3, t4, -⟩ := r.ho.2.2.1 h hh
  obtain ⟨v1, v2, v3, v3', v4, v4', -⟩ := w.ho.1 h hh
  obtain ⟨r0, r1, r2, r3, r4, r5, r6, r7, r8, r9, r10, r11, r12, r13, r14, -⟩ := r.cr.1 j hj
  have u0 := (r.ho.1 h (by omega)).1
  have l3 := v3.2
  have l4 := v4.2
  have rl := rm_le w.tw hh
  have f6 : r' / nv Y 257 h < 6 := by
    have : r' / nv Y 257 h < nv Y 256 h := (Nat.div_lt_iff_lt_mul (by omega)).mpr hr
    omega
  have c0 : ∀ j, j < 11 → vp_in (nI j) 11 := fun j hj => (vpi hj (by decide)).mpr trivial
  unfold wX0_isLeaving wX4_floorOf
  rw [t4, v4.1]
  simp only [nI_lit]
  rw [q_le (by omega) (by omega), q_eq (by omega) (by omega), q_div (by omega) (by omega) (by omega), cl_nI (by decide)]
  refine ⟨fun _ => ⟨by omega, ?_⟩, fun u => absurd (by omega) u⟩
  refine c_limit r.ho w.tw hh ⟨c0 _ (by decide), ?_⟩
  obtain ⟨bb1, bb2⟩ := brN_b (Y := Y) w.tw hh
  rw [q_le (by omega) (by omega), q_eq (by omega) (by omega)]
  refine ⟨fun _ => ?_, fun u => absurd (by omega) u⟩
  have rw1 : ∀ {y : ab_X} {q : Nat} {v : Int32}, RR y.1 Y D → RR (wr y 79 q v).1 Y D := fun h => RR_wc w h (by unfold kC; omega) (by decide) (by decide)
  refine c_load (rw1 r).tr (by omega) f6 ⟨by omega, ?_⟩
  have e100 : ld Y h (r' / nv Y 257 h) * nI 100 = nI 100 * ld Y h (r' / nv Y 257 h) := Int32.mul_comm _ _
  rw [e100]
  unfold wX0_isLeaving_55 wX4_place
  simp only [nI_lit]
  have ep : nI h * nI 24 + nI r' = nI (24 * h + r') := by rw [pk_mul, nI_add, Nat.mul_comm]
  simp (disch := omega) only [cl_nI, wr_n, u0, ep, r.s1, r14, r4, (r.fi.1 (24 * h + r') (by omega)).1]
  refine ⟨c0 _ (by decide), c0 _ (by decide), (vpi (by omega) (by decide)).mpr trivial, c0 _ (by decide), c0 _ (by decide), ?_⟩
  refine c_burning (Y := Y) (v := 11) (rw1 (rw1 (rw1 (rw1 (rw1 r))))).tr w.tw hh ⟨c0 _ (by decide), ?_⟩
  have so : ∀ d, d ≠ 79 → (wr (wr (wr (wr (wr (wr x 79 0 (nI (r' / nv Y 257 h))) 79 1 (nI 100 * ld Y h (r' / nv Y 257 h) / nI (brN Y h))) 79 2 (Y 246 1 - Y 293 j)) 79 3 (Y 266 (24 * h + r'))) 79 4 (Y 282 j)) 79 5 (nI (bg Y h))).1 d = x.1 d := fun d hd => by simp (disch := omega) only [wr_n]
  have sl : ∀ i, i < 6 → (wr (wr (wr (wr (wr (wr x 79 0 (nI (r' / nv Y 257 h))) 79 1 (nI 100 * ld Y h (r' / nv Y 257 h) / nI (brN Y h))) 79 2 (Y 246 1 - Y 293 j)) 79 3 (Y 266 (24 * h + r'))) 79 4 (Y 282 j)) 79 5 (nI (bg Y h))).1 79 i = lL Y j h r' i := by
    intro i hi
    obtain rfl | rfl | rfl | rfl | rfl | rfl : i = 5 ∨ i = 4 ∨ i = 3 ∨ i = 2 ∨ i = 1 ∨ i = 0 := by omega
    · rw [wr_e]; rfl
    · rw [wr_k (by decide), wr_e]; rfl
    · rw [wr_k (by decide), wr_k (by decide), wr_e]; rfl
    · rw [wr_k (by decide), wr_k (by decide), wr_k (by decide), wr_e]; rfl
    · rw [wr_k (by decide), wr_k (by decide), wr_k (by decide), wr_k (by decide), wr_e]; rfl
    · rw [wr_k (by decide), wr_k (by decide), wr_k (by decide), wr_k (by decide), wr_k (by decide), wr_e]; rfl
  have s2 : (wr (wr (wr (wr (wr (wr x 79 0 (nI (r' / nv Y 257 h))) 79 1 (nI 100 * ld Y h (r' / nv Y 257 h) / nI (brN Y h))) 79 2 (Y 246 1 - Y 293 j)) 79 3 (Y 266 (24 * h + r'))) 79 4 (Y 282 j)) 79 5 (nI (bg Y h))).2 = x.2 := rfl
  generalize wr (wr (wr (wr (wr (wr x 79 0 (nI (r' / nv Y 257 h))) 79 1 (nI 100 * ld Y h (r' / nv Y 257 h) / nI (brN Y h))) 79 2 (Y 246 1 - Y 293 j)) 79 3 (Y 266 (24 * h + r'))) 79 4 (Y 282 j)) 79 5 (nI (bg Y h)) = y at so sl s2
  have run : ∀ cd st n' hb S, exT 1 (eL Y j h r') cd ([], 0, nI 0, S0) = some (st, n', hb, S) → Y 74 1 = nI cd.length → stC (Y (74 + 1)) cd → cd.length ≤ 200 → ((st = [] ∧ lvV Y j h r' = nI 0) ∨ st = [lvV Y j h r']) → wX9_run 74 79 y (fun x13 => wX9_holds 74 x13 (fun r14 => (isB r14 ∧ K r14 x13))) := by
    intro cd st n' hb S eT p1 p2 p3 hst
    refine c_run (s := 1) (by decide) eT ?_ (fun i hi => ?_) p3 (fun i hi => ?_) (by omega) (fun z fz pz => ?_)
    · rw [so _ (by omega), kt _ _ (by unfold tk; omega)]; exact p1
    · rw [so _ (by omega), kt _ _ (by unfold tk; omega)]; exact p2 i hi
    · have hi : i < 6 := hi
      rw [sl i hi, eL_s hi]
    · have fin : K (lvV Y j h r') z := by
        refine k z (fun d hd => funext (fun i => ?_)) (fun d i q => ?_) ?_
        · rw [fz.1 d i (by omega) (by omega) (by omega) (by omega), so d (by omega)]
        · unfold tk at q
          rw [fz.1 d i (by omega) (by omega) (by omega) (by omega), so d (by omega)]
        · rw [fz.2, s2]
      have bv := lvV_B ht j h r'
      unfold wX9_holds
      have p3' : z.1 74 3 = nI st.length := pz.2.1.1
      rcases hst with ⟨e1, e2⟩ | e1
      · rw [e1] at p3'
        rw [e2] at fin
        rw [p3']
        exact ⟨fun _ => ⟨isB_0, fin⟩, fun u => absurd (by decide) u⟩
      · have p4 : SK (z.1 (74 + 2)) st := pz.2.1.2.1
        rw [e1] at p3' p4
        have p4 : z.1 76 0 = lvV Y j h r' := p4.1
        have p3' : z.1 74 3 = nI 1 := p3'
        rw [p3']
        have c00 : Int32.toNatClampNeg 0 = 0 := by decide
        have e76 : z.1 (74 + 2) (Int32.toNatClampNeg 0) = lvV Y j h r' := by rw [c00]; exact p4
        refine ⟨fun u => absurd u (by decide), fun _ => ⟨(vpi (by decide) (by decide)).mpr trivial, fun u => ?_, fun u => ?_⟩⟩
        · rw [e76] at u
          have u : lvV Y j h r' = nI 0 := u
          rw [u] at fin
          exact ⟨isB_0, fin⟩
        · rw [e76] at u
          rcases bv with e | e
          · exact absurd e u
          · have e : lvV Y j h r' = nI 1 := e
            rw [e] at fin
            exact ⟨isB_1, fin⟩
  rcases lv_d ht with ⟨a, b⟩ | ⟨a, b⟩
  · refine run [] [] 0 (nI 0) S0 rfl b stC_nil (by decide) (Or.inl ⟨rfl, ?_⟩)
    unfold lvV; rw [if_pos a]
  · have tv := lvT_of b
    have ok := tv.ok
    obtain ⟨B, n, q, t, e1, e2, e3, e4, e5, e6⟩ := tv
    refine run (lvT Y).1 [(lvT Y).2 (eL Y j h r')] 0 (nI 0) S0 (exT_E _ _ _ _ (ok.2 _ [] (by decide))) e4 e5 e6 (Or.inr ?_)
    unfold lvV; rw [if_neg a]
theorem m_leaves {x : ab_X} {Y : Nat → Nat → Int32} (m : keepM Y x.1) (w : WW Y) (ht : InvT Y) (kt : keepT Y x.1) {j h r' : Nat} (hj : j < nv Y 246 58) (hh : h < nv Y 246 31) (hr : r' < nv Y 256 h * nv Y 257 h) {K : Int32 → ab_X → Prop} (k : ∀ z, rgB x z → K (lvV Y j h r') z) : wX12_leaves (nI j) (nI h) (nI r') x K := by
  have b31 := w.b31
  have b58 := w.b58
  obtain ⟨v1, v2, v3, v3', v4, v4', -⟩ := w.ho.1 h hh
  have l3 := v3.2
  have l4 := v4.2
  have rl := rm_le w.tw hh
  have f6 : r' / nv Y 257 h < 6 := by
    have : r' / nv Y 257 h < nv Y 256 h := (Nat.div_lt_iff_lt_mul (by omega)).mpr hr
    omega
  have c0 : ∀ j, j < 128 → vp_in (nI j) 128 := fun j hj => (vpi hj (by decide)).mpr trivial
  have vj : vp_in (nI j) 16 := (vpi (by omega) (by decide)).mpr trivial
  unfold wX12_leaves
  have e73 : x.1 246 73 = Y 246 73 := m.s73
  rw [e73]
  refine ⟨fun q => ?_, fun q => by
    have q : Y 246 73 = -nI 1 := q
    have k' := k x rgB.rfl'
    unfold lvV at k'
    rw [if_pos q] at k'
    exact k'⟩
  have q : ¬ Y 246 73 = -nI 1 := q
  refine m_floorOf m.f w.tw hh (by omega) ?_
  simp only [nI_lit]
  refine ⟨c0 _ (by decide), ?_⟩
  refine m_load ((rgB_7 rgB.rfl').m m).f (by omega) f6 ?_
  refine m_bears ((rgB_7 rgB.rfl').m m).f w.tw hh ?_
  obtain ⟨bb1, bb2⟩ := brN_b (Y := Y) w.tw hh
  have ep : nI 24 * nI h + nI r' = nI (24 * h + r') := by rw [pk_mul, nI_add]
  simp (disch := omega) only [cl_nI, wr_n, ep, m.s1, m.c293, m.c266, m.c282]
  refine ⟨by rw [q_eq (by omega) (by omega)]; omega, c0 _ (by decide), vj, c0 _ (by decide), (vpi (by omega) (by decide)).mpr trivial, c0 _ (by decide), vj, c0 _ (by decide), ?_⟩
  have f5 : rgB x (wr (wr (wr (wr (wr x 307 118 (nI (r' / nv Y 257 h))) 307 98 (nI 100 * ld Y h (r' / nv Y 257 h) / nI (brN Y h))) 307 101 (Y 246 1 - Y 293 j)) 307 116 (Y 266 (24 * h + r'))) 307 109 (Y 282 j)) := rgB_7 (rgB_7 (rgB_7 (rgB_7 (rgB_7 rgB.rfl'))))
  refine m_burning (f5.m m).f w.tw hh ⟨c0 _ (by decide), ?_⟩
  have fz := rgB_7 (k := 103) (v := nI (bg Y h)) f5
  have s0 : sbN 1 0 = 118 := by decide +kernel
  have s1 : sbN 1 1 = 98 := by decide +kernel
  have s2 : sbN 1 2 = 101 := by decide +kernel
  have s3 : sbN 1 3 = 116 := by decide +kernel
  have s4 : sbN 1 4 = 109 := by decide +kernel
  have s5 : sbN 1 5 = 103 := by decide +kernel
  have lz : ∀ i, i < 6 → (wr (wr (wr (wr (wr (wr x 307 118 (nI (r' / nv Y 257 h))) 307 98 (nI 100 * ld Y h (r' / nv Y 257 h) / nI (brN Y h))) 307 101 (Y 246 1 - Y 293 j)) 307 116 (Y 266 (24 * h + r'))) 307 109 (Y 282 j)) 307 103 (nI (bg Y h))).1 307 (sbN 1 i) = lL Y j h r' i := by
    intro i hi
    obtain rfl | rfl | rfl | rfl | rfl | rfl : i = 5 ∨ i = 4 ∨ i = 3 ∨ i = 2 ∨ i = 1 ∨ i = 0 := by omega
    · rw [s5, wr_e]; rfl
    · rw [s4]; simp (disch := decide) only [wr_ne]; rw [wr_e]; rfl
    · rw [s3]; simp (disch := decide) only [wr_ne]; rw [wr_e]; rfl
    · rw [s2]; simp (disch := decide) only [wr_ne]; rw [wr_e]; rfl
    · rw [s1]; simp (disch := decide) only [wr_ne]; rw [wr_e]; rfl
    · rw [s0]; simp (disch := decide) only [wr_ne]; rw [wr_e]; rfl
  generalize wr (wr (wr (wr (wr (wr x 307 118 (nI (r' / nv Y 257 h))) 307 98 (nI 100 * ld Y h (r' / nv Y 257 h) / nI (brN Y h))) 307 101 (Y 246 1 - Y 293 j)) 307 116 (Y 266 (24 * h + r'))) 307 109 (Y 282 j)) 307 103 (nI (bg Y h)) = y at fz lz
  have b := (lv_d ht).resolve_left (fun u => q u.1)
  have tv := lvT_of b.2
  have ok := tv.ok
  obtain ⟨B, n, q', t, e1, e2, e3, e4, e5, e6⟩ := tv
  have n200 := t.1
  have my := fz.m m
  have y73 : x.1 246 73 = nI n := by rw [e73]; exact e1
  have tr : TR8 n 302 0 := ⟨⟨by decide, by decide, 200, ⟨by decide, by decide⟩, by omega, by decide⟩, by decide, by decide⟩
  rw [y73]
  refine m_goThr (s := 1) t tr (fun i hi => ?_) (fun q2 hq2 z gz az r => ?_) (fun s1 => absurd rfl s1) (fun _ q2 c v hq2 z gz az => ?_)
  · rw [fz.1 _ _ (by omega) (by omega) (by omega) (by omega), kt _ _ (by unfold tk; omega)]; exact e2 i hi
  · exfalso
    unfold pA at hq2
    rw [if_pos rfl, e3] at hq2
    cases hq2
  · rw [e3] at hq2
    injection hq2 with u1 u2
    injection u2 with u2
    have cg : v (y.1 307) = lvV Y j h r' := by
      have ev : v = (lvT Y).2 := by rw [u2]
      unfold lvV
      rw [if_neg q, ev]
      refine ok_cg (s := 1) (fun i hi => ?_) (by decide) ok.2
      have hi : i < 6 := hi
      rw [lz i hi, eL_s hi]
    rw [cg]
    exact ⟨lvV_B ht _ _ _, k z (fz.tr ⟨fun c k a b d e => gz.1 c k a d e, gz.2⟩)⟩
