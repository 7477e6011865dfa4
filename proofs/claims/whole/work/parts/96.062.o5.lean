/-! ORDERS: both ask them; asks, why. -/
def mxF (Y : Nat → Nat → Int32) (c : Int32) : Nat → Int32
  | 0 => nI 0
  | n + 1 => if Y 254 n = c then imax (mxF Y c n) (Y 256 n) else mxF Y c n
def nhF (Y : Nat → Nat → Int32) (c : Int32) : Nat → Int32
  | 0 => nI 0
  | n + 1 => if Y 254 n = c then nhF Y c n + nI 1 else nhF Y c n
def hrI (v : Int32) : Int32 := v / nI 60 - v / nI 60 / nI 24 * nI 24
def lO (Y : Nat → Nat → Int32) (c wd' : Int32) (i : Nat) : Int32 := if i = 0 then wd' else if i = 1 then hrI (Y 246 1) else if i = 2 then mxF Y c (nv Y 246 31) else if i = 3 then nhF Y c (nv Y 246 31) else if i = 4 then fo Y c (ptI (Y 246 1)) else if i = 9 then opO Y c (nv Y 246 92) else rdy Y (nI (i - 5))
def eO (Y : Nat → Nat → Int32) (c wd' : Int32) (ch : Nat) : Int32 := lO Y c wd' (kxI 0 ch).toNatClampNeg
theorem kx_0 : ∀ i, i < 10 → kxI 0 (sbN 0 i) = nI i := by decide +kernel
theorem eO_s {Y : Nat → Nat → Int32} {c wd' : Int32} {i : Nat} (hi : i < 10) : eO Y c wd' (sbN 0 i) = lO Y c wd' i := by
  unfold eO; rw [kx_0 i hi, cl_nI (by omega)]
noncomputable def ordL (Y : Nat → Nat → Int32) : List CL := txL (Y 300) (200 * (nv Y 246 71 - 1)) (Y 303 (nv Y 246 71 - 1)) (Y 69 1) (Y (69 + 1)) 0
noncomputable def oS (Y : Nat → Nat → Int32) (c wd' : Int32) : ST := if nv Y 246 71 = 0 then S0 else txE (eO Y c wd') 0 (ordL Y) S0
theorem lp_sum' {F : (Int32 → Int32 → Prop) → Int32 → Int32 → Prop} {n : Nat} {g : Nat → Int32} (hs : ∀ i s L, i < n → L (s + g i) (nI (i + 1)) → F L s (nI i)) (he : ∀ L, F L (sm g n) (nI n)) : Lp2 F 0 0 := Lp2.seq n (fun i => sm g i) nI rfl rfl (fun i hi L h => hs i _ L hi h) he
theorem c_readOrders {x : ab_X} {Y : Nat → Nat → Int32} {D : Nat → UInt64} {c wd' : Int32} (r : RR x.1 Y D) (w : WW Y) (ht : InvT Y) (kt : keepT Y x.1) {K : ab_X → Prop} (k : ∀ z, keepC x.1 z.1 → keepT x.1 z.1 → smM x z → z.1 69 6 = (oS Y c wd').1 → (∀ j, j < 5 → z.1 72 j = (oS Y c wd').2.1 j) → K z) : wX0_readOrders c wd' x K := by
  have b31 := w.b31
  have b1 := w.b1
  have c0 : ∀ j, j < 11 → vp_in (nI j) 11 := fun j hj => (vpi hj (by decide)).mpr trivial
  have fin : ∀ y : ab_X, (∀ d, d ≠ 79 → y.1 d = x.1 d) → y.2 = x.2 → (∀ i, i < 10 → y.1 79 i = lO Y c wd' i) → wX9_run 69 79 y (fun x15 => K x15) := by
    intro y y1 y2 y3
    have run : ∀ cd S, (∃ h n', exT 0 (eO Y c wd') cd ([], 0, nI 0, S0) = some ([], n', h, S)) → Y 69 1 = nI cd.length → stC (Y (69 + 1)) cd → cd.length ≤ 200 → S = oS Y c wd' → wX9_run 69 79 y (fun x15 => K x15) := by
      rintro cd S ⟨h', n', eT⟩ p1 p2 p3 eS
      refine c_run (s := 0) (by decide) eT ?_ (fun i hi => ?_) p3 (fun i hi => ?_) (by omega) (fun z fz pz => ?_)
      · rw [y1 _ (by omega), kt _ _ (by unfold tk; omega)]; exact p1
      · rw [y1 _ (by omega), kt _ _ (by unfold tk; omega)]; exact p2 i hi
      · have hi : i < 10 := hi
        rw [y3 i hi, eO_s hi]
      · have fr : ∀ d j, d < 69 ∨ 79 < d → z.1 d j = x.1 d j := fun d j hd => by rw [fz.1 d j (by omega) (by omega) (by omega) (by omega), y1 d (by omega)]
        rw [eS] at pz
        refine k z ⟨fun d u => funext (fun i => fr d i (by unfold kC at u; omega)), fr _ _ (by omega), fun d f p u => fr _ _ (by omega)⟩ (fun d i u => ?_) ⟨fun d u => funext (fun i => fr d i (by omega)), by rw [fz.2, y2]⟩ pz.2.2.2.1 pz.2.2.2.2.1
        unfold tk at u
        rw [fz.1 d i (by omega) (by omega) (by omega) (by omega), y1 d (by omega)]
    by_cases e : nv Y 246 71 = 0
    · refine run [] S0 ⟨nI 0, 0, rfl⟩ (ht.1 e) stC_nil (by decide) ?_
      unfold oS; rw [if_pos e]
    · have tl := txL_of (s := 0) (by decide) (ht.2.1 (by omega))
      have ok := tl.ok
      obtain ⟨B, n, q', t, a1, a2, a3, a4, a5, a6⟩ := tl
      obtain ⟨h', hb', eT⟩ := exT_tx (e := eO Y c wd') (ordL Y) 0 (nI 0) S0 ok.1 isB_0 (by have : (ordL Y).length ≤ 40 := ok.2; have e0 : S0.2.2.length = 0 := rfl; omega)
      refine run (cdT (ordL Y)) _ ⟨_, _, eT⟩ a4 a5 a6 ?_
      unfold oS; rw [if_neg e]
  unfold wX0_readOrders
  refine Lp3.seq (nv Y 246 31) (mxF Y c) (nhF Y c) nI rfl rfl rfl ?_ ?_
  · intro i hi L hL
    obtain ⟨t1, t2, t3, -⟩ := r.ho.2.2.1 i hi
    unfold lX0_readOrders_8
    have e2 : nI i + 1 = nI (i + 1) := nI_add i 1
    rw [r.s31, w.v31, q_le (by omega) (by omega), cl_nI (by omega), t1, t3, e2]
    refine ⟨fun u => absurd u (by omega), fun _ => ⟨(vpi (by omega) (by decide)).mpr trivial, fun q => ?_, fun q => ⟨(vpi (by omega) (by decide)).mpr trivial, ?_⟩⟩⟩
    · have a : mxF Y c (i + 1) = mxF Y c i := if_neg q
      have b : nhF Y c (i + 1) = nhF Y c i := if_neg q
      rw [a, b] at hL; exact hL
    · have a : mxF Y c (i + 1) = imax (mxF Y c i) (Y 256 i) := if_pos q
      have b : nhF Y c (i + 1) = nhF Y c i + nI 1 := if_pos q
      rw [a, b] at hL; exact hL
  intro L
  unfold lX0_readOrders_8 wX6_partOf
  rw [r.s31, w.v31]
  simp only [nI_lit]
  rw [q_le (by omega) (by omega)]
  refine ⟨fun _ => ?_, fun u => absurd (Nat.le_refl _) u⟩
  simp (disch := omega) only [cl_nI, wr_n, r.s1]
  refine ⟨c0 _ (by decide), c0 _ (by decide), c0 _ (by decide), c0 _ (by decide), ?_⟩
  have rw1 : ∀ {y : ab_X} {j : Nat} {v : Int32}, RR y.1 Y D → RR (wr y 79 j v).1 Y D := fun h => RR_wc w h (by unfold kC; omega) (by decide) (by decide)
  refine c_false (Y := Y) (D := D) (rw1 (rw1 (rw1 (rw1 r)))) w ⟨c0 _ (by decide), ?_⟩
  have st : ∀ i, i < 5 → (wr (wr (wr (wr (wr x 79 0 wd') 79 1 (Y 246 1 / nI 60 - Y 246 1 / nI 60 / nI 24 * nI 24)) 79 2 (mxF Y c (nv Y 246 31))) 79 3 (nhF Y c (nv Y 246 31))) 79 4 (fo Y c (Y 246 1 / nI 360 - Y 246 1 / nI 360 / nI 4 * nI 4))).1 79 i = lO Y c wd' i := by
    intro i hi
    obtain rfl | rfl | rfl | rfl | rfl : i = 4 ∨ i = 3 ∨ i = 2 ∨ i = 1 ∨ i = 0 := by omega
    · rw [wr_e]; rfl
    · rw [wr_k (by decide), wr_e]; rfl
    · rw [wr_k (by decide), wr_k (by decide), wr_e]; rfl
    · rw [wr_k (by decide), wr_k (by decide), wr_k (by decide), wr_e]; rfl
    · rw [wr_k (by decide), wr_k (by decide), wr_k (by decide), wr_k (by decide), wr_e]; rfl
  have so : ∀ d, d ≠ 79 → (wr (wr (wr (wr (wr x 79 0 wd') 79 1 (Y 246 1 / nI 60 - Y 246 1 / nI 60 / nI 24 * nI 24)) 79 2 (mxF Y c (nv Y 246 31))) 79 3 (nhF Y c (nv Y 246 31))) 79 4 (fo Y c (Y 246 1 / nI 360 - Y 246 1 / nI 360 / nI 4 * nI 4))).1 d = x.1 d := fun d hd => by rw [wr_n hd, wr_n hd, wr_n hd, wr_n hd, wr_n hd]
  refine Lp2.ind (fun ii a y => ∃ j, j ≤ 4 ∧ ii = 4 - j ∧ a = nI j ∧ (∀ d, d ≠ 79 → y.1 d = x.1 d) ∧ y.2 = x.2 ∧ (∀ i, i < 5 + j → y.1 79 i = lO Y c wd' i)) 4 ⟨0, by decide, rfl, rfl, so, rfl, st⟩ ?_
  rintro ii a y ⟨j, hj, hii, rfl, y1, y2, y3⟩ L hL
  have ry : RR y.1 Y D := RR_keep w r ⟨fun d q => y1 d (fun e => by rw [e] at q; unfold kC at q; omega), by rw [y1 158 (by decide)], fun d f p q => by rw [y1 _ (by omega)]⟩ keepM.rfl' (fun _ _ => rfl)
  unfold lX0_readOrders_123
  simp only [nI_lit]
  rw [q_le (by omega) (by omega)]
  refine ⟨fun q => ?_, fun q => ?_⟩
  · have e4 : j = 4 := by omega
    subst e4
    refine c_callsAre ry w (c_openAt ry w ?_)
    have last : ∀ s3, s3 = (if oaI Y c = -nI 1 then nI 0 else nI 1) → wX0_readOrders_175 (nI 9) (sm (fun h => b2 (Y 312 h = nI 0)) (nv Y 246 92)) s3 y K := by
      intro s3 e3
      unfold wX0_readOrders_175
      rw [e3, op_oth w c, cl_nI (by decide)]
      refine ⟨c0 _ (by decide), fin _ (fun d hd => by rw [wr_n hd]; exact y1 d hd) y2 (fun i hi => ?_)⟩
      by_cases e9 : i = 9
      · rw [e9, wr_e]; rfl
      · rw [wr_k e9]; exact y3 i (by omega)
    refine ⟨fun u => last _ ?_, fun u => last _ ?_⟩
    · rw [if_neg u]
    · rw [if_pos u]
  · refine c_ready ry w ?_
    rw [nI_add, nI_add, cl_nI (by omega)]
    refine ⟨c0 _ (by omega), hL (4 - (j + 1)) _ _ (by omega) ⟨j + 1, by omega, rfl, rfl, fun d hd => by rw [wr_n hd]; exact y1 d hd, y2, fun i hi => ?_⟩⟩
    by_cases e9 : i = 5 + j
    · rw [e9, wr_e]
      unfold lO
      rw [if_neg (by omega), if_neg (by omega), if_neg (by omega), if_neg (by omega), if_neg (by omega), if_neg (by omega), Nat.add_sub_cancel_left]
    · rw [wr_k e9]; exact y3 i (by omega)
theorem m_ordT {x : ab_X} {Y : Nat → Nat → Int32} {c wd' : Int32} (m : keepM Y x.1) (w : WW Y) (ht : InvT Y) (kt : keepT Y x.1) {y : ab_X} (fz : rgB x y) (lz : ∀ i, i < 10 → y.1 307 (sbN 0 i) = lO Y c wd' i) {K : ab_X → Prop} (k : ∀ z, rgB x z → z.1 246 75 = (oS Y c wd').1 → (∀ j, j < 5 → z.1 308 j = (oS Y c wd').2.1 j) → K z) : (nI (nv Y 246 71) ≤ nI 0 → Lp2 (lX12_askFor_270 K) (nI 0) (wr y 246 75 (nI 0))) ∧ (¬ nI (nv Y 246 71) ≤ nI 0 → (vp_in (nI (nv Y 246 71) - nI 1) 20 ∧ wX12_goThrough (nI 0) 300 (nI 200 * (nI (nv Y 246 71) - nI 1)) (x.1 303 (Int32.toNatClampNeg (nI (nv Y 246 71) - nI 1))) y (fun r20 x21 => K x21))) := by
  have b71 := w.b71
  rw [q_le (by omega) (by omega)]
  refine ⟨fun e => ?_, fun e => ?_⟩
  · have e0 : oS Y c wd' = S0 := by unfold oS; rw [if_pos (by omega)]
    rw [e0] at k
    refine Lp2.ind (fun ii a z => ∃ j, j ≤ 5 ∧ ii = 5 - j ∧ a = nI j ∧ rgB x z ∧ z.1 246 75 = nI 0 ∧ ∀ i, i < j → z.1 308 i = nI 0) 5 ⟨0, by decide, rfl, rfl, fz.tr ⟨fun c k a b d e => wr_ne (by omega), rfl, rfl, rfl⟩, wr_e, fun i hi => absurd hi (Nat.not_lt_zero i)⟩ ?_
    rintro ii a z ⟨j, hj, hii, rfl, f, z1, z2⟩ L hL
    unfold lX12_askFor_270
    simp only [nI_lit]
    rw [q_le (by omega) (by omega)]
    refine ⟨fun q => k z f z1 (fun i hi => z2 i (by omega)), fun q => ⟨(vpi (by omega) (by decide)).mpr trivial, ?_⟩⟩
    rw [cl_nI (by omega), nI_add]
    refine hL (5 - (j + 1)) _ _ (by omega) ⟨j + 1, by omega, rfl, rfl, f.tr ⟨fun c k a b d e => wr_ne (by omega), rfl, rfl, rfl⟩, by rw [wr_n (by decide)]; exact z1, fun i hi => ?_⟩
    by_cases q : i = j
    · rw [q, wr_e]
    · rw [wr_k q]; exact z2 i (by omega)
  · have tl := txL_of (s := 0) (by decide) (ht.2.1 (by omega))
    have ok := tl.ok
    obtain ⟨B, n, q', t, a1, a2, a3, a4, a5, a6⟩ := tl
    have my := fz.m m
    have ky : ∀ i, y.1 300 i = Y 300 i := fun i => by rw [fz.1 _ _ (by omega) (by omega) (by omega) (by omega), kt _ _ (by unfold tk; omega)]
    rw [pk_sub (by omega), cl_nI (by omega), pk_mul, m.c303, a1]
    refine ⟨(vpi (by omega) (by decide)).mpr trivial, ?_⟩
    have n200 := t.1
    have tr : TR8 n 300 (200 * (nv Y 246 71 - 1)) := ⟨⟨by decide, by decide, 4000, ⟨by decide, by decide⟩, by omega, by decide⟩, by decide, by decide⟩
    refine m_goThr (s := 0) t tr (fun i hi => by rw [ky]; exact a2 i hi) (fun q2 hq2 z gz az r => ?_) (fun _ q2 l hq2 z gz az rz r => ?_) (fun s1 => absurd s1 (by decide))
    · exfalso
      unfold pA at hq2
      rw [if_neg (by decide), a3] at hq2
      cases hq2
    · rw [a3] at hq2
      injection hq2 with u1 u2
      injection u2 with u2
      have cg : txE (y.1 307) 0 l S0 = oS Y c wd' := by
        unfold oS
        rw [if_neg (by omega), ← u2]
        refine txE_cg (s := 0) (fun i hi => ?_) _ _ _ ok.1
        have hi : i < 10 := hi
        rw [lz i hi, eO_s hi]
      rw [cg] at rz
      exact k z (fz.tr ⟨fun c k a b d e => gz.1 c k a d e, gz.2⟩) rz.1 rz.2.1
theorem m_askFor {x : ab_X} {Y : Nat → Nat → Int32} {c wd' : Int32} (m : keepM Y x.1) (w : WW Y) (ht : InvT Y) (kt : keepT Y x.1) {K : ab_X → Prop} (k : ∀ z, rgB x z → z.1 246 75 = (oS Y c wd').1 → (∀ j, j < 5 → z.1 308 j = (oS Y c wd').2.1 j) → K z) : wX12_askFor c wd' x K := by
  have b31 := w.b31
  have b92 := w.b92
  have b71 := w.b71
  have c0 : ∀ j, j < 128 → vp_in (nI j) 128 := fun j hj => (vpi hj (by decide)).mpr trivial
  unfold wX12_askFor
  refine Lp3.seq (nv Y 246 31) (mxF Y c) (nhF Y c) nI rfl rfl rfl ?_ ?_
  · intro i hi L hL
    unfold lX12_askFor_11
    have e2 : nI i + 1 = nI (i + 1) := nI_add i 1
    rw [m.s31, w.v31, q_le (by omega) (by omega), cl_nI (by omega), m.c254, m.c256, e2]
    refine ⟨fun u => absurd u (by omega), fun _ => ⟨(vpi (by omega) (by decide)).mpr trivial, fun q => ⟨(vpi (by omega) (by decide)).mpr trivial, ?_⟩, fun q => ?_⟩⟩
    · have a : mxF Y c (i + 1) = imax (mxF Y c i) (Y 256 i) := if_pos q
      have b : nhF Y c (i + 1) = nhF Y c i + nI 1 := if_pos q
      rw [a, b] at hL; exact hL
    · have a : mxF Y c (i + 1) = mxF Y c i := if_neg q
      have b : nhF Y c (i + 1) = nhF Y c i := if_neg q
      rw [a, b] at hL; exact hL
  intro L
  unfold lX12_askFor_11
  rw [m.s31, w.v31, q_le (by omega) (by omega)]
  refine ⟨fun _ => ?_, fun u => absurd (Nat.le_refl _) u⟩
  refine lp_sum' (n := nv Y 246 92) (g := fun k => b2 (Y 312 k = nI 0 ∧ ¬ Y 310 k = c)) ?_ ?_
  · intro i s L hi hL
    unfold lX12_askFor_58 wX12_askFor_94 wX12_askFor_95
    have e2 : nI i + 1 = nI (i + 1) := nI_add i 1
    have z0 : ∀ a : Int32, a + 0 = a := fun a => Int32.add_zero a
    rw [m.s92, w.v92, q_le (by omega) (by omega), cl_nI (by omega), m.c312, m.c310, e2]
    refine ⟨fun u => absurd u (by omega), fun _ => ⟨(vpi (by omega) (by decide)).mpr trivial, fun q => ?_, fun q => ⟨(vpi (by omega) (by decide)).mpr trivial, fun q1 => ?_, fun q1 => ?_⟩⟩⟩
    · rw [b2_f (fun u => q u.1)] at hL; exact hL
    · rw [b2_f (fun u => u.2 q1)] at hL; exact hL
    · rw [b2_t ⟨q, q1⟩] at hL; exact hL
  intro L
  unfold lX12_askFor_58 wX12_partOf
  rw [m.s92, w.v92]
  simp only [nI_lit]
  rw [q_le (by omega) (by omega)]
  refine ⟨fun _ => ?_, fun u => absurd (Nat.le_refl _) u⟩
  simp (disch := omega) only [cl_nI, wr_n, m.s1, m.s71, w.v71]
  refine ⟨c0 _ (by decide), c0 _ (by decide), c0 _ (by decide), c0 _ (by decide), ?_⟩
  have f4 : rgB x (wr (wr (wr (wr x 307 119 wd') 307 104 (Y 246 1 / nI 60 - Y 246 1 / nI 60 / nI 24 * nI 24)) 307 102 (mxF Y c (nv Y 246 31))) 307 107 (nhF Y c (nv Y 246 31))) := rgB_7 (rgB_7 (rgB_7 (rgB_7 rgB.rfl')))
  refine m_false (Y := Y) (f4.m m) w ⟨c0 _ (by decide), ?_⟩
  refine m_ready (Y := Y) ((rgB_7 f4).m m) w ⟨c0 _ (by decide), ?_⟩
  refine m_ready (Y := Y) ((rgB_7 (rgB_7 f4)).m m) w ⟨c0 _ (by decide), ?_⟩
  refine m_ready (Y := Y) ((rgB_7 (rgB_7 (rgB_7 f4))).m m) w ⟨c0 _ (by decide), ?_⟩
  refine m_ready (Y := Y) ((rgB_7 (rgB_7 (rgB_7 (rgB_7 f4)))).m m) w ⟨c0 _ (by decide), c0 _ (by decide), ?_⟩
  have fz := rgB_7 (k := 111) (v := sm (fun k => b2 (Y 312 k = nI 0 ∧ ¬ Y 310 k = c)) (nv Y 246 92)) (rgB_7 (k := 99) (v := rdy Y (nI 3)) (rgB_7 (k := 108) (v := rdy Y (nI 2)) (rgB_7 (k := 115) (v := rdy Y (nI 1)) (rgB_7 (k := 112) (v := rdy Y (nI 0)) (rgB_7 (k := 97) (v := fo Y c (Y 246 1 / nI 360 - Y 246 1 / nI 360 / nI 4 * nI 4)) f4)))))
  have s0 : sbN 0 0 = 119 := by decide +kernel
  have s1 : sbN 0 1 = 104 := by decide +kernel
  have s2 : sbN 0 2 = 102 := by decide +kernel
  have s3 : sbN 0 3 = 107 := by decide +kernel
  have s4 : sbN 0 4 = 97 := by decide +kernel
  have s5 : sbN 0 5 = 112 := by decide +kernel
  have s6 : sbN 0 6 = 115 := by decide +kernel
  have s7 : sbN 0 7 = 108 := by decide +kernel
  have s8' : sbN 0 8 = 99 := by decide +kernel
  have s9 : sbN 0 9 = 111 := by decide +kernel
  have lz : ∀ i, i < 10 → (wr (wr (wr (wr (wr (wr (wr (wr (wr (wr x 307 119 wd') 307 104 (Y 246 1 / nI 60 - Y 246 1 / nI 60 / nI 24 * nI 24)) 307 102 (mxF Y c (nv Y 246 31))) 307 107 (nhF Y c (nv Y 246 31))) 307 97 (fo Y c (Y 246 1 / nI 360 - Y 246 1 / nI 360 / nI 4 * nI 4))) 307 112 (rdy Y (nI 0))) 307 115 (rdy Y (nI 1))) 307 108 (rdy Y (nI 2))) 307 99 (rdy Y (nI 3))) 307 111 (sm (fun k => b2 (Y 312 k = nI 0 ∧ ¬ Y 310 k = c)) (nv Y 246 92))).1 307 (sbN 0 i) = lO Y c wd' i := by
    intro i hi
    obtain rfl | rfl | rfl | rfl | rfl | rfl | rfl | rfl | rfl | rfl : i = 9 ∨ i = 8 ∨ i = 7 ∨ i = 6 ∨ i = 5 ∨ i = 4 ∨ i = 3 ∨ i = 2 ∨ i = 1 ∨ i = 0 := by omega
    · rw [s9, wr_e]; rfl
    · rw [s8']; simp (disch := decide) only [wr_ne]; rw [wr_e]; rfl
    · rw [s7]; simp (disch := decide) only [wr_ne]; rw [wr_e]; rfl
    · rw [s6]; simp (disch := decide) only [wr_ne]; rw [wr_e]; rfl
    · rw [s5]; simp (disch := decide) only [wr_ne]; rw [wr_e]; rfl
    · rw [s4]; simp (disch := decide) only [wr_ne]; rw [wr_e]; rfl
    · rw [s3]; simp (disch := decide) only [wr_ne]; rw [wr_e]; rfl
    · rw [s2]; simp (disch := decide) only [wr_ne]; rw [wr_e]; rfl
    · rw [s1]; simp (disch := decide) only [wr_ne]; rw [wr_e]; rfl
    · rw [s0]; simp (disch := decide) only [wr_ne]; rw [wr_e]; rfl
  generalize wr (wr (wr (wr (wr (wr (wr (wr (wr (wr x 307 119 wd') 307 104 (Y 246 1 / nI 60 - Y 246 1 / nI 60 / nI 24 * nI 24)) 307 102 (mxF Y c (nv Y 246 31))) 307 107 (nhF Y c (nv Y 246 31))) 307 97 (fo Y c (Y 246 1 / nI 360 - Y 246 1 / nI 360 / nI 4 * nI 4))) 307 112 (rdy Y (nI 0))) 307 115 (rdy Y (nI 1))) 307 108 (rdy Y (nI 2))) 307 99 (rdy Y (nI 3))) 307 111 (sm (fun k => b2 (Y 312 k = nI 0 ∧ ¬ Y 310 k = c)) (nv Y 246 92)) = y at fz lz
  exact m_ordT m w ht kt fz lz k
