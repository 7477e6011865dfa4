/-! A MINUTE, 8: a crew aims, the program. -/
theorem c_aim {x : ab_X} {q : WS} {j n : Nat} (c : CW n x q) (hn : n ≤ 16) (ht : InvT q.1.1) (kt : keepT q.1.1 x.1) (hj : j < nv q.1.1 246 58) (h1 : nv q.1.1 286 j = 2) (h2 : nv q.1.1 279 j < 2) {K : ab_X → Prop} (k : ∀ z, CW n z (wk1 q j) → keepT x.1 z.1 → smM x z → z.1 11 7 = x.1 11 7 → K z) : wX0_aim (82 + j) (30 + 3 * nv q.1.1 290 j) x K := by
  obtain ⟨i, cw, cr⟩ := c
  have w := i.w
  have r := i.r
  have b31 := w.b31
  have b58 := w.b58
  obtain ⟨m0, m1, m2⟩ := (w.cr.2.2.1 j hj).2.1 h1
  obtain ⟨t1, t2, t3, t4, -⟩ := r.ho.2.2.1 _ m1
  have u0 := (r.ho.1 _ (Nat.lt_of_lt_of_le m1 (by omega))).1
  obtain ⟨v1, v2, v3, v3', v4, v4', -⟩ := w.ho.1 _ m1
  obtain ⟨r0, r1, r2, r3, r4, r5, r6, r7, r8, r9, r10, r11, r12, r13, r14, -⟩ := r.cr.1 j hj
  obtain ⟨g0, g1, g2, g3, g3', g4, g5, g6, g7, g8, g9, g10, g11, g12⟩ := w.cr.1 j hj
  have l1 := v1.2
  have l3 := v3.2
  have l4 := v4.2
  have l5 := g5.2
  have l6 := g6.2
  have l7 := g7.2
  have l11 := g11.2
  have rl := rm_le w.tw m1
  have now : nv q.1.1 246 1 ≤ 20000 := by have := w.sc; unfold Wsc at this; unfold nbd at this; omega
  have core : wX0_aim_52 (82 + j) (30 + 3 * nv q.1.1 290 j) (hdr q.1.1 (nv q.1.1 254 (nv q.1.1 290 j))) (rmI q.1.1 q.2.1 (nv q.1.1 290 j) (tpf q.1.1 (nv q.1.1 290 j) (nv q.1.1 283 j))) x K := by
    unfold wX0_aim_52
    rw [r14, g11.1, r7, g7.1, r.s1, w.v1, nI_add, q_le (by omega) (by omega)]
    rcases aim_d (W := q.2.1) w hj with ⟨e0, nc⟩ | ⟨rr, m, a, fl, e0, c, -, hr, hm, ha5, ha, eR, eI, ⟨hd', hd1, hd2, hd3⟩, ea, efl⟩
    · have ew : wk1 q j = q := by
        unfold wk1; rw [e0]
        show (tkS q.1 j, q.2.1, q.2.2) = q
        unfold tkS; rw [if_neg (fun u => by have := u.2.1; omega)]
      have kk : K x := k x (by rw [ew]; exact ⟨i, cw, cr⟩) keepT.rfl' smM.rfl' rfl
      exact ⟨fun _ => kk, fun u => ⟨fun u2 => absurd ⟨h1, h2, u2, u⟩ nc, fun _ => kk⟩⟩
    · have hh : nv q.1.1 290 j < 12 := by omega
      have b57 := w.b57
      generalize eh : nv q.1.1 290 j = h at *
      have rr24 : rr < 24 := by omega
      rw [eI, hd2]
      refine ⟨fun u => absurd u (fun u => (n1_eq' (by omega)).mp u), fun _ => ⟨fun _ => ?_, fun u => absurd c.2.2.1 u⟩⟩
      refine c_leaving r w ht kt hj m1 hr (fun z z1 z2 z3 => ⟨(vpi (by omega) (by decide)).mpr trivial, ?_⟩)
      have eV : lvV q.1.1 j h rr = aimV q.1.1 q.2.1 j := by unfold aimV; rw [eR, eh]
      have e29 : (wr z (82 + j) 19 (nI rr)).1 29 (nI hd').toNatClampNeg = nI m := by
        rw [wr_n (by omega), z1 29 (by omega), cl_nI (by omega), (r.mh.2 hd' hd1).2]; exact hd3
      rw [e29, eV]
      have e6 : (wr (wr z (82 + j) 19 (nI rr)) (82 + j) 18 (nI m)).1 (82 + j) 6 = nI (nv q.1.1 284 j) := by
        rw [wr_ne (by omega), wr_ne (by omega), z1 _ (by omega), r6, g6.1]
      rw [e6]
      have last : ∀ fl', fl' = fl → wX0_aim_144 (82 + j) (30 + 3 * h) (nI rr) (82 + j) fl' (wr (wr (wr z (82 + j) 19 (nI rr)) (82 + j) 18 (nI m)) (82 + j) 17 (nI a)) K := by
        intro fl' ef
        subst ef
        unfold wX0_aim_144 wX4_place
        have e0' : (wr (wr (wr (wr z (82 + j) 19 (nI rr)) (82 + j) 18 (nI m)) (82 + j) 17 (nI a)) (82 + j) 13 fl').1 (30 + 3 * h) 0 = nI h := by
          simp (disch := omega) only [wr_n]; rw [z1 _ (by omega)]; exact u0
        have e17 : (wr (wr (wr (wr z (82 + j) 19 (nI rr)) (82 + j) 18 (nI m)) (82 + j) 17 (nI a)) (82 + j) 13 fl').1 (82 + j) 17 = nI a := by
          rw [wr_ne (by omega), wr_e]
        have e14 : (wr (wr (wr (wr z (82 + j) 19 (nI rr)) (82 + j) 18 (nI m)) (82 + j) 17 (nI a)) (82 + j) 13 fl').1 14 = x.1 14 := by
          simp (disch := omega) only [wr_n]; exact z1 _ (by omega)
        have e24 : nI h * 24 + nI rr = nI (24 * h + rr) := by
          have : (24 : Int32) = nI 24 := rfl
          rw [this, pk_mul, nI_add, Nat.mul_comm]
        rw [e0', e17, e14, e24]
        show vp_in (nI (24 * h + rr)) 288 ∧ vp_in (nI (24 * h + rr)) 288 ∧ K (wr _ 14 (nI (24 * h + rr)).toNatClampNeg (x.1 14 (nI (24 * h + rr)).toNatClampNeg + nI a))
        rw [cl_nI (by omega)]
        have vr : vp_in (nI (24 * h + rr)) 288 := (vpi (by omega) (by decide)).mpr trivial
        refine ⟨vr, vr, ?_⟩
        have ew : wk1 q j = (wr q.1 291 j fl', updI q.2.1 (24 * h + rr) (q.2.1 (24 * h + rr) + nI a), fun i => if i = j then some (rr, m, a, fl') else q.2.2 i) := by
          unfold wk1; rw [e0, eh]
        have ez : ∀ d, d < 74 ∨ (79 < d ∧ d ≠ 82 + j) → d ≠ 14 → (wr (wr (wr (wr (wr z (82 + j) 19 (nI rr)) (82 + j) 18 (nI m)) (82 + j) 17 (nI a)) (82 + j) 13 fl') 14 (24 * h + rr) (x.1 14 (24 * h + rr) + nI a)).1 d = x.1 d := by
          intro d p p'
          simp (disch := omega) only [wr_n]; exact z1 _ (by omega)
        refine k _ ?_ (fun d i' q' => ?_) ⟨fun d p => ez d (by omega) (by omega), z3⟩ (congrFun (ez 11 (by omega) (by omega)) 7)
        · rw [ew]
          refine ⟨?_, fun u kk hk => ?_, fun i' hi => ?_⟩
          · have i1 : Inv2 (wr x (82 + j) 13 fl') (wr q.1 291 j fl') := by
              unfold Inv2
              rw [mg_wm (by omega), mg_wc (by omega)]
              refine i_floor i (j := j) ?_ ?_ rfl
              · unfold nv; rw [mg_m (by decide)]; exact hj
              · unfold nv; rw [mg_m (by decide)]; exact h1
            refine i1.kc ⟨fun d p => ?_, ?_, fun cc f p p' => ?_⟩
            · rw [ez d (by unfold kC at p; omega) (by unfold kC at p; omega), wr_n (by unfold kC at p; omega)]
            · rw [ez 158 (by omega) (by omega), wr_n (by omega)]
            · by_cases e : cc = j
              · subst e
                by_cases e' : f = 13
                · subst e'; rw [wr_ne (by omega), wr_e, wr_e]
                · simp (disch := omega) only [wr_ne]; rw [z1 _ (by omega)]
              · rw [ez _ (by omega) (by omega), wr_n (by omega)]
          · have u' : x.1 11 7 = nI 0 := by rw [← congrFun (ez 11 (by omega) (by omega)) 7]; exact u
            show (wr _ 14 (24 * h + rr) (x.1 14 (24 * h + rr) + nI a)).1 14 kk = updI q.2.1 (24 * h + rr) (q.2.1 (24 * h + rr) + nI a) kk
            have hc := cw u' kk hk
            unfold updI
            by_cases e : kk = 24 * h + rr
            · rw [if_pos e, e, wr_e, ← e, hc]
            · rw [if_neg e, wr_ne (by omega)]
              simp (disch := omega) only [wr_n]; rw [z1 _ (by omega)]; exact hc
          · show cR _ i' (if i' = j then some (rr, m, a, fl') else q.2.2 i')
            by_cases e : i' = j
            · subst e
              rw [if_pos rfl]
              refine ⟨?_, ?_, ?_⟩ <;> simp (disch := omega) only [wr_ne, wr_e]
            · rw [if_neg e]
              have := cr i' hi
              unfold cR at this ⊢
              rw [ez _ (by omega) (by omega)]; exact this
        · unfold tk at q'
          rw [← z2 d i' (by unfold tk; omega)]
          simp (disch := omega) only [wr_n]
      have bV := lvV_B ht j h rr
      rw [eV] at bV
      have e125 : wX0_aim_125 (82 + j) (30 + 3 * h) (nI rr) (aimV q.1.1 q.2.1 j) (82 + j) (nI a) (wr (wr z (82 + j) 19 (nI rr)) (82 + j) 18 (nI m)) K := by
        unfold wX0_aim_125 wX4_floorOf
        have e4 : (wr (wr (wr z (82 + j) 19 (nI rr)) (82 + j) 18 (nI m)) (82 + j) 17 (nI a)).1 (30 + 3 * h) 4 = nI (nv q.1.1 257 h) := by
          simp (disch := omega) only [wr_n]; rw [z1 _ (by omega), t4, v4.1]
        rw [e4]
        refine ⟨fun u => ⟨fun _ => ⟨nI_ne0 (by omega) (by omega), last _ ?_⟩, fun u2 => absurd ((q_le (a := 1) (by omega) (by omega)).mpr v4') u2⟩, fun u => last _ ?_⟩
        · rw [efl, if_pos (show aimV q.1.1 q.2.1 j = nI 0 from u), q_div (by omega) (by omega) (by omega)]
        · rw [efl, if_neg (show ¬ aimV q.1.1 q.2.1 j = nI 0 from u)]; rfl
      refine ⟨fun u => ?_, fun u => ?_⟩
      · have : nv q.1.1 284 j = a := by rw [ea, if_pos (show aimV q.1.1 q.2.1 j = nI 0 from u)]
        rw [this]; exact e125
      · have : nI (nv q.1.1 284 j) / 2 = nI a := by
          rw [ea, if_neg (show ¬ aimV q.1.1 q.2.1 j = nI 0 from u)]; exact q_div (by omega) (by decide) (by decide)
        rw [this]; exact e125
  unfold wX0_aim
  rw [t1, v1.1]
  refine c_near r w (by omega) ?_
  rw [r5, g5.1]
  refine c_top r w m1 (by omega) ⟨fun u => ?_, fun u => ?_⟩
  · rw [u0]
    rcases tpf_d (Y := q.1.1) (h := nv q.1.1 290 j) (A := nv q.1.1 283 j) v3' with e | ⟨t, ht', et⟩
    · exact absurd e u
    · refine c_isLed r w ?_
      have er : rmI q.1.1 q.2.1 (nv q.1.1 290 j) (tpf q.1.1 (nv q.1.1 290 j) (nv q.1.1 283 j)) = rmF q.1.1 q.2.1 (nv q.1.1 290 j) (ldB q.1.1 (nv q.1.1 290 j)) ((t + 1) * nv q.1.1 257 (nv q.1.1 290 j)) := by
        have u : ¬ tpf q.1.1 (nv q.1.1 290 j) (nv q.1.1 283 j) = -nI 1 := u
        unfold rmI; rw [if_neg u, et, cl_nI (by omega)]
      rw [er] at core
      rw [et]
      exact c_room r.tr w.tw m1 ht' cw core
  · have er : rmI q.1.1 q.2.1 (nv q.1.1 290 j) (tpf q.1.1 (nv q.1.1 290 j) (nv q.1.1 283 j)) = -nI 1 := by
      unfold rmI; exact if_pos u
    rw [er] at core
    exact core
