/-! A MINUTE, 13: a crew aims, the reference. -/
def xWk (j p m d k : Nat) : Prop := (d = 246 ∧ (k = 74 ∨ k = 75 ∨ (78 ≤ k ∧ k ≤ 82))) ∨ d = 307 ∨ d = 308 ∨ d = 309 ∨ ((d = 291 ∨ (294 ≤ d ∧ d ≤ 297)) ∧ k = j) ∨ (d = 268 ∧ k = p) ∨ (d = 278 ∧ k = m)
theorem rs_aim {s x y z : ab_X} {j h r m a : Nat} {fl : Int32} (c : MW s x j y) (e0 : aimO (wkN s j).1.1 (wkN s j).2.1 j = some (r, m, a, fl)) (hh : nv s.1 290 j = h) (fr : ∀ d k, ¬ xWk j (24 * h + r) m d k → z.1 d k = y.1 d k) (z291 : z.1 291 j = fl) (z295 : z.1 295 j = nI 0) (z294 : z.1 294 j = nI a) (z296 : z.1 296 j = nI (24 * h + r)) (z297 : z.1 297 j = nI m) (z268 : z.1 268 (24 * h + r) = y.1 268 (24 * h + r) + nI a) (z278 : z.1 278 m = y.1 278 m + nI a) (z2 : z.2.1 = y.2.1) : MW s x (j + 1) z := by
  have cc := c
  obtain ⟨c1, c2, c3, c4, c5, c6, c7, c8, c9⟩ := cc
  have q290 : (wkN s j).1.1 290 = s.1 290 := (wkN_o s j).1 290 (by decide) (by decide) (by decide) (by decide)
  have eh : nv (wkN s j).1.1 290 j = h := by unfold nv at hh ⊢; rw [q290]; exact hh
  have ew : wk1 (wkN s j) j = (wr (wkN s j).1 291 j fl, updI (wkN s j).2.1 (24 * h + r) ((wkN s j).2.1 (24 * h + r) + nI a), fun i => if i = j then some (r, m, a, fl) else (wkN s j).2.2 i) := by
    unfold wk1; rw [e0, eh]
  refine MW_next c (fun d p q r' => ?_) (fun f q => fr _ _ (by unfold xWk; unfold kS at q; omega)) ⟨?_, z295⟩ (fun i hi => ?_) (fun k hk => ?_) (fun m' hm => ?_) ?_ (fun d k q => fr d k (by unfold tk at q; unfold xWk; omega)) ⟨fun d q => funext (fun k => fr d k (by unfold xWk; omega)), z2⟩
  · rw [ew]
    show z.1 d = (wr (wkN s j).1 291 j fl).1 d
    rw [wr_n q, ← c1 d p q r']
    exact funext (fun k => fr d k (by unfold kM at p; unfold xWk; omega))
  · rw [ew]
    show z.1 291 j = (wr (wkN s j).1 291 j fl).1 291 j
    rw [wr_e]; exact z291
  · exact ⟨fr _ _ (by unfold xWk; omega), fr _ _ (by unfold xWk; omega), fr _ _ (by unfold xWk; omega), fr _ _ (by unfold xWk; omega), fr _ _ (by unfold xWk; omega)⟩
  · rw [ew]
    show z.1 268 k = updI (wkN s j).2.1 (24 * h + r) ((wkN s j).2.1 (24 * h + r) + nI a) k
    unfold updI
    by_cases e : k = 24 * h + r
    · subst e; rw [if_pos rfl, z268, c5 _ hk]
    · rw [if_neg e, fr _ _ (by unfold xWk; omega)]; exact c5 k hk
  · rw [e0]
    show z.1 278 m' = y.1 278 m' + nI (if m = m' then a else 0)
    by_cases e : m = m'
    · subst e; rw [if_pos rfl]; exact z278
    · rw [if_neg e, fr _ _ (by unfold xWk; omega), c6 m' hm, nI_add]; rfl
  · rw [e0, hh]; exact ⟨z294, z296, z297⟩
theorem m_230 {X : ab_X} {j p m a : Nat} (hj : j < 16) (hp : p < 288) (hm : m < 6) (e296 : X.1 296 j = nI p) (e297 : X.1 297 j = nI m) (e294 : X.1 294 j = nI a) {K : ab_X → Prop} {L : Int32 → ab_X → Prop} (k : L (nI (j + 1)) (wr (wr X 268 p (X.1 268 p + nI a)) 278 m (X.1 278 m + nI a))) : wX12_work_230 (nI j) X K L := by
  have vj : vp_in (nI j) 16 := (vpi hj (by decide)).mpr trivial
  have vp : vp_in (nI p) 288 := (vpi hp (by decide)).mpr trivial
  have vm : vp_in (nI m) 6 := (vpi hm (by decide)).mpr trivial
  have ej : nI j + 1 = nI (j + 1) := nI_add j 1
  unfold wX12_work_230
  rw [cl_nI (by omega), e296, cl_nI (by omega), e294, ej]
  have f1 : (wr X 268 p (X.1 268 p + nI a)).1 297 j = nI m := by rw [wr_n (by decide)]; exact e297
  have f2 : (wr X 268 p (X.1 268 p + nI a)).1 278 m = X.1 278 m := by rw [wr_n (by decide)]
  have f3 : (wr X 268 p (X.1 268 p + nI a)).1 294 j = nI a := by rw [wr_n (by decide)]; exact e294
  rw [f1, cl_nI (by omega), f2, f3]
  exact ⟨vj, vp, vj, vp, vj, vm, vj, vm, k⟩
theorem keepM_off {Y : Nat → Nat → Int32} {x : ab_X} {c k : Nat} {v : Int32} (m : keepM Y x.1) (h : ¬ kM c) (h2 : c ≠ 246) : keepM Y (wr x c k v).1 := by
  refine ⟨fun d q => ?_, fun f q => ?_⟩
  · have e : d ≠ c := fun e => h (by rw [← e]; exact q)
    rw [wr_n e]; exact m.1 d q
  · rw [wr_n (Ne.symm h2)]; exact m.2 f q
theorem m_aim {s x y xs xa : ab_X} {j : Nat} (is : Inv2 xs s) (ia : Inv2 xa (wkN s j).1) (ht : InvT s.1) (kt : keepT s.1 x.1) (hj : j < nv s.1 246 58) (c : MW s x j y) (h1 : nv (wkN s j).1.1 286 j = 2) (h2 : nv (wkN s j).1.1 279 j < 2) (h3 : nv (wkN s j).1.1 293 j + nv (wkN s j).1.1 285 j ≤ nv (wkN s j).1.1 246 1) {K : ab_X → Prop} {L : Int32 → ab_X → Prop} (k : ∀ z, MW s x (j + 1) z → L (nI (j + 1)) z) : wX12_work_133 (nI j) (nI (nv (wkN s j).1.1 290 j)) (rsM y j) K L := by
  obtain ⟨mv, wv, tv, kv⟩ := ov_f is ia ht kt hj c
  have al := ovY_al (wkN s j).1.1 (rsM y j).1
  have q58 : nv (wkN s j).1.1 246 58 = nv s.1 246 58 := by unfold nv; rw [(wkN_o s j).1 246 (by decide) (by decide) (by decide) (by decide)]
  have q290 : nv (wkN s j).1.1 290 j = nv s.1 290 j := by unfold nv; rw [(wkN_o s j).1 290 (by decide) (by decide) (by decide) (by decide)]
  have w := ia.w
  have b31 := w.b31
  have b58 := w.b58
  have b57 := w.b57
  have b56 := w.b56
  have hj' : j < nv (wkN s j).1.1 246 58 := by omega
  obtain ⟨m0, m1, m2⟩ := (w.cr.2.2.1 j hj').2.1 h1
  have rl := rm_le w.tw m1
  have cw : ∀ k, k < 288 → (rsM y j).1 268 k = (wkN s j).2.1 k := fun k hk => by
    have : (rsM y j).1 268 = y.1 268 := by unfold rsM; simp (disch := omega) only [wr_n]
    rw [this]; exact c.2.2.2.2.1 k hk
  have vj : vp_in (nI j) 16 := (vpi (by omega) (by decide)).mpr trivial
  have ej : nI j + 1 = nI (j + 1) := nI_add j 1
  have g6 := (w.cr.1 j hj').2.2.2.2.2.2.2.1
  have l6 := g6.2
  unfold wX12_work_133
  refine m_room mv wv (W := (wkN s j).2.1) (by rw [al_nv al (by decide) (by decide)]; exact m1) (by rw [al_nv al (by decide) (by decide)]; exact hj') (by rw [al_nv al (by decide) (by decide)]; exact h2) cw ?_
  rw [al_rmI al, al_tpf al, al_nv al (d := 283) (by decide) (by decide), ej]
  rcases aim_d (W := (wkN s j).2.1) w hj' with ⟨e0, nc⟩ | ⟨r, m, a, fl, e0, -, -, hr, hm, ha5, ha, eR, eI, ⟨hd', hd1, hd2, hd3⟩, ea, efl⟩
  · refine ⟨fun u => absurd ⟨h1, h2, h3, u⟩ nc, fun _ => k _ (rs_skip hj c ?_ e0)⟩
    unfold wk1; rw [e0]
    show (tkS (wkN s j).1 j, (wkN s j).2.1, (wkN s j).2.2) = wkN s j
    unfold tkS; rw [if_neg (fun u => by have := u.2.1; omega)]
  rw [eI]
  refine ⟨fun _ => ?_, fun u => absurd u (fun u => (n1_eq' (by omega)).mp u)⟩
  have eV : lvV (wkN s j).1.1 j (nv (wkN s j).1.1 290 j) r = aimV (wkN s j).1.1 (wkN s j).2.1 j := by unfold aimV; rw [eR]
  refine m_leaves mv wv tv kv (by rw [al_nv al (by decide) (by decide)]; exact hj') (by rw [al_nv al (by decide) (by decide)]; exact m1) (by rw [al_nv al (by decide) (by decide), al_nv al (by decide) (by decide)]; exact hr) (fun z hz => ⟨vj, ?_⟩)
  rw [al_lvV al, eV]
  have v4' := (w.ho.1 _ m1).2.2.2.2.2.1
  generalize eh : nv (wkN s j).1.1 290 j = h at *
  have e24 : 24 * nI h + nI r = nI (24 * h + r) := by
    have : 24 * nI h = nI (24 * h) := pk_mul 24 h
    rw [this, nI_add]
  rw [cl_nI (by omega), e24]
  have mz : keepM (ovY (wkN s j).1.1 (rsM y j).1) (wr z 296 j (nI (24 * h + r))).1 := keepM_off (hz.m mv) (by unfold kM; omega) (by omega)
  refine m_head mz wv (by rw [al_nv al (by decide) (by decide)]; exact m1) ?_
  rw [al_hdr al, al_nv al (d := 254) (by decide) (by decide), hd2]
  have e277 : (wr z 296 j (nI (24 * h + r))).1 277 (nI hd').toNatClampNeg = nI m := by
    rw [mz.c277, al 277 (by decide) (by decide), cl_nI (by omega)]; exact hd3
  rw [e277]
  have mz7 : keepM (ovY (wkN s j).1.1 (rsM y j).1) (wr (wr z 296 j (nI (24 * h + r))) 297 j (nI m)).1 := keepM_off mz (by unfold kM; omega) (by omega)
  have e284 : (wr (wr z 296 j (nI (24 * h + r))) 297 j (nI m)).1 284 j = nI (nv (wkN s j).1.1 284 j) := by
    rw [mz7.c284, al 284 (by decide) (by decide)]; exact g6.1
  rw [e284]
  have ry : ∀ d k, ¬ ((d = 291 ∨ d = 294 ∨ d = 295) ∧ k = j) → (rsM y j).1 d k = y.1 d k := fun d k p => by unfold rsM; simp (disch := omega) only [wr_ne]
  have r291 : (rsM y j).1 291 j = -nI 1 := by unfold rsM; rw [wr_e]; rfl
  have r295 : (rsM y j).1 295 j = nI 0 := by unfold rsM; rw [wr_ne (by omega), wr_e]; rfl
  have zr : ∀ d k, ¬ xWk j (24 * h + r) m d k → z.1 d k = y.1 d k := fun d k p => by
    rw [hz.1 d k (by unfold xWk at p; omega) (by unfold xWk at p; omega) (by unfold xWk at p; omega) (by unfold xWk at p; omega)]
    exact ry d k (by unfold xWk at p; omega)
  have z291 : z.1 291 j = -nI 1 := by rw [hz.1 _ _ (by omega) (by omega) (by omega) (by omega)]; exact r291
  have z295 : z.1 295 j = nI 0 := by rw [hz.1 _ _ (by omega) (by omega) (by omega) (by omega)]; exact r295
  have z268 : z.1 268 (24 * h + r) = y.1 268 (24 * h + r) := by rw [hz.1 _ _ (by omega) (by omega) (by omega) (by omega)]; exact ry _ _ (by omega)
  have z278 : z.1 278 m = y.1 278 m := by rw [hz.1 _ _ (by omega) (by omega) (by omega) (by omega)]; exact ry _ _ (by omega)
  have z2 : z.2.1 = y.2.1 := hz.2.1
  have hh' : nv s.1 290 j = h := by omega
  have vhd : vp_in (nI hd') 20 := (vpi (by omega) (by decide)).mpr trivial
  have e212 : wX12_work_212 (nI j) (nI h) (nI r) (aimV (wkN s j).1.1 (wkN s j).2.1 j) (nI j) (nI a) (wr (wr z 296 j (nI (24 * h + r))) 297 j (nI m)) K L := by
    unfold wX12_work_212
    rw [cl_nI (by omega)]
    have mz4 : keepM (ovY (wkN s j).1.1 (rsM y j).1) (wr (wr (wr z 296 j (nI (24 * h + r))) 297 j (nI m)) 294 j (nI a)).1 := keepM_off mz7 (by unfold kM; omega) (by omega)
    refine ⟨vj, fun u => ?_, fun u => ?_⟩
    · have u : ¬ aimV (wkN s j).1.1 (wkN s j).2.1 j = nI 0 := u
      rw [if_neg u] at efl
      refine m_230 (p := 24 * h + r) (m := m) (a := a) (by omega) (by omega) (by omega) (by simp (disch := omega) only [wr_ne, wr_e]) (by simp (disch := omega) only [wr_ne, wr_e]) (by rw [wr_e]) (k _ (rs_aim c e0 hh' (fun d k p => ?_) ?_ ?_ ?_ ?_ ?_ ?_ ?_ z2))
      · rw [← zr d k p]; unfold xWk at p; simp (disch := omega) only [wr_ne]
      · simp (disch := omega) only [wr_ne]; rw [z291, efl]
      · simp (disch := omega) only [wr_ne]; exact z295
      · simp (disch := omega) only [wr_ne, wr_e]
      · simp (disch := omega) only [wr_ne, wr_e]
      · simp (disch := omega) only [wr_ne, wr_e]
      · simp (disch := omega) only [wr_ne, wr_e]; rw [z268]
      · simp (disch := omega) only [wr_ne, wr_e]; rw [z278]
    · have u : aimV (wkN s j).1.1 (wkN s j).2.1 j = nI 0 := u
      rw [if_pos u] at efl
      refine m_floorOf mz4.f wv.tw (by rw [al_nv al (by decide) (by decide)]; exact m1) (by omega) ⟨vj, ?_⟩
      rw [al_nv al (d := 257) (by decide) (by decide), ← efl]
      refine m_230 (p := 24 * h + r) (m := m) (a := a) (by omega) (by omega) (by omega) (by simp (disch := omega) only [wr_ne, wr_e]) (by simp (disch := omega) only [wr_ne, wr_e]) (by rw [wr_ne (by omega), wr_e]) (k _ (rs_aim c e0 hh' (fun d k p => ?_) ?_ ?_ ?_ ?_ ?_ ?_ ?_ z2))
      · rw [← zr d k p]; unfold xWk at p; simp (disch := omega) only [wr_ne]
      · simp (disch := omega) only [wr_ne, wr_e]
      · simp (disch := omega) only [wr_ne]; exact z295
      · simp (disch := omega) only [wr_ne, wr_e]
      · simp (disch := omega) only [wr_ne, wr_e]
      · simp (disch := omega) only [wr_ne, wr_e]
      · simp (disch := omega) only [wr_ne, wr_e]; rw [z268]
      · simp (disch := omega) only [wr_ne, wr_e]; rw [z278]
  refine ⟨vhd, vj, fun u => ⟨vj, ?_⟩, fun u => ⟨vj, ?_⟩⟩
  · have : nv (wkN s j).1.1 284 j = a := by rw [ea, if_pos (show aimV (wkN s j).1.1 (wkN s j).2.1 j = nI 0 from u)]
    rw [this]; exact e212
  · have : nI (nv (wkN s j).1.1 284 j) / 2 = nI a := by
      rw [ea, if_neg (show ¬ aimV (wkN s j).1.1 (wkN s j).2.1 j = nI 0 from u)]; exact q_div (by omega) (by decide) (by decide)
    rw [this]; exact e212
