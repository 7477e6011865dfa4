/-! A MINUTE, 10: what a question does not read; the sums of what is asked. -/
def Al (Y Z : Nat → Nat → Int32) : Prop := ∀ d, d ≠ 291 → d ≠ 295 → Z d = Y d
theorem al_nv {Y Z : Nat → Nat → Int32} (a : Al Y Z) {d k : Nat} (p : d ≠ 291) (q : d ≠ 295) : nv Z d k = nv Y d k := by unfold nv; rw [a d p q]
theorem al_hdw {Y Z : Nat → Nat → Int32} (a : Al Y Z) (c i : Nat) : hdw Z c i = hdw Y c i := by
  unfold hdw; rw [al_nv a (by decide) (by decide), al_nv a (d := 276) (by decide) (by decide)]
theorem al_hd {Y Z : Nat → Nat → Int32} (a : Al Y Z) (c : Nat) : ∀ n, hd Z c n = hd Y c n
  | 0 => rfl
  | n + 1 => by rw [hd_s, hd_s, al_hd a c n, al_hdw a]
theorem al_hdr {Y Z : Nat → Nat → Int32} (a : Al Y Z) (c : Nat) : hdr Z c = hdr Y c := by
  unfold hdr; rw [al_hd a, al_nv a (by decide) (by decide)]
theorem al_tpf {Y Z : Nat → Nat → Int32} (a : Al Y Z) (h A : Nat) : tpf Z h A = tpf Y h A := by
  unfold tpf; rw [al_nv a (d := 254) (by decide) (by decide), al_nv a (d := 256) (by decide) (by decide), al_hdr a, al_hdw a]
theorem al_bu {Y Z : Nat → Nat → Int32} (a : Al Y Z) (k : Nat) : bu Z k = bu Y k := by
  unfold bu; rw [al_nv a (d := 266) (by decide) (by decide), al_nv a (d := 267) (by decide) (by decide)]
theorem al_rmF {Y Z : Nat → Nat → Int32} (a : Al Y Z) (W : Nat → Int32) (h : Nat) (b : Bool) : ∀ n, rmF Z W h b n = rmF Y W h b n
  | 0 => rfl
  | n + 1 => by
    have e : ∀ r, wnI Z W h r = wnI Y W h r := fun r => by unfold wnI; rw [a 266 (by decide) (by decide)]
    unfold rmF
    rw [al_rmF a W h b n, al_bu a, e, e]
theorem al_ldB {Y Z : Nat → Nat → Int32} (a : Al Y Z) (h : Nat) : ldB Z h = ldB Y h := by
  unfold ldB
  rw [al_nv a (d := 246) (by decide) (by decide)]
  have : ldP Z h = ldP Y h := by funext c; unfold ldP; rw [a 279 (by decide) (by decide), a 286 (by decide) (by decide), a 290 (by decide) (by decide)]
  rw [this]
theorem al_rmI {Y Z : Nat → Nat → Int32} (a : Al Y Z) (W : Nat → Int32) (h : Nat) (t : Int32) : rmI Z W h t = rmI Y W h t := by
  unfold rmI; rw [al_ldB a, al_rmF a, al_nv a (d := 257) (by decide) (by decide)]
theorem al_lvV {Y Z : Nat → Nat → Int32} (a : Al Y Z) (j h r : Nat) : lvV Z j h r = lvV Y j h r := by
  have e1 : lvT Z = lvT Y := by unfold lvT; rw [a 302 (by decide) (by decide), a 246 (by decide) (by decide), a 74 (by decide) (by decide), a (74 + 1) (by decide) (by decide)]
  have e2 : eL Z j h r = eL Y j h r := by
    funext c
    unfold eL lL ld brN bg
    rw [al_nv a (d := 257) (by decide) (by decide), al_nv a (d := 255) (by decide) (by decide), al_nv a (d := 256) (by decide) (by decide), a 271 (by decide) (by decide), a 246 (by decide) (by decide), a 293 (by decide) (by decide), a 266 (by decide) (by decide), a 282 (by decide) (by decide)]
    have : (fun r => bu Z (24 * h + r)) = (fun r => bu Y (24 * h + r)) := funext (fun r => al_bu a _)
    rw [this]
  unfold lvV
  rw [e1, e2, a 246 (by decide) (by decide)]
theorem WW_alt {Y Z : Nat → Nat → Int32} (w : WW Y) (a : Al Y Z) (h1 : ∀ i, i < nv Y 246 58 → ¬ nv Y 286 i = 2 → Z 291 i = -nI 1) (h2 : ∀ i, nv Y 246 58 ≤ i → i < 16 → Z 295 i = nI 0) : WW Z := by
  have chg : Chg Y Z [(291, 291), (295, 295)] [] [] := by
    refine ⟨fun c p q r => ?_, fun f p => ?_, fun c f p q => ?_⟩
    · have r1 : c < 291 ∨ 291 < c := r (291, 291) (by simp)
      have r2 : c < 295 ∨ 295 < c := r (295, 295) (by simp)
      exact a c (by omega) (by omega)
    · rw [a 246 (by decide) (by decide)]
    · unfold scC at p
      rw [a c (by omega) (by omega)]
  refine ⟨Wsc_c w w.sc chg rfl, Wst_c w w.st chg rfl, Wwk_c w w.wk chg rfl, Who_c w w.ho chg rfl, Wfi_c w w.fi chg rfl, Wmh_c w w.mh chg rfl, ?_, Wca_c w w.ca chg rfl, Wev_c w w.ev chg rfl, Wcb_c w w.cb chg rfl⟩
  obtain ⟨c1, c2, c3, c4⟩ := w.cr
  unfold Wcr nbd
  have e : ∀ d k, d ≠ 291 → d ≠ 295 → nv Z d k = nv Y d k := fun d k p q => al_nv a p q
  unfold nbd at c1 c3
  simp (disch := decide) only [e, a 279, a 280, a 281, a 282, a 283, a 284, a 285, a 286, a 287, a 288, a 289, a 290, a 292, a 293, a 298, a 254]
  exact ⟨c1, c2, fun i hi => ⟨(c3 i hi).1, (c3 i hi).2.1, fun q => ⟨((c3 i hi).2.2.1 q).1, h1 i hi q⟩, (c3 i hi).2.2.2⟩, fun i p q => ⟨(c4 i p q).1, (c4 i p q).2.1, (c4 i p q).2.2.1, h2 i p q⟩⟩
def aOf (m : Nat) : AR → Nat
  | none => 0
  | some (_, m', a, _) => if m' = m then a else 0
def asum (R : Nat → AR) (m : Nat) : Nat → Nat
  | 0 => 0
  | j + 1 => asum R m j + aOf m (R j)
theorem asum_c {R R' : Nat → AR} {m : Nat} : ∀ {n}, (∀ i, i < n → R' i = R i) → asum R' m n = asum R m n
  | 0, _ => rfl
  | n + 1, h => by unfold asum; rw [asum_c (fun i hi => h i (by omega)), h n (by omega)]
theorem wk1_r (q : WS) (j : Nat) : (∀ i, i ≠ j → (wk1 q j).2.2 i = q.2.2 i) ∧ (q.2.2 j = none → (wk1 q j).2.2 j = aimO q.1.1 q.2.1 j) ∧ (∀ i, i ≠ j → (wk1 q j).1.1 291 i = q.1.1 291 i) ∧ (wk1 q j).1.1 295 = q.1.1 295 := by
  unfold wk1
  split
  · rename_i r m a fl e
    refine ⟨fun i p => if_neg p, fun _ => (if_pos rfl).trans e.symm, fun i p => wr_ne (by omega), wr_n (by decide)⟩
  · rename_i e
    exact ⟨fun _ _ => rfl, fun p => p.trans e.symm, fun i p => by rw [(tkS_o q.1 j).1 291 (by decide) (by decide)], (tkS_o q.1 j).1 295 (by decide) (by decide)⟩
theorem rsN_v (s : ab_X) : ∀ j, (∀ i, i < j → (rsN s j).1 291 i = -nI 1 ∧ (rsN s j).1 295 i = nI 0) ∧ (∀ i, j ≤ i → (rsN s j).1 291 i = s.1 291 i ∧ (rsN s j).1 295 i = s.1 295 i)
  | 0 => ⟨fun i h => by omega, fun i _ => ⟨rfl, rfl⟩⟩
  | j + 1 => by
    obtain ⟨a, b⟩ := rsN_v s j
    have st : rsN s (j + 1) = wr (wr (rsN s j) 295 j (nI 0)) 291 j (-nI 1) := rfl
    rw [st]
    refine ⟨fun i h => ?_, fun i h => ?_⟩
    · by_cases e : i = j
      · subst e; exact ⟨wr_e, by rw [wr_ne (by omega), wr_e]⟩
      · rw [wr_ne (by omega), wr_ne (by omega), wr_ne (by omega), wr_ne (by omega)]; exact a i (by omega)
    · rw [wr_ne (by omega), wr_ne (by omega), wr_ne (by omega), wr_ne (by omega)]; exact b i (by omega)
theorem wkN_v (s : ab_X) : ∀ j, (∀ i, j ≤ i → (wkN s j).2.2 i = none ∧ (i < nv s.1 246 58 → (wkN s j).1.1 291 i = -nI 1) ∧ (nv s.1 246 58 ≤ i → (wkN s j).1.1 291 i = s.1 291 i)) ∧ (∀ i, i < nv s.1 246 58 → (wkN s j).1.1 295 i = nI 0) ∧ (∀ i, nv s.1 246 58 ≤ i → (wkN s j).1.1 295 i = s.1 295 i)
  | 0 => by
    obtain ⟨a, b⟩ := rsN_v s (nv s.1 246 58)
    exact ⟨fun i h => ⟨rfl, fun u => (a i u).1, fun u => (b i u).1⟩, fun i h => (a i h).2, fun i h => (b i h).2⟩
  | j + 1 => by
    obtain ⟨a, b, c⟩ := wkN_v s j
    obtain ⟨a1, a2, a3, a4⟩ := wk1_r (wkN s j) j
    have st : wkN s (j + 1) = wk1 (wkN s j) j := rfl
    rw [st]
    refine ⟨fun i h => ?_, fun i h => ?_, fun i h => ?_⟩
    · rw [a1 i (by omega), a3 i (by omega)]; exact a i (by omega)
    · rw [a4]; exact b i h
    · rw [a4]; exact c i h
