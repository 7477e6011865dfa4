/-! A MINUTE, 4: who leads, which room. -/
def ldP (Y : Nat → Nat → Int32) (h c : Nat) : Bool := decide (Y 279 c = nI 3 ∧ Y 286 c = nI 2 ∧ Y 290 c = nI h)
def ldB (Y : Nat → Nat → Int32) (h : Nat) : Bool := anB (ldP Y h) (nv Y 246 58)
theorem ldP_t {Y : Nat → Nat → Int32} {h c : Nat} : ldP Y h c = true ↔ (Y 279 c = nI 3 ∧ Y 286 c = nI 2 ∧ Y 290 c = nI h) := by unfold ldP; rw [decide_eq_true_eq]
theorem ld_no {Y : Nat → Nat → Int32} {h : Nat} (z : ∀ o, o < nv Y 246 58 → ldP Y h o = false) : ldB Y h = false := by
  unfold ldB anB
  rw [cn_0 z]; rfl
theorem ld_yes {Y : Nat → Nat → Int32} {h i : Nat} (hi : i < nv Y 246 58) (o : ldP Y h i = true) : ldB Y h = true := by
  unfold ldB anB
  exact decide_eq_true (cn_pos.mpr ⟨i, hi, o⟩)
theorem c_isLed {x : ab_X} {Y : Nat → Nat → Int32} {D : Nat → UInt64} (r : RR x.1 Y D) (w : WW Y) {h : Nat} {K : Int32 → Prop} (k : K (bb (ldB Y h))) : wX0_isLed (nI h) x K := by
  have bn := w.b58
  unfold wX0_isLed
  refine Lp1.ind (fun ii b => ∃ i, i ≤ nv Y 246 58 ∧ ii = nv Y 246 58 - i ∧ b = nI i ∧ ∀ o, o < i → ldP Y h o = false) (nv Y 246 58) ⟨0, Nat.zero_le _, rfl, rfl, fun o ho => absurd ho (Nat.not_lt_zero o)⟩ ?_
  rintro ii b ⟨i, hi, hii, rfl, z⟩ L hL
  unfold lX0_isLed_2
  have ei : nI i + 1 = nI (i + 1) := nI_add i 1
  rw [r.s58, w.v58, q_le (by omega) (by omega), ei]
  refine ⟨fun q => ?_, fun q => ?_⟩
  · rw [ld_no (fun o ho => z o (by omega))] at k; exact k
  have next : ¬ ldP Y h i = true → L (nI (i + 1)) := fun e0 => hL _ _ (by omega) ⟨i + 1, by omega, rfl, rfl, fun o ho => by
    by_cases e : o = i
    · rw [e]; exact Bool.eq_false_iff.mpr e0
    · exact z o (by omega)⟩
  obtain ⟨r0, r1, r2, r3, r4, r5, r6, r7, r8, r9, r10, r11, r12, -⟩ := r.cr.1 i (by omega)
  have vi : vp_in (nI i) 16 := (vpi (by omega) (by decide)).mpr trivial
  rw [cl_nI (by omega), r0, r8, r12]
  refine ⟨vi, fun q1 => next (fun u => q1 (ldP_t.mp u).1), fun q1 => ⟨vi, fun q2 => next (fun u => q2 (ldP_t.mp u).2.1), fun q2 => ⟨vi, fun q3 => next (fun u => q3 (ldP_t.mp u).2.2), fun q3 => ?_⟩⟩⟩
  rw [ld_yes (by omega) (ldP_t.mpr ⟨q1, q2, q3⟩)] at k; exact k
theorem m_hasChief {x : ab_X} {Y : Nat → Nat → Int32} (m : keepM Y x.1) (w : WW Y) {h : Nat} {K : Int32 → Prop} (k : K (bb (ldB Y h))) : wX12_hasChief (nI h) x K := by
  have bn := w.b58
  unfold wX12_hasChief
  refine Lp1.ind (fun ii b => ∃ i, i ≤ nv Y 246 58 ∧ ii = nv Y 246 58 - i ∧ b = nI i ∧ ∀ o, o < i → ldP Y h o = false) (nv Y 246 58) ⟨0, Nat.zero_le _, rfl, rfl, fun o ho => absurd ho (Nat.not_lt_zero o)⟩ ?_
  rintro ii b ⟨i, hi, hii, rfl, z⟩ L hL
  unfold lX12_hasChief_2
  have ei : nI i + 1 = nI (i + 1) := nI_add i 1
  rw [m.s58, w.v58, q_le (by omega) (by omega), ei]
  refine ⟨fun q => ?_, fun q => ?_⟩
  · rw [ld_no (fun o ho => z o (by omega))] at k; exact k
  have next : ¬ ldP Y h i = true → L (nI (i + 1)) := fun e0 => hL _ _ (by omega) ⟨i + 1, by omega, rfl, rfl, fun o ho => by
    by_cases e : o = i
    · rw [e]; exact Bool.eq_false_iff.mpr e0
    · exact z o (by omega)⟩
  have vi : vp_in (nI i) 16 := (vpi (by omega) (by decide)).mpr trivial
  rw [cl_nI (by omega), m.c279, m.c286, m.c290]
  refine ⟨vi, fun q1 => next (fun u => q1 (ldP_t.mp u).1), fun q1 => ⟨vi, fun q2 => next (fun u => q2 (ldP_t.mp u).2.1), fun q2 => ⟨vi, fun q3 => next (fun u => q3 (ldP_t.mp u).2.2), fun q3 => ?_⟩⟩⟩
  rw [ld_yes (by omega) (ldP_t.mpr ⟨q1, q2, q3⟩)] at k; exact k
/-- what is wanted of a room; the room -/
def wnI (Y : Nat → Nat → Int32) (W : Nat → Int32) (h r : Nat) : Int32 := Y 266 (24 * h + r) - W (24 * h + r) / nI 4
def rmF (Y : Nat → Nat → Int32) (W : Nat → Int32) (h : Nat) (b : Bool) : Nat → Int32
  | 0 => -nI 1
  | r + 1 => if bu Y (24 * h + r) = true ∧ (rmF Y W h b r = -nI 1 ∨ (b = true ∧ wnI Y W h (rmF Y W h b r).toNatClampNeg < wnI Y W h r)) then nI r else rmF Y W h b r
theorem rmF_d (Y : Nat → Nat → Int32) (W : Nat → Int32) (h : Nat) (b : Bool) : ∀ n, rmF Y W h b n = -nI 1 ∨ ∃ r, r < n ∧ rmF Y W h b n = nI r ∧ bu Y (24 * h + r) = true
  | 0 => Or.inl rfl
  | n + 1 => by
    show (if bu Y (24 * h + n) = true ∧ (rmF Y W h b n = -nI 1 ∨ (b = true ∧ wnI Y W h (rmF Y W h b n).toNatClampNeg < wnI Y W h n)) then nI n else rmF Y W h b n) = -nI 1 ∨ ∃ r, r < n + 1 ∧ (if bu Y (24 * h + n) = true ∧ (rmF Y W h b n = -nI 1 ∨ (b = true ∧ wnI Y W h (rmF Y W h b n).toNatClampNeg < wnI Y W h n)) then nI n else rmF Y W h b n) = nI r ∧ bu Y (24 * h + r) = true
    split
    · rename_i q
      exact Or.inr ⟨n, by omega, rfl, q.1⟩
    · rcases rmF_d Y W h b n with e | ⟨r, hr, e, o⟩
      · exact Or.inl e
      · exact Or.inr ⟨r, by omega, e, o⟩
def rmI (Y : Nat → Nat → Int32) (W : Nat → Int32) (h : Nat) (top : Int32) : Int32 := if top = -nI 1 then -nI 1 else rmF Y W h (ldB Y h) ((top.toNatClampNeg + 1) * nv Y 257 h)
theorem c_room {x : ab_X} {Y : Nat → Nat → Int32} {W : Nat → Int32} (t : TR 11 x.1 Y) (w : TW Y) {h tp : Nat} {b : Bool} (hh : h < nv Y 246 31) (ht : tp < nv Y 256 h) (hw : x.1 11 7 = nI 0 → ∀ k, k < 288 → x.1 14 k = W k) {K : Int32 → Prop} (k : K (rmF Y W h b ((tp + 1) * nv Y 257 h))) : wX0_roomFor (30 + 3 * h) (nI tp) (bb b) x K := by
  have b31 := w.1.2
  obtain ⟨t1, t2, t3, t4, -⟩ := t.2.1.2.2.1 h hh
  obtain ⟨v1, v2, v3, v3', v4, v4', -⟩ := w.2.1.1 h hh
  have u0 := (t.2.1.1 h (by omega)).1
  have l3 := v3.2
  have l4 := v4.2
  have rl := rm_le w hh
  have mn : (tp + 1) * nv Y 257 h ≤ nv Y 256 h * nv Y 257 h := Nat.mul_le_mul_right _ ht
  unfold wX0_roomFor
  refine Lp3.ind (fun ii a0 a1 a2 => ∃ i, i ≤ (tp + 1) * nv Y 257 h ∧ ii = (tp + 1) * nv Y 257 h - i ∧ a0 = rmF Y W h b i ∧ a2 = nI i ∧ (∀ r, r < 24 → rmF Y W h b i = nI r → a1 = wnI Y W h r)) ((tp + 1) * nv Y 257 h) ⟨0, Nat.zero_le _, rfl, rfl, rfl, fun r _ e => absurd e (n1_eq (by omega)).mp⟩ ?_
  rintro ii a0 a1 a2 ⟨i, hi, hii, rfl, rfl, hv⟩ L hL
  unfold lX0_roomFor_9 wX0_roomFor_93 wX4_place
  have ei : nI i + 1 = nI (i + 1) := nI_add i 1
  have em : (nI tp + 1) * x.1 (30 + 3 * h) 4 = nI ((tp + 1) * nv Y 257 h) := by
    rw [t4, v4.1]
    have : nI tp + 1 = nI (tp + 1) := nI_add tp 1
    rw [this, pk_mul]
  rw [em, q_le (by omega) (by omega), ei]
  refine ⟨fun q => ?_, fun q => ?_⟩
  · have : i = (tp + 1) * nv Y 257 h := by omega
    subst this
    exact k
  have ep : x.1 (30 + 3 * h) 0 * 24 + nI i = nI (24 * h + i) := by
    rw [u0]
    have : nI h * 24 = nI (h * 24) := pk_mul h 24
    rw [this, nI_add, Nat.mul_comm]
  rw [ep]
  refine c_burns t w (by omega) ?_
  have ms : rmF Y W h b (i + 1) = if bu Y (24 * h + i) = true ∧ (rmF Y W h b i = -nI 1 ∨ (b = true ∧ wnI Y W h (rmF Y W h b i).toNatClampNeg < wnI Y W h i)) then nI i else rmF Y W h b i := rfl
  have keep : ¬ (bu Y (24 * h + i) = true ∧ (rmF Y W h b i = -nI 1 ∨ (b = true ∧ wnI Y W h (rmF Y W h b i).toNatClampNeg < wnI Y W h i))) → L (rmF Y W h b i) a1 (nI (i + 1)) := by
    intro u
    have e' : rmF Y W h b (i + 1) = rmF Y W h b i := by rw [ms, if_neg u]
    exact hL _ _ _ _ (by omega) ⟨i + 1, by omega, rfl, e'.symm, rfl, by rw [e']; exact hv⟩
  cases eb : bu Y (24 * h + i)
  · exact y0 (keep (fun u => by rw [eb] at u; exact absurd u.1 (by decide)))
  have warm : x.1 11 7 = nI 0 := by
    by_cases c : x.1 11 7 = nI 0
    · exact c
    · exfalso
      have := t.2.2.2.2.2 c (24 * h + i) (by omega)
      have z : nv Y 266 (24 * h + i) = 0 := nv_of this (by decide)
      unfold bu at eb
      rw [z, decide_eq_false (by decide : ¬ 300 ≤ 0), Bool.false_and] at eb
      cases eb
  have vk : vp_in (nI (24 * h + i)) 288 := (vpi (by omega) (by decide)).mpr trivial
  have ewn : x.1 12 (24 * h + i) - x.1 14 (24 * h + i) / 4 = wnI Y W h i := by
    rw [(t.2.2.1 _ (by omega)).1, hw warm _ (by omega)]; rfl
  rw [cl_nI (by omega), ewn]
  have take : (rmF Y W h b i = -nI 1 ∨ (b = true ∧ wnI Y W h (rmF Y W h b i).toNatClampNeg < wnI Y W h i)) → L (nI i) (wnI Y W h i) (nI (i + 1)) := by
    intro u
    have e' : rmF Y W h b (i + 1) = nI i := by rw [ms, if_pos ⟨eb, u⟩]
    refine hL _ _ _ _ (by omega) ⟨i + 1, by omega, rfl, e'.symm, rfl, fun r hr e => ?_⟩
    rw [e', q_eq (by omega) (by omega)] at e
    rw [e]
  refine y1 ⟨vk, vk, fun q1 => take (Or.inl q1), fun q1 => ?_⟩
  have q1 : ¬ rmF Y W h b i = -nI 1 := q1
  rcases rmF_d Y W h b i with e | ⟨r, hr, e, o⟩
  · exact absurd e q1
  have ev := hv r (by omega) e
  cases eb2 : b
  · rw [eb2] at keep
    rw [eb2] at q1
    exact y0 (keep (fun u => u.2.elim q1 (fun g => absurd g.1 (by decide))))
  · rw [ev]
    rw [eb2] at take keep e
    rw [e, cl_nI (by omega)] at take keep
    rw [ev] at keep
    refine y1 ⟨fun q2 => ?_, fun q2 => take (Or.inr ⟨rfl, Int32.not_le.mp q2⟩)⟩
    rw [e]
    exact keep (fun u => u.2.elim (n1_eq' (by omega)).mp (fun g => absurd g.2 (Int32.not_lt.mpr q2)))
theorem tpf_d {Y : Nat → Nat → Int32} {h A : Nat} (hf : 1 ≤ nv Y 256 h) : tpf Y h A = -nI 1 ∨ ∃ t, t < nv Y 256 h ∧ tpf Y h A = nI t := by
  unfold tpf
  split
  · exact Or.inl rfl
  · unfold tfl
    split
    · refine Or.inr ⟨_, ?_, rfl⟩
      have := Nat.min_le_left (nv Y 256 h) ((A - 100 * hdw Y (nv Y 254 h) (hdr Y (nv Y 254 h)).toNatClampNeg) / 20)
      omega
    · exact Or.inl rfl
theorem m_room {x : ab_X} {Y : Nat → Nat → Int32} (m : keepM Y x.1) (w : WW Y) {W : Nat → Int32} {h j : Nat} (hh : h < nv Y 246 31) (hj : j < nv Y 246 58) (hs : nv Y 279 j < 2) (hw : ∀ k, k < 288 → x.1 268 k = W k) {K : Int32 → Prop} (k : K (rmI Y W h (tpf Y h (nv Y 283 j)))) : wX12_roomFor (nI j) (nI h) x K := by
  have b31 := w.b31
  obtain ⟨v1, v2, v3, v3', v4, v4', -⟩ := w.ho.1 h hh
  have l3 := v3.2
  have l4 := v4.2
  have rl := rm_le w.tw hh
  have vh : vp_in (nI h) 12 := (vpi (by omega) (by decide)).mpr trivial
  unfold wX12_roomFor
  refine m_reachOf m w hh hj hs ?_
  refine m_hasChief m w ?_
  generalize htp : tpf Y h (nv Y 283 j) = tp at k
  obtain ⟨M, hM, hM2, eM, sk⟩ : ∃ M, M ≤ nv Y 256 h * nv Y 257 h ∧ rmI Y W h tp = rmF Y W h (ldB Y h) M ∧ True ∧ ∀ i, i < nv Y 256 h * nv Y 257 h → (tp < nI (i / nv Y 257 h) ↔ M ≤ i) := by
    rcases tpf_d (Y := Y) (h := h) (A := nv Y 283 j) v3' with e | ⟨t, ht, e⟩
    · rw [htp] at e
      refine ⟨0, Nat.zero_le _, by unfold rmI; rw [if_pos e]; rfl, trivial, fun i hi => ?_⟩
      rw [e, n1_lt (by have := Nat.div_le_self i (nv Y 257 h); omega)]
      exact ⟨fun _ => Nat.zero_le _, fun _ => trivial⟩
    · rw [htp] at e
      refine ⟨(t + 1) * nv Y 257 h, Nat.mul_le_mul_right _ ht, ?_, trivial, fun i hi => ?_⟩
      · unfold rmI; rw [e, if_neg (by rw [n1_eq' (by omega)]; exact id), cl_nI (by omega)]
      · rw [e, q_lt (by omega) (by have := Nat.div_le_self i (nv Y 257 h); omega)]
        exact ⟨fun q => by have := (Nat.le_div_iff_mul_le (by omega : 0 < nv Y 257 h)).mp q; exact this, fun q => (Nat.le_div_iff_mul_le (by omega : 0 < nv Y 257 h)).mpr q⟩
  rw [hM2] at k
  refine Lp2.ind (fun ii a0 a1 => ∃ i, i ≤ nv Y 256 h * nv Y 257 h ∧ ii = nv Y 256 h * nv Y 257 h - i ∧ a0 = rmF Y W h (ldB Y h) (min i M) ∧ a1 = nI i) (nv Y 256 h * nv Y 257 h) ⟨0, Nat.zero_le _, rfl, by rw [Nat.zero_min]; rfl, rfl⟩ ?_
  rintro ii a0 a1 ⟨i, hi, hii, rfl, rfl⟩ L hL
  unfold lX12_roomFor_20 wX12_roomFor_90
  have ei : nI i + 1 = nI (i + 1) := nI_add i 1
  rw [cl_nI (by omega), m.c256, m.c257, v3.1, v4.1, pk_mul, q_le (by omega) (by omega), ei]
  refine ⟨vh, vh, fun q => ?_, fun q => ?_⟩
  · have : i = nv Y 256 h * nv Y 257 h := by omega
    rw [this, Nat.min_eq_right hM]
    exact k
  have hi' : i < nv Y 256 h * nv Y 257 h := by omega
  refine m_floorOf m.f w.tw hh (by omega) ?_
  rw [sk i hi']
  refine ⟨fun q1 => hL _ _ _ (by omega) ⟨i + 1, by omega, rfl, by rw [Nat.min_eq_right q1, Nat.min_eq_right (by omega)], rfl⟩, fun q1 => ?_⟩
  have em : min i M = i := Nat.min_eq_left (by omega)
  have em1 : min (i + 1) M = i + 1 := Nat.min_eq_left (by omega)
  rw [em]
  refine m_burns m.f w.tw hh hi' ?_
  have ms : rmF Y W h (ldB Y h) (i + 1) = if bu Y (24 * h + i) = true ∧ (rmF Y W h (ldB Y h) i = -nI 1 ∨ (ldB Y h = true ∧ wnI Y W h (rmF Y W h (ldB Y h) i).toNatClampNeg < wnI Y W h i)) then nI i else rmF Y W h (ldB Y h) i := rfl
  have keep : ¬ (bu Y (24 * h + i) = true ∧ (rmF Y W h (ldB Y h) i = -nI 1 ∨ (ldB Y h = true ∧ wnI Y W h (rmF Y W h (ldB Y h) i).toNatClampNeg < wnI Y W h i))) → L (rmF Y W h (ldB Y h) i) (nI (i + 1)) := fun u => hL _ _ _ (by omega) ⟨i + 1, by omega, rfl, by rw [em1, ms, if_neg u], rfl⟩
  have take : (bu Y (24 * h + i) = true ∧ (rmF Y W h (ldB Y h) i = -nI 1 ∨ (ldB Y h = true ∧ wnI Y W h (rmF Y W h (ldB Y h) i).toNatClampNeg < wnI Y W h i))) → L (nI i) (nI (i + 1)) := fun u => hL _ _ _ (by omega) ⟨i + 1, by omega, rfl, by rw [em1, ms, if_pos u], rfl⟩
  have want : ∀ r, r < 24 → ∀ K' : Int32 → Prop, K' (wnI Y W h r) → wX12_wantedAt (nI h) (nI r) x K' := by
    intro r hr K' k'
    unfold wX12_wantedAt
    have e1 : 24 * nI h + nI r = nI (24 * h + r) := by
      have : 24 * nI h = nI (24 * h) := pk_mul 24 h
      rw [this, nI_add]
    rw [e1, cl_nI (by omega), m.c266, hw _ (by omega)]
    have vk : vp_in (nI (24 * h + r)) 288 := (vpi (by omega) (by decide)).mpr trivial
    exact ⟨vk, vk, k'⟩
  cases eb : bu Y (24 * h + i)
  · exact x0 (keep (fun u => by rw [eb] at u; exact absurd u.1 (by decide)))
  refine x1 ⟨fun q2 => take ⟨eb, Or.inl q2⟩, fun q2 => ?_⟩
  have q2 : ¬ rmF Y W h (ldB Y h) i = -nI 1 := q2
  rcases rmF_d Y W h (ldB Y h) i with e | ⟨r, hr, e, o⟩
  · exact absurd e q2
  cases el : ldB Y h
  · rw [el] at keep q2
    exact y0 (keep (fun u => u.2.elim q2 (fun g => absurd g.1 (by decide))))
  · rw [el] at keep take e
    rw [e, cl_nI (by omega)] at keep take
    rw [e]
    refine y1 (want i (by omega) _ (want r (by omega) _ ⟨fun q3 => ?_, fun q3 => take ⟨eb, Or.inr ⟨rfl, Int32.not_le.mp q3⟩⟩⟩))
    exact keep (fun u => u.2.elim (n1_eq' (by omega)).mp (fun g => absurd g.2 (Int32.not_lt.mpr q3)))
