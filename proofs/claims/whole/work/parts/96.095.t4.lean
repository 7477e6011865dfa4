/-! A MINUTE, 22: the people in the rooms, the program. -/
theorem c_deadly {x : ab_X} {Y : Nat → Nat → Int32} {h f : Nat} (t : TR 11 x.1 Y) (w : TW Y) (hh : h < nv Y 246 31) (hf : f < nv Y 256 h) {K : Int32 → Prop} (k : K (nI (dd Y h f (nv Y 257 h)))) : wX3_deadlyRooms 11 (30 + 3 * h) (nI f) x K := by
  have b := w.b
  have rl := rm_le w hh
  obtain ⟨v1, v2, v3, v3', v4, v4', -⟩ := w.2.1.1 h hh
  obtain ⟨-, -, -, t4, -⟩ := t.2.1.2.2.1 h hh
  have u0 := (t.2.1.1 h (by omega)).1
  have l3 := v3.2
  have l4 := v4.2
  unfold wX3_deadlyRooms
  refine Lp2.ind (fun ii a c => ∃ q, q ≤ nv Y 257 h ∧ ii = nv Y 257 h - q ∧ a = nI (dd Y h f q) ∧ c = nI q) (nv Y 257 h) ⟨0, Nat.zero_le _, rfl, rfl, rfl⟩ ?_
  rintro ii a c ⟨q, hq, hii, rfl, rfl⟩ L hL
  unfold lX3_deadlyRooms_5 wX4_place
  have ej : nI q + 1 = nI (q + 1) := nI_add q 1
  have e24 : nI (24 * h + (f * nv Y 257 h + q)) = nI h * 24 + (nI f * nI (nv Y 257 h) + nI q) := by
    have : (24 : Int32) = nI 24 := rfl
    rw [this, pk_mul, pk_mul, nI_add, nI_add, Nat.mul_comm h 24]
  rw [t4, v4.1, u0, q_le (by omega) (by omega), ← e24]
  refine ⟨fun u => ?_, fun u => ?_⟩
  · have : q = nv Y 257 h := by omega
    rw [this]; exact k
  have kl : 24 * h + (f * nv Y 257 h + q) < 288 := by
    have := rmlt hf (show q < nv Y 257 h by omega)
    omega
  have st : dd Y h f (q + 1) = dd Y h f q + (if dB Y (24 * h + (f * nv Y 257 h + q)) then 1 else 0) := rfl
  have no : dB Y (24 * h + (f * nv Y 257 h + q)) = false → L (nI (dd Y h f q) + 0) (nI q + 1) := fun e => by
    have e0 : nI (dd Y h f q) + 0 = nI (dd Y h f (q + 1)) := by rw [st, e]; exact Int32.add_zero _
    rw [e0, ej]
    exact hL _ _ _ (by omega) ⟨q + 1, by omega, rfl, rfl, rfl⟩
  refine c_burns t w kl ?_
  have b266 := (w.2.2.1 _ kl).1
  have l266 := b266.2
  have e12 : x.1 (11 + 1) (24 * h + (f * nv Y 257 h + q)) = nI (nv Y 266 (24 * h + (f * nv Y 257 h + q))) := ((t.2.2.1 _ kl).1).trans b266.1
  unfold wX3_deadlyRooms_56 wX3_deadlyRooms_57
  rw [cl_nI (by omega), e12]
  have e600 : (nI (nv Y 266 (24 * h + (f * nv Y 257 h + q))) < 600) ↔ nv Y 266 (24 * h + (f * nv Y 257 h + q)) < 600 := q_lt (by omega) (by decide)
  rw [e600]
  cases eb : bu Y (24 * h + (f * nv Y 257 h + q)) with
  | false => exact ⟨fun _ => no (by unfold dB; rw [eb]; rfl), fun t => absurd rfl t⟩
  | true =>
    refine ⟨fun t => absurd t (by decide), fun _ => ⟨(vpi kl (by decide)).mpr trivial, fun t => no (by unfold dB; rw [eb, decide_eq_false (by omega)]; rfl), fun t => ?_⟩⟩
    have e : dB Y (24 * h + (f * nv Y 257 h + q)) = true := by unfold dB; rw [eb, decide_eq_true (by omega)]; rfl
    have e0 : nI (dd Y h f q) + 1 = nI (dd Y h f (q + 1)) := by rw [st, e]; exact nI_add _ 1
    rw [e0, ej]
    exact hL _ _ _ (by omega) ⟨q + 1, by omega, rfl, rfl, rfl⟩
def Yp (t y : ab_X) : ab_X := wrT (wrT t 272 (fun k => y.1 (30 + 3 * (k / 6) + 2) (k % 6))) 263 (fun i => y.1 (30 + 3 * i) 15)
theorem Yp_o {t y : ab_X} {c : Nat} (p : c ≠ 272) (q : c ≠ 263) : (Yp t y).1 c = t.1 c := by unfold Yp; rw [wrT_n q, wrT_n p]
theorem Yp_nv {t y : ab_X} {c k : Nat} (p : c ≠ 272) (q : c ≠ 263) : nv (Yp t y).1 c k = nv t.1 c k := by unfold nv; rw [Yp_o p q]
def cP (z y : ab_X) : Prop := (∀ c, c < 30 ∨ 65 < c → y.1 c = z.1 c) ∧ (∀ i f, i < 12 → f ≠ 15 → y.1 (30 + 3 * i) f = z.1 (30 + 3 * i) f) ∧ (∀ i, i < 12 → y.1 (30 + 3 * i + 1) = z.1 (30 + 3 * i + 1)) ∧ y.2 = z.2
theorem TR_p {z t y : ab_X} (tr : TR 11 z.1 t.1) (b : nv t.1 246 31 ≤ 12) (c : cP z y) : TR 11 y.1 (Yp t y).1 := by
  obtain ⟨c1, c2, c3, c4⟩ := c
  obtain ⟨t1, ⟨h1, h2, h3, h4⟩, f1, f2, f3, f4⟩ := tr
  have n31 : nv (Yp t y).1 246 31 = nv t.1 246 31 := Yp_nv (by decide) (by decide)
  have epr : ∀ h, prv (Yp t y).1 h = prv t.1 h := fun h => by unfold prv; rw [Yp_o (by decide) (by decide)]
  have enx : ∀ n h, nxt (Yp t y).1 n h = nxt t.1 n h := fun n h => by unfold nxt; rw [Yp_o (by decide) (by decide)]
  refine ⟨by rw [c1 9 (by decide), Yp_o (by decide) (by decide)]; exact t1, ⟨fun h p => ?_, fun h f p p' => ?_, fun h p => ?_, fun h p p' => ?_⟩, fun k p => ?_, fun k p => ?_, ?_, fun u k p => ?_⟩
  · obtain ⟨a0, a1, a2, a3, a4, a5, a6⟩ := h1 h p
    refine ⟨?_, ?_, ?_, ?_, ?_, ?_, ?_⟩
    · rw [c2 h 0 p (by decide)]; exact a0
    · rw [c2 h 6 p (by decide), Yp_o (by decide) (by decide)]; exact a1
    · rw [c2 h 7 p (by decide), Yp_o (by decide) (by decide)]; exact a2
    · rw [c2 h 9 p (by decide), Yp_o (by decide) (by decide)]; exact a3
    · rw [c2 h 14 p (by decide), Yp_o (by decide) (by decide)]; exact a4
    · unfold Yp; rw [wrT_e]
    · rw [c2 h 16 p (by decide), Yp_o (by decide) (by decide)]; exact a6
  · refine ⟨?_, ?_⟩
    · rw [c3 h p, Yp_o (by decide) (by decide)]; exact (h2 h f p p').1
    · unfold Yp; rw [wrT_n (by decide), wrT_e, show (6 * h + f) / 6 = h by omega, show (6 * h + f) % 6 = f by omega]
  · rw [n31] at p
    obtain ⟨a1, a2, a3, a4, a5, a6, a7, a8⟩ := h3 h p
    have p' : h < 12 := by omega
    rw [c2 h 1 p' (by decide), c2 h 2 p' (by decide), c2 h 3 p' (by decide), c2 h 4 p' (by decide), c2 h 5 p' (by decide), c2 h 8 p' (by decide), c2 h 10 p' (by decide), c2 h 11 p' (by decide), epr, n31, enx, Yp_o (by decide) (by decide), Yp_o (by decide) (by decide), Yp_o (by decide) (by decide), Yp_o (by decide) (by decide), Yp_o (by decide) (by decide), Yp_o (by decide) (by decide)]
    exact ⟨a1, a2, a3, a4, a5, a6, a7, a8⟩
  · rw [n31] at p
    rw [c2 h 8 p' (by decide), c2 h 10 p' (by decide), c2 h 11 p' (by decide)]
    exact h4 h p p'
  · rw [c1 (11 + 1) (by decide), c1 (11 + 2) (by decide), c1 (11 + 6) (by decide), Yp_o (by decide) (by decide), Yp_o (by decide) (by decide)]; exact f1 k p
  · rw [c1 (11 + 4) (by decide), c1 (11 + 5) (by decide), Yp_o (by decide) (by decide), Yp_o (by decide) (by decide)]; exact f2 k p
  · rw [c1 11 (by decide)]; exact f3
  · rw [c1 11 (by decide)] at u
    rw [Yp_o (by decide) (by decide)]; exact f4 u k p
theorem TW_p {t y : ab_X} (w : TW t.1) (b : ∀ k, k < 72 → ∃ n, n ≤ 20 ∧ y.1 (30 + 3 * (k / 6) + 2) (k % 6) = nI n) : TW (Yp t y).1 := by
  have e : ∀ c k, c ≠ 272 → c ≠ 263 → nv (Yp t y).1 c k = nv t.1 c k := fun c k p q => Yp_nv p q
  have o : ∀ c, c ≠ 272 → c ≠ 263 → (Yp t y).1 c = t.1 c := fun c p q => Yp_o p q
  obtain ⟨w1, ⟨a1, a2, a3⟩, b1, b2, b3, b4⟩ := w
  unfold nbd at w1 a1 a2 a3 b1
  unfold TW Who Wf nbd
  simp (disch := decide) only [e, o]
  refine ⟨w1, ⟨a1, a2, fun k p => ⟨?_, (a3 k p).2⟩⟩, b1, b2, b3, b4⟩
  obtain ⟨n, hn, en⟩ := b k p
  have e272 : (Yp t y).1 272 k = nI n := by unfold Yp; rw [wrT_n (by decide), wrT_e]; exact en
  have : nv (Yp t y).1 272 k = n := nv_of e272 (by omega)
  rw [this]; exact ⟨e272, hn⟩
