set_option maxHeartbeats 8000000 in
theorem p_law {L : Nat} {xs : Nat → Int32} (hL : L ≤ 3072) {x0 : ab_X} (h0 : InvA x0) (t0 : InvT x0.1) : Lp2 (lL_law_23 L xs) 0 x0 := by
  refine Lp2.ind (fun i v x => ∃ j, v = nI j ∧ j ≤ 3078 ∧ i = 4000 - j ∧ InvA x ∧ InvT x.1) 4000 ⟨0, rfl, by decide, rfl, h0, t0⟩ ?_
  rintro i v x ⟨j, rfl, hj, rfl, h, ht⟩ L23 hL23
  by_cases q : (Int32.ofNat L) - 6 < nI j
  · unfold lL_law_23
    exact ⟨fun _ => trivial, fun u => absurd q u⟩
  have hjL : j + 6 ≤ L := by
    have e := pk_sub_toInt (a := L) (b := 6) (by omega) (by omega)
    have e2 := nI_toInt (n := j) (by omega)
    have e3 : ¬ (nI L - nI 6).toInt < (nI j).toInt := fun u => q (Int32.lt_iff_toInt_lt.mpr u)
    omega
  have nx : ∀ z, InvA z → InvT z.1 → L23 (nI j + 6) z := fun z a b => hL23 (4000 - (j + 6)) _ _ (by omega) ⟨j + 6, nI_add j 6, by omega, rfl, a, b⟩
  have nk : ∀ z, InvA z → keepT x.1 z.1 → L23 (nI j + 6) z := fun z a b => nx z a (InvT_keep ht h.2.b72 b)
  have bk : ∀ k, k < 6 → vp_in (nI j + nI k) L := fun k hk => by rw [nI_add]; exact vp_in_nI (by omega) (by omega)
  have b0 : vp_in (nI j) L := vp_in_nI (by omega) (by omega)
  have b1 : vp_in (nI j + 1) L := bk 1 (by decide)
  have b2 : vp_in (nI j + 2) L := bk 2 (by decide)
  have b3 : vp_in (nI j + 3) L := bk 3 (by decide)
  have b4 : vp_in (nI j + 4) L := bk 4 (by decide)
  have b5 : vp_in (nI j + 5) L := bk 5 (by decide)
  clear bk hL23 hj hL hjL
  unfold lL_law_23
  refine ⟨fun u => absurd u q, fun _ => ⟨b0, fun _ => nx x h ht, fun _ => ⟨b1, b2, b3, p_street (h := h) (hk := nk)⟩,
    fun _ => ⟨b1, b2, b3, p_jam (h := h) (hk := nk)⟩,
    fun _ => ⟨b1, b2, fun q0 => by unfold wL_law_383; exact ⟨⟨b1, b2, rfl, fun _ => rfl, fun u => absurd q0 u⟩, p_closed (hb := Or.inl rfl) (h := h) (hk := nk)⟩, fun q0 => by unfold wL_law_383; exact ⟨⟨b1, b2, rfl, fun u => absurd u q0, fun _ => rfl⟩, p_closed (hb := Or.inr rfl) (h := h) (hk := nk)⟩⟩,
    fun _ => ⟨b1, b2, b3, b4, p_come (h := h) (hk := nk)⟩,
    fun _ => ⟨b1, b2, p_feet (h := h) (hk := nk)⟩,
    fun _ => ⟨b1, b2, b3, b4, b5, p_house (h := h) (hk := nk)⟩,
    fun _ => ⟨b1, b2, fun q0 => by unfold wL_law_607; exact ⟨⟨b1, b2, b3, b4, rfl, fun _ => rfl, fun u => absurd q0 u⟩, p_build (hb := Or.inl rfl) (h := h) (hk := nk)⟩, fun q0 => by unfold wL_law_607; exact ⟨⟨b1, b2, b3, b4, rfl, fun u => absurd u q0, fun _ => rfl⟩, p_build (hb := Or.inr rfl) (h := h) (hk := nk)⟩⟩,
    fun _ => ⟨b1, b2, p_use (h := h) (hk := nk)⟩,
    fun _ => ⟨b1, b2, b3, b4, p_floor (h := h) (hk := nk)⟩,
    fun _ => ⟨b1, b2, p_light (h := h) (hk := nk)⟩,
    fun _ => ⟨b1, b2, b3, p_room (h := h) (hk := nk)⟩,
    fun _ => ⟨b1, b2, b3, p_floored (h := h) (hk := nk)⟩,
    fun _ => ⟨b1, b2, p_housed (h := h) (hk := nk)⟩,
    fun _ => ⟨b1, p_main (h := h) (hk := nk)⟩,
    fun _ => ⟨b1, b2, p_head (h := h) (hk := nk)⟩,
    fun _ => ⟨b1, b2, b3, fun q0 => by unfold wL_law_1022; exact ⟨⟨b1, b2, b3, b4, b5, rfl, rfl, fun _ => rfl, fun u => absurd q0 u⟩, p_crew (hc := Or.inl rfl) (h := h) (hk := nk)⟩, fun q0 => by unfold wL_law_1022; exact ⟨⟨b1, b2, b3, b4, b5, rfl, rfl, fun u => absurd u q0, fun _ => rfl⟩, p_crew (hc := Or.inr rfl) (h := h) (hk := nk)⟩⟩,
    fun _ => ⟨b1, b2, b3, b4, p_gear (h := h) (hk := nk)⟩,
    fun _ => ⟨b1, p_heal (h := h) (hk := nk)⟩,
    fun _ => ⟨b1, p_recall (h := h) (hk := nk)⟩,
    fun _ => ⟨b1, b2, p_about (h := h) (hk := nk)⟩,
    fun _ => ⟨b1, b2, p_reach (h := h) (hk := nk)⟩,
    fun _ => ⟨b1, p_call (h := h) (ht := ht) (hk := nk)⟩,
    fun _ => ⟨b1, b2, p_called (h := h) (hk := nk)⟩,
    fun _ => ⟨b1, b2, p_falses (h := h) (hk := nk)⟩,
    fun _ => ⟨b1, b2, b3, b4, b5, p_feed (h := h) (hk := nk)⟩,
    fun _ => ⟨b1, p_end (h := h) (hk := nk)⟩,
    fun _ => ⟨b1, p_fault (h := h) (hk := nk)⟩,
    fun _ => p_orders (h := h) (ht := ht) (hk := nx),
    fun _ => p_leaving (h := h) (ht := ht) (hk := nx),
    fun _ => ⟨b1, b2, b3, p_asks (h := h) (ht := ht) (hk := nk)⟩,
    fun _ => ⟨b1, b2, p_why (h := h) (ht := ht) (hk := nk)⟩,
    fun _ => ⟨b1, p_tick (h := h) (ht := ht) (hk := nk)⟩,
    fun _ => ⟨b1, p_act (h := h) (ht := ht) (hk := nx)⟩,
    fun _ => ⟨b1, b2, p_force (h := h) (hk := nk)⟩,
    fun _ => ⟨b1, b2, b3, p_change (h := h) (hk := nk)⟩,
    fun _ => ⟨b1, b2, p_used (h := h) (hk := nk)⟩,
    fun _ => ⟨b1, p_look (h := h) (hk := nk)⟩,
    fun _ => ⟨b1, b2, p_fails (h := h) (ht := ht) (hk := nk)⟩,
    fun _ => ⟨b1, b2, b3, p_code (h := h) (ht := ht) (hk := nk)⟩,
    fun _ => p_failing (h := h) (ht := ht) (hk := nk),
    fun _ => ⟨b1, b2, b3, p_round (h := h) (ht := ht) (hk := nk)⟩,
    fun _ => ⟨b1, b2, b3, p_rounded (h := h) (ht := ht) (hk := nk)⟩,
    fun _ => ⟨b1, b2, p_plan (h := h) (hk := nk)⟩,
    fun _ => ⟨b1, b2, b3, p_planned (h := h) (hk := nk)⟩,
    fun _ => ⟨b1, p_row (h := h) (hk := nk)⟩,
    fun _ => ⟨b1, b2, b3, p_put (h := h) (hk := nk)⟩,
    fun _ => ⟨b1, p_lose (h := h) (hk := nk)⟩,
    fun _ => ⟨b1, b2, b3, b4, b5, p_copy (h := h) (hk := nk)⟩,
    fun _ => ⟨b1, b2, b3, p_judge (h := h) (hk := nk)⟩,
    fun _ => ⟨b1, b2, b3, b4, p_loss (h := h) (hk := nk)⟩,
    fun _ => ⟨b1, b2, b3, b4, p_what (h := h) (hk := nk)⟩,
    fun _ => ⟨b1, p_count (h := h) (hk := nk)⟩⟩⟩
