/-! THE STATE AT THE LAW'S ENTRY. -/
theorem st_inst : ∀ c, c ≤ 12 → Cond.instantiable (ab_RX c) (ab_N c) ∈ ab_G
  | 0, _ => ab_in 352 (by decide +kernel) (by decide +kernel)
  | 1, _ => ab_in 500 (by decide +kernel) (by decide +kernel)
  | 2, _ => ab_in 404 (by decide +kernel) (by decide +kernel)
  | 3, _ => ab_in 170 (by decide +kernel) (by decide +kernel)
  | 4, _ => ab_in 208 (by decide +kernel) (by decide +kernel)
  | 5, _ => ab_in 621 (by decide +kernel) (by decide +kernel)
  | 6, _ => ab_in 122 (by decide +kernel) (by decide +kernel)
  | 7, _ => ab_in 666 (by decide +kernel) (by decide +kernel)
  | 8, _ => ab_in 593 (by decide +kernel) (by decide +kernel)
  | 9, _ => ab_in 362 (by decide +kernel) (by decide +kernel)
  | 10, _ => ab_in 162 (by decide +kernel) (by decide +kernel)
  | 11, _ => ab_in 114 (by decide +kernel) (by decide +kernel)
  | 12, _ => ab_in 1842 (by decide +kernel) (by decide +kernel)
  | n + 13, h => absurd h (by omega)
theorem st_D {s : State} {args : Array Value} (hts : ∀ w ∈ ab_G, w.before args s = true) : ∃ D : va_G, ∀ (c : Nat) (q : vw_C), ab_cl[c]? = some q → u_Kn s q.1 q.2.1 q.2.2 (D.1 c) (D.2 c) := by
  have h0 : ∀ c : Nat, ∃ q : ClassId × (Nat → Nat), c ≤ 12 → u_Kn s (ab_RX c) (ab_TX c) (ab_N c) q.1 q.2 := by
    intro c
    by_cases hc : c ≤ 12
    · obtain ⟨cC, iS, h⟩ := u_known (C := ab_RX c) (T := ab_TX c) (N := ab_N c) (n := ab_N c) hts (ab_cf c hc).1 (hts _ (st_inst c hc))
      exact ⟨(cC, iS), fun _ => h⟩
    · exact ⟨(0, fun _ => 0), fun h => absurd h hc⟩
  obtain ⟨f, hf⟩ := Classical.axiomOfChoice h0
  refine ⟨((fun c => (f c).1), (fun c => (f c).2)), fun c q hq => ?_⟩
  have hc : c ≤ 12 := by
    have := (List.getElem?_eq_some_iff.mp hq).1
    have e : ab_cl.length = 13 := rfl
    omega
  have e := Option.some.inj (hq.symm.trans (ab_cl_at hc))
  subst e
  exact hf c hc
theorem st_arr {s : State} {args : Array Value} {ty : FieldType} (hn : ∀ C, ty ≠ .object C) (h : (Cond.arrayClass ty).before args s = true) : ∃ cA, ArrOfT s cA ty ∧ va_RA s cA ty := by
  obtain ⟨cA, kA, comp, h1, h2, h3⟩ := Cond.arrayClass_spec h
  refine ⟨cA, fun n z => ⟨fun k h => (by cases h), kA, h2, comp, h3⟩, ?_⟩
  cases ty <;> first | exact h1 | exact absurd rfl (hn _)
theorem st_arrO {s : State} {args : Array Value} {C : String} (h : (Cond.arrayOver (.object C)).before args s = true) : ∃ cA, ArrOfT s cA (.object C) ∧ va_RA s cA (.object C) := by
  obtain ⟨comp, cA, kA, h1, h2, h3, h4, h5⟩ := Cond.arrayOver_spec h
  exact ⟨cA, fun n z => ⟨fun k h => (by cases h), kA, h3, comp, h4⟩, kA, comp, h3, h4, h1, h5⟩
theorem st_T {s : State} {args : Array Value} (hts : ∀ w ∈ lw_tbl, w.before args s = true) : ∃ tyc : Nat → ClassId, ∀ (k : Nat) (q : ClassId × FieldType), (ab_tys tyc)[k]? = some q → ArrOfT s q.1 q.2 ∧ va_RA s q.1 q.2 := by
  have h0 : ∀ t : Nat, ∃ cA : ClassId, t < 9 → ArrOfT s cA (ab_ty t) ∧ va_RA s cA (ab_ty t) := by
    intro t
    match t with
    | 0 => obtain ⟨cA, h⟩ := st_arr (ty := ab_ty 0) (fun C e => by cases e) (hts _ (List.mem_of_getElem? (i := 159) (by decide +kernel))); exact ⟨cA, fun _ => h⟩
    | 1 => obtain ⟨cA, h⟩ := st_arr (ty := ab_ty 1) (fun C e => by cases e) (hts _ (List.mem_of_getElem? (i := 160) (by decide +kernel))); exact ⟨cA, fun _ => h⟩
    | 2 => obtain ⟨cA, h⟩ := st_arr (ty := ab_ty 2) (fun C e => by cases e) (hts _ (List.mem_of_getElem? (i := 619) (by decide +kernel))); exact ⟨cA, fun _ => h⟩
    | 3 => obtain ⟨cA, h⟩ := st_arr (ty := ab_ty 3) (fun C e => by cases e) (hts _ (List.mem_of_getElem? (i := 2750) (by decide +kernel))); exact ⟨cA, fun _ => h⟩
    | 4 => obtain ⟨cA, h⟩ := st_arr (ty := ab_ty 4) (fun C e => by cases e) (hts _ (List.mem_of_getElem? (i := 2213) (by decide +kernel))); exact ⟨cA, fun _ => h⟩
    | 5 => obtain ⟨cA, h⟩ := st_arrO (C := "CityBrigade$House") (hts _ (List.mem_of_getElem? (i := 168) (by decide +kernel))); exact ⟨cA, fun _ => h⟩
    | 6 => obtain ⟨cA, h⟩ := st_arrO (C := "CityBrigade$Crew") (hts _ (List.mem_of_getElem? (i := 358) (by decide +kernel))); exact ⟨cA, fun _ => h⟩
    | 7 => obtain ⟨cA, h⟩ := st_arrO (C := "CityBrigade$Call") (hts _ (List.mem_of_getElem? (i := 360) (by decide +kernel))); exact ⟨cA, fun _ => h⟩
    | 8 => obtain ⟨cA, h⟩ := st_arrO (C := "CityBrigade$Text") (hts _ (List.mem_of_getElem? (i := 627) (by decide +kernel))); exact ⟨cA, fun _ => h⟩
    | n + 9 => exact ⟨0, fun h => absurd h (by omega)⟩
  obtain ⟨f, hf⟩ := Classical.axiomOfChoice h0
  refine ⟨f, fun k q hq => ?_⟩
  have hk : k < 9 := by
    have := (List.getElem?_eq_some_iff.mp hq).1
    simpa [ab_tys] using this
  have e := Option.some.inj (hq.symm.trans (ab_tys_at hk))
  subst e
  exact hf k hk
def stm : Nat → Term
  | 0 => .string "CityBrigade$Tape" 15
  | 1 => .string "CityBrigade$Tape" 40
  | 2 => .string "CityBrigade$Tape" 50
  | 3 => .string "CityBrigade$Tape" 70
  | _ => .string "CityBrigadeModel" 208
def st_fl : List Cond := flatC (Jvm.Cond.and given_1 narrow_1)
theorem st_1 : ∀ i : Nat, i < 5 → ab_slen.getD i 0 < 2 ^ 31 := by decide
theorem st_2 : ∀ i : Nat, i < 5 → Cond.exactly (stm i) "java/lang/String" ∈ st_fl := by decide +kernel
theorem st_3 : ∀ i : Nat, i < 5 → Cond.eq (.field (stm i) "java/lang/String" "coder" "B") (.int 0) ∈ st_fl := by decide +kernel
theorem st_4 : ∀ i : Nat, i < 5 → Cond.arrayOf (.field (stm i) "java/lang/String" "value" "[B") .byte ∈ st_fl := by decide +kernel
theorem st_5 : ∀ i : Nat, i < 5 → Cond.eq (.length (.field (stm i) "java/lang/String" "value" "[B")) (.int (Int32.ofNat (ab_slen.getD i 0))) ∈ st_fl := by decide +kernel
theorem st_6 : ∀ i : Nat, i < 5 → ∀ j : Nat, j < ab_slen.getD i 0 → Cond.eq (.elem (.field (stm i) "java/lang/String" "value" "[B") (.int (Int32.ofNat j))) (.int ((ab_sbyt.getD i []).getD j 0)) ∈ st_fl := by decide +kernel
theorem st_7 : ∀ i : Nat, i < 5 → ∀ j : Nat, j < 5 → i ≠ j → Cond.not (Cond.eq (stm i) (stm j)) ∈ st_fl ∨ Cond.not (Cond.eq (stm j) (stm i)) ∈ st_fl := by decide +kernel
theorem st_8 : Cond.eq (.static "java/lang/String" "COMPACT_STRINGS" "Z") (.int 1) ∈ st_fl := by decide +kernel
theorem st_9 : Cond.eq (stm 0) (.string "CityBrigadeModel" 503) ∈ st_fl ∧ Cond.eq (stm 1) (.string "CityBrigadeModel" 505) ∈ st_fl ∧ Cond.eq (stm 2) (.string "CityBrigadeModel" 507) ∈ st_fl := by decide +kernel
theorem st_10 : Cond.isRef (.static Bundle.tN "UNASSIGNED_STACK" Bundle.steD) ∈ st_fl ∧ Cond.isRef (.static Bundle.tN "SUPPRESSED_SENTINEL" Bundle.listD) ∈ st_fl := by decide +kernel
theorem st_same {s : State} {args : Array Value} {a b : Term} {q : Nat} (h : (Cond.eq a b).before args s = true) (ha : a.eval args s none [] s = some (.ref q)) : b.eval args s none [] s = some (.ref q) := by
  obtain ⟨y, h1, h2⟩ := Cond.eq_one (show (Cond.eq a b).holds args s none s [] = true from h)
  rw [ha] at h1
  rw [h2, ← h1]
theorem st_ST {s : State} {args : Array Value} (hts : ∀ w ∈ lw_tbl, w.before args s = true) (hg : (Jvm.Cond.and given_1 narrow_1).before args s = true) : ∃ adK adV : Nat → Nat, ab_ST adK adV (fun q : Nat => s.heap.size ≤ q) s := by
  have hs : ∀ c ∈ st_fl, c.before args s = true := flat_of_before _ hg
  have hA : ∀ a : Nat, a < s.heap.size → ¬ (fun q : Nat => s.heap.size ≤ q) a := fun a h q => absurd h (Nat.not_lt.mpr q)
  obtain ⟨adK, adV, h1, h2⟩ := vk_Sof (tm := stm) (len := ab_slen) (byt := ab_sbyt) st_1 (fun i hi => hs _ (st_2 i hi)) (fun i hi => hs _ (st_3 i hi)) (fun i hi => hs _ (st_4 i hi)) (fun i hi => hs _ (st_5 i hi)) (fun i hi j hj => hs _ (st_6 i hi j hj)) (fun i j hi hj e => (st_7 i hi j hj e).imp (hs _) (hs _)) hA
  refine ⟨adK, adV, h1, va_Zof (hts _ (List.mem_of_getElem? (i := 1244) (by decide +kernel))) (hts _ (List.mem_of_getElem? (i := 106) (by decide +kernel))) (va_eqt (hs _ st_8)) hA, vk_R.of (hts _ (List.mem_of_getElem? (i := 598) (by decide +kernel))) (h2 0 (by decide)), vk_R.of (hts _ (List.mem_of_getElem? (i := 1175) (by decide +kernel))) (h2 1 (by decide)), vk_R.of (hts _ (List.mem_of_getElem? (i := 1313) (by decide +kernel))) (h2 2 (by decide)), vk_R.of (hts _ (List.mem_of_getElem? (i := 1322) (by decide +kernel))) (h2 3 (by decide)), vk_R.of (hts _ (List.mem_of_getElem? (i := 1847) (by decide +kernel))) (h2 4 (by decide)), vk_R.of (hts _ (List.mem_of_getElem? (i := 2412) (by decide +kernel))) (st_same (hs _ st_9.1) (h2 0 (by decide))), vk_R.of (hts _ (List.mem_of_getElem? (i := 2413) (by decide +kernel))) (st_same (hs _ st_9.2.1) (h2 1 (by decide))), vk_R.of (hts _ (List.mem_of_getElem? (i := 2414) (by decide +kernel))) (st_same (hs _ st_9.2.2) (h2 2 (by decide)))⟩
theorem st_NW {s : State} {args : Array Value} (hts : ∀ w ∈ lw_tbl, w.before args s = true) : ab_NW s := by
  intro w hw
  obtain ⟨h1, h2⟩ := List.mem_filter.mp hw
  have h3 := hts w (List.mem_append_right _ h1)
  cases w <;> first | exact va_Nw.of rfl h3 | cases h2
set_option maxHeartbeats 4000000 in
theorem whole_start {p : Program} {e : Env} {s : State} {m : MethodId} {below : List Frame} {meth : Method} {c : Code} (l : Launch) {b L : Nat} {xs : Nat → Int32} (hL : L ≤ 3072) (hl0 : l.stackTraces = false) (hnm : meth.name = "law") (C0 : lw_At p s m meth c b L xs) : W p l e room_1 s m #[Value.ref b] below meth c s.heap [] 0 0 (lw_Z below #[Value.ref b] s) (entryFrame m ([Value.ref b] : List Value).toArray 9) := by
  obtain ⟨c1, c2, c3, c4, c5, hts, hX, hbl, c9, hg⟩ := C0
  have htg : ∀ w ∈ ab_G, w.before #[Value.ref b] s = true := fun w hw => hts w (List.mem_filter.mp hw).1
  have hs : ∀ c ∈ st_fl, c.before #[Value.ref b] s = true := flat_of_before _ hg
  have hA : ∀ a : Nat, a < s.heap.size → ¬ (fun q : Nat => s.heap.size ≤ q) a := fun a h q => absurd h (Nat.not_lt.mpr q)
  obtain ⟨D, hD⟩ := st_D htg
  obtain ⟨tyc, hT⟩ := st_T hts
  obtain ⟨adK, adV, hST⟩ := st_ST hts hg
  have hl := lv_entry [.ref b] (n := 9) (by show 1 ≤ 9; decide)
  rw [lg_entry_eq]
  generalize (lg_sl [Value.ref b] ++ List.replicate (9 - (lg_sl [Value.ref b]).length) Slot.unset).toArray = ls at hl
  have hl : lv_has ls 9 [(0, Value.ref b)] := hl
  have hT0 : lw_T l s b := ⟨hl0, vx_Zqof (hts _ (List.mem_of_getElem? (i := 1806) (by decide +kernel))) (hts _ (List.mem_of_getElem? (i := 101) (by decide +kernel))) (hs _ st_10.1) hA, vx_Zqof (hts _ (List.mem_of_getElem? (i := 1808) (by decide +kernel))) (hts _ (List.mem_of_getElem? (i := 101) (by decide +kernel))) (hs _ st_10.2) hA, hts⟩
  have hw : ∀ ad : Nat → Nat, ab_w tyc ad (cLs []) = [] := fun ad => rfl
  have key := law_0 (xs := xs) hL p l e s m below meth c D tyc adK adV s.heap [] 0 0 (fun q => if q < 2000000 then adK (q - 1000000) else adV (q - 2000000)) s.drawn ls b
    ⟨c1, c2, c3, c4, c5, htg, c9, ⟨hD, hT⟩, st_NW hts, fun q h => h, hnm, hST⟩
    (by rw [hw]; intro k q h; cases h) (by rw [hw]; exact ⟨fun i j p q h => (by cases h), fun k q h => (by cases h)⟩) va_S.rf hl
    (fun j hj => ⟨by show (if 1000000 + j < 2000000 then adK (1000000 + j - 1000000) else _) = _; rw [if_pos (by omega), Nat.add_sub_cancel_left], by show (if 2000000 + j < 2000000 then _ else adV (2000000 + j - 2000000)) = _; rw [if_neg (by omega), Nat.add_sub_cancel_left]⟩)
    ⟨hX, hT0⟩ hbl (Drawn.sameBut.refl _ _) (by decide) (by decide)
  exact key
