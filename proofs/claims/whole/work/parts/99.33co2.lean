/-! CONSTRUCTORS: loops. -/
theorem cgD_j {A Y : List CellD} {j : Nat} : (A ++ Y).getD (A.length + j) cd0 = Y.getD j cd0 := by
  rw [List.getD_eq_getElem?_getD, List.getElem?_append_right (Nat.le_add_right _ _), Nat.add_sub_cancel_left, List.getD_eq_getElem?_getD]
theorem cset_j {A Y : List CellD} {j : Nat} {x : CellD} : (A ++ Y).set (A.length + j) x = A ++ Y.set j x := by
  rw [List.set_append_right _ _ (Nat.le_add_right _ _), Nat.add_sub_cancel_left]
theorem okC_setj {A Y : List CellD} {j : Nat} {x : CellD} (h : okC (A ++ Y)) (hj : j < Y.length) (hx : ∀ k r, x.2.2 k = some r → r < A.length + Y.length ∨ 1000000 ≤ r) : okC (A ++ Y.set j x) := by
  intro c hc k r e
  rw [List.length_append, List.length_set]
  rcases List.mem_append.mp hc with q | q
  · have := h c (List.mem_append_left _ q) k r e
    rw [List.length_append] at this; exact this
  · rcases List.mem_or_eq_of_mem_set q with q | q
    · have := h c (List.mem_append_right _ q) k r e
      rw [List.length_append] at this; exact this
    · rw [q] at e; exact hx k r e
theorem okC_j {A Y : List CellD} {j : Nat} (h : okC (A ++ Y)) (hj : j < Y.length) {k r : Nat} (e : (Y.getD j cd0).2.2 k = some r) : r < A.length + Y.length ∨ 1000000 ≤ r := by
  have hm : Y.getD j cd0 ∈ Y := by
    rw [List.getD_eq_getElem?_getD, List.getElem?_eq_getElem hj]
    exact List.getElem_mem hj
  have := h _ (List.mem_append_right _ hm) k r e
  rw [List.length_append] at this; exact this
/-- a row of references, filled up to i -/
def rwA (t N h0 w i : Nat) : CellD := (.inr (t, N), (fun _ => 0), (fun q => if q < i then some (h0 + w * q) else none))
theorem rwA_0 {t N h0 w : Nat} : rwA t N h0 w 0 = cA t N := by
  unfold rwA cA
  refine congrArg (fun f => ((Sum.inr (t, N) : ab_S), (fun _ => (0 : Int32)), f)) (funext fun q => ?_)
  rw [if_neg (Nat.not_lt_zero q)]
theorem rwA_s {t N h0 w i : Nat} : sR (rwA t N h0 w i) i (h0 + w * i) = rwA t N h0 w (i + 1) := by
  unfold rwA sR
  refine congrArg (fun f => ((Sum.inr (t, N) : ab_S), (fun _ => (0 : Int32)), f)) (funext fun q => ?_)
  show (if q = i then some (h0 + w * i) else if q < i then some (h0 + w * q) else none) = if q < i + 1 then some (h0 + w * q) else none
  by_cases e : q = i
  · rw [if_pos e, if_pos (by omega), e]
  · rw [if_neg e]
    by_cases e2 : q < i
    · rw [if_pos e2, if_pos (by omega)]
    · rw [if_neg e2, if_neg (by omega)]
/-- the things that a loop has made -/
def flL (f : Nat → Nat → List CellD) (h0 w : Nat) : Nat → List CellD
  | 0 => []
  | i + 1 => flL f h0 w i ++ f (h0 + w * i) i
theorem flL_len {f : Nat → Nat → List CellD} {h0 w : Nat} (hf : ∀ a b, (f a b).length = w) : ∀ i, (flL f h0 w i).length = w * i
  | 0 => by show 0 = w * 0; omega
  | i + 1 => by
    show (flL f h0 w i ++ f (h0 + w * i) i).length = _
    rw [List.length_append, flL_len hf i, hf, Nat.mul_succ]
section CWL
variable {M : ab_M} {A : List CellD} {d : Nat} {K : Option Value → ab_St → Prop}
set_option maxHeartbeats 4000000 in
theorem CW_loop {kk : Fin 4} {q N idxa idxn ci ka cj t w bcj bsj j h0 p0 p1 p2 p3 p4 p5 p6 p7 p8 p9 p10 p11 p12 b s' : Nat} {off off2 : Int} {vN : Int32} {o : CellD} {pre post : List CellD} {lvf : Int32 → List (Nat × Value)} {mkf : Nat → Nat → List CellD}
    (hj : pre.length = j) (hh : A.length + 1 + j + 1 + post.length = h0) (hw : ∀ a b, (mkf a b).length = w) (hw1 : 1 ≤ w) (hsh : ∀ a b, ((mkf a b).getD 0 cd0).1 = .inl cj) (hvN : vN = nI N) (hN : N ≤ 1000) (hA : A.length + j + post.length + w * N < 600000)
    (l0 : ∀ v, (lvf v)[0]? = some (0, .ref A.length)) (lq : ∀ v, (lvf v)[q]? = some ((kk : Nat), .int v)) (lo : ∀ v, lvO A.length (lvf v))
    (e0 : decode M.2.1 p0 = .ok (.iload_n kk, 1)) (g1 : p0 + 1 = p1) (e1 : ∀ v st σ bc bs, EC M p2 (lvf v) (.int vN :: st) σ d bc bs K → EC M p1 (lvf v) st σ d bc bs K) (e2 : decode M.2.1 p2 = .ok (.if_icmp .ge off, 3)) (g2 : p2 + 3 = p3) (t2 : (p2 : Int) + off = (p12 : Int))
    (e3 : decode M.2.1 p3 = .ok (.aload_n 0, 1)) (g3 : p3 + 1 = p4) (e4 : decode M.2.1 p4 = .ok (.getfield idxa, 3)) (g4 : p4 + 3 = p5) (hF : ab_L M.1.cls idxa ci ka ∧ ab_isr (ab_tf ci ka) = true) (ho : o.1 = .inl ci) (hr : o.2.2 ka = some (A.length + 1 + j))
    (e5 : decode M.2.1 p5 = .ok (.iload_n kk, 1)) (g5 : p5 + 1 = p6) (hcj : cj ≤ 12) (hkn : Cond.classLink M.1.cls idxn (ab_RX cj) ∈ ab_G ∧ Cond.instantiable (ab_RX cj) (ab_N cj) ∈ ab_G ∧ Cond.initialized (ab_RX cj) ∈ ab_G) (e6 : decode M.2.1 p6 = .ok (.new idxn, 3)) (g6 : p6 + 3 = p7) (e7 : decode M.2.1 p7 = .ok (.dup, 1)) (g7 : p7 + 1 = p8)
    (hcall : ∀ (A' : List CellD) (n' i : Nat) (rest : List Value) (bc bs : Nat), A'.length = n' → n' < 800000 → i < N → A.length < n' → okC (A' ++ [cO cj]) → ab_refs (n' + 1) rest → (rest.map fun v => v.category).sum ≤ 8 → (okC (A' ++ mkf n' i) → EC M p9 (lvf (nI i)) rest (cLs (A' ++ mkf n' i)) d bc bs K) → EC M p8 (lvf (nI i)) (.ref n' :: rest) (cLs (A' ++ [cO cj])) d (bcj + bc) (bsj + bs) K)
    (hast : ∀ {lv : List (Nat × Value)} {st : List Value} {σ : ab_St} {c n v : Nat} {i : Int32} {bc bs : Nat}, c < σ.1 → σ.2.1 c = .inr (t, n) → vp_in i n → v < σ.1 → σ.2.1 v = .inl cj → EC M p10 lv st (ab_ur σ c i.toNatClampNeg (some v)) d bc bs K → EC M p9 lv (.ref v :: .int i :: .ref c :: st) σ d bc bs K)
    (hinc : ∀ v σ bc bs, EC M p11 (lvf (v + 1)) [] σ d bc bs K → EC M p10 (lvf v) [] σ d bc bs K) (e11 : decode M.2.1 p11 = .ok (.goto off2, 3)) (t11 : (p11 : Int) + off2 = (p0 : Int))
    (k : okC (A ++ o :: (pre ++ rwA t N h0 w N :: (post ++ flL mkf h0 w N))) → EC M p12 (lvf (nI N)) [] (cLs (A ++ o :: (pre ++ rwA t N h0 w N :: (post ++ flL mkf h0 w N)))) d b s' K) :
    ∀ m i, i + m = N → okC (A ++ o :: (pre ++ rwA t N h0 w i :: (post ++ flL mkf h0 w i))) → EC M p0 (lvf (nI i)) [] (cLs (A ++ o :: (pre ++ rwA t N h0 w i :: (post ++ flL mkf h0 w i)))) d (m * (bcj + 1) + b) (m * (bsj + ab_N cj) + s') K := by
  intro m
  induction m with
  | zero =>
    intro i hi hok
    have e : i = N := by omega
    subst e
    refine EC_iload_n (k := kk) g1 e0 q (lq _) ?_
    refine e1 _ _ _ _ _ ?_
    refine EC_icmp_ge g2 e2 t2 (fun _ => ?_) (fun u => absurd (by rw [hvN]; exact Int32.le_refl _) u)
    have hb : 0 * (bcj + 1) + b = b := by omega
    have hs : 0 * (bsj + ab_N cj) + s' = s' := by omega
    rw [hb, hs]
    exact k hok
  | succ m ih =>
    intro i hi hok
    have hiN : i < N := by omega
    refine EC_iload_n (k := kk) g1 e0 q (lq _) ?_
    refine e1 _ _ _ _ _ ?_
    refine EC_icmp_ge g2 e2 t2 (fun u => absurd u ?_) (fun _ => ?_)
    · rw [hvN, nI_leI (by omega) (by omega)]; omega
    refine EC_aload_n (k := 0) g3 e3 0 (l0 _) ?_
    refine CW_getr (A := A) hF hr e4 g4 ho ?_
    refine EC_iload_n (k := kk) g5 e5 q (lq _) ?_
    have hfl := flL_len (h0 := h0) hw i
    have hBl : (pre ++ rwA t N h0 w i :: (post ++ flL mkf h0 w i)).length = j + 1 + post.length + w * i := by
      rw [List.length_append, List.length_cons, List.length_append, hfl, hj]; omega
    have hwi : w * i + w ≤ w * N := by
      have := Nat.mul_le_mul_left w (show i + 1 ≤ N by omega)
      rw [Nat.mul_succ] at this; exact this
    have hb : (m + 1) * (bcj + 1) + b = (bcj + (m * (bcj + 1) + b)) + 1 := by rw [Nat.succ_mul]; omega
    have hs : (m + 1) * (bsj + ab_N cj) + s' = (bsj + (m * (bsj + ab_N cj) + s')) + ab_N cj := by rw [Nat.succ_mul]; omega
    rw [hb, hs]
    have hn' : A.length + 1 + (pre ++ rwA t N h0 w i :: (post ++ flL mkf h0 w i)).length = h0 + w * i := by rw [hBl]; omega
    refine CW_new (A := A) hcj hkn e6 g6 (lo _) ?_ hok (by rw [hBl]; omega) (fun hok2 => ?_)
    · intro v hv e
      rcases List.mem_cons.mp hv with rfl | hv
      · cases e
      · rw [List.mem_singleton.mp hv] at e
        injection e with e
        have e : (A.length + 1 + j : Nat) = A.length + 1 + (pre ++ rwA t N h0 w i :: (post ++ flL mkf h0 w i)).length := e
        omega
    refine EC_dup g7 e7 rfl ?_
    rw [hn']
    refine hcall (A ++ o :: (pre ++ rwA t N h0 w i :: (post ++ flL mkf h0 w i))) (h0 + w * i) i _ _ _ (by rw [clen, hn']) (by omega) hiN (by omega) hok2 ?_ (by show 1 + (1 + (1 + 0)) ≤ 8; decide) (fun hok3 => ?_)
    · intro v hv x e
      rcases List.mem_cons.mp hv with rfl | hv
      · injection e with e; exact Nat.lt_of_le_of_lt (Nat.le_of_eq e.symm) (by omega)
      rcases List.mem_cons.mp hv with rfl | hv
      · cases e
      · rw [List.mem_singleton.mp hv] at e
        injection e with e
        exact Nat.lt_of_le_of_lt (Nat.le_of_eq e.symm) (by omega)
    have ap : (A ++ o :: (pre ++ rwA t N h0 w i :: (post ++ flL mkf h0 w i))) ++ mkf (h0 + w * i) i = A ++ (o :: (pre ++ rwA t N h0 w i :: (post ++ flL mkf h0 w (i + 1)))) := by
      show _ = A ++ (o :: (pre ++ rwA t N h0 w i :: (post ++ (flL mkf h0 w i ++ mkf (h0 + w * i) i))))
      simp [List.append_assoc]
    have hsv : (cLs ((A ++ o :: (pre ++ rwA t N h0 w i :: (post ++ flL mkf h0 w i))) ++ mkf (h0 + w * i) i)).2.1 (h0 + w * i) = .inl cj := by
      show (((A ++ o :: (pre ++ rwA t N h0 w i :: (post ++ flL mkf h0 w i))) ++ mkf (h0 + w * i) i).getD (h0 + w * i) cd0).1 = _
      have e9 : h0 + w * i = (A ++ o :: (pre ++ rwA t N h0 w i :: (post ++ flL mkf h0 w i))).length + 0 := by rw [clen, hn']; rfl
      rw [e9, cgD_j]
      exact hsh _ _
    rw [ap] at hok3 hsv ⊢
    have hYl : (o :: (pre ++ rwA t N h0 w i :: (post ++ flL mkf h0 w (i + 1)))).length = j + 2 + post.length + w * (i + 1) := by
      rw [List.length_cons, List.length_append, List.length_cons, List.length_append, flL_len hw (i + 1), hj]; omega
    have hgj : (o :: (pre ++ rwA t N h0 w i :: (post ++ flL mkf h0 w (i + 1)))).getD (1 + j) cd0 = rwA t N h0 w i := by
      rw [show 1 + j = j + 1 from Nat.add_comm 1 j, List.getD_cons_succ, ← hj, cgD_n]
    have hsj : ∀ x, (o :: (pre ++ rwA t N h0 w i :: (post ++ flL mkf h0 w (i + 1)))).set (1 + j) x = o :: (pre ++ x :: (post ++ flL mkf h0 w (i + 1))) := by
      intro x
      rw [show 1 + j = j + 1 from Nat.add_comm 1 j, List.set_cons_succ, ← hj, cset_n]
    have hl1 : (cLs (A ++ (o :: (pre ++ rwA t N h0 w i :: (post ++ flL mkf h0 w (i + 1)))))).1 = A.length + (j + 2 + post.length + w * (i + 1)) := by
      show (A ++ _).length = _
      rw [List.length_append, hYl]
    have hws : w * (i + 1) = w * i + w := Nat.mul_succ w i
    refine hast (c := A.length + 1 + j) (n := N) (v := h0 + w * i) (i := nI i) (by rw [hl1]; omega) ?_ (vp_in_nI hiN (by omega)) (by rw [hl1]; omega) hsv ?_
    · show ((A ++ (o :: (pre ++ rwA t N h0 w i :: (post ++ flL mkf h0 w (i + 1))))).getD (A.length + 1 + j) cd0).1 = _
      rw [Nat.add_assoc, cgD_j, hgj]; rfl
    have eu : ab_ur (cLs (A ++ (o :: (pre ++ rwA t N h0 w i :: (post ++ flL mkf h0 w (i + 1)))))) (A.length + 1 + j) (Int32.toNatClampNeg (nI i)) (some (h0 + w * i)) = cLs (A ++ o :: (pre ++ rwA t N h0 w (i + 1) :: (post ++ flL mkf h0 w (i + 1)))) := by
      rw [nI_clamp (by omega), Nat.add_assoc, cLs_ur (by rw [List.length_append, hYl]; omega), cgD_j, hgj, cset_j, hsj, rwA_s]
    rw [eu]
    refine hinc _ _ _ _ ?_
    refine EC_goto e11 t11 ?_
    have ei : nI i + 1 = nI (i + 1) := nI_add i 1
    rw [ei]
    refine ih (i + 1) (by omega) ?_
    have := okC_setj (j := 1 + j) (x := rwA t N h0 w (i + 1)) hok3 (by rw [hYl]; omega) (fun q' r e => ?_)
    · rw [hsj] at this; exact this
    · have e : (if q' < i + 1 then some (h0 + w * q') else none) = some r := e
      split at e
      · next hq =>
        injection e with e
        left
        rw [hYl, ← e]
        have := Nat.mul_le_mul_left w (show q' ≤ i by omega)
        omega
      · cases e
end CWL
