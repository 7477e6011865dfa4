/-! TEXTS, 7: the reference reads conditions. -/
theorem m_inB {B : Nat → Nat} {n s tc fr d z : Nat} (t : TX B n s) (tr : TR5 n tc fr) (hd : d ≤ 8) (hd1 : 1 ≤ d) (hz : z < 256) {F : ab_X → (Int32 → ab_X → Prop) → Prop} {X : Nat → PR} {m h : Nat} (w : WX n s X m h isB) (hF : RSp B n s tc fr (d - 1) isB F X) {x : ab_X} {p : Nat} {K : Int32 → ab_X → Prop} (hx : RRd B n s tc fr x p (d - 1)) (k0 : ∀ q, pIn B n z X p = (q, none) → ∀ y r, rf x y → y.1 246 81 = nI q → isB r → K r y) (k1 : ∀ q c v, pIn B n z X p = (q, some (c, v)) → ∀ y, rf x y → RRd B n s tc fr y q d → K (v (x.1 307)) y) : F x (fun r8 x9 => wX12_takes (nI z) x9 (fun r10 x11 => ((¬ r10 = 0 → (isB r8 ∧ K r8 (wr x11 246 82 ((x11.1 246 82) - 1)))) ∧ (r10 = 0 → K 0 x11)))) := by
  unfold pIn at k0 k1
  have hn := t.1
  have wx := w p hx.le
  refine hF x p _ hx (fun q hq y r fy ay pr => ?_) (fun q c v hq y fy hy => ?_)
  · rw [hq] at k0
    have := ((wx q).1 hq).2
    exact m_takesF ay (by omega) (x0 (k0 q rfl y _ fy ay isB_0))
  · rw [hq] at k0 k1
    obtain ⟨-, -, -, a4, -⟩ := (wx q).2 c v hq
    refine m_takes t tr hz hy (fun e u hu fu => x1 ⟨a4 _, ?_⟩) (fun e u fu au => x0 ?_)
    · simp only [if_pos e] at k1
      have e82 : u.1 246 82 - 1 = nI (8 - d) := by
        rw [hu.2.2.2.2.2.2.1]
        simp only [nI_lit]
        rw [pk_sub (by omega)]; congr 1; omega
      exact k1 _ _ _ rfl _ ((fy.tr fu).tr rf.w82) (hu.dp tr e82)
    · simp only [if_neg e] at k0
      exact k0 _ rfl u _ (fy.tr fu) au isB_0
theorem m_unitT {B : Nat → Nat} {n s tc fr d h h' : Nat} (t : TX B n s) (tr : TR5 n tc fr) (hd : d ≤ 8) {RC RP RU : ab_X → (Int32 → ab_X → Prop) → Prop} {U C : Option (Nat → PR)} {S : Nat → PR} (wU : ∀ T, U = some T → WX n s T 3 h isB) (wC : ∀ T, C = some T → WX n s T 3 h isB) (hU : ∀ T, U = some T → RSp B n s tc fr (d - 1) isB RU T) (hC : ∀ T, C = some T → RSp B n s tc fr (d - 1) isB RC T) (eU : d = 0 → U = none) (eU' : 1 ≤ d → ∃ T, U = some T) (eC : d = 0 → C = none) (eC' : 1 ≤ d → ∃ T, C = some T) (wS : WX n s S 1 h' (fun _ => True)) (hS : RSp B n s tc fr d (fun _ => True) wX12_sums S) : RSp B n s tc fr d isB (bX12_unit RC RP RU) (pUnit B n U C S) := by
  intro x p K hx k0 k1
  have hn := t.1
  obtain ⟨s1, s2, s3⟩ := sk_b (B := B) hx.le
  have cb := t.cb p
  unfold bX12_unit
  refine m_lookT t tr hx (fun y hy fy => ?_)
  simp only [nI_lit]
  rw [bI_e cb (by decide), bI_e cb (by decide)]
  unfold pUnit at k0 k1
  by_cases c1 : cB B n p = 33
  · rw [if_pos c1] at k0 k1
    have lt := (cB_lt c1 (by decide)).1
    refine ⟨fun u => absurd c1 u, fun _ => ?_⟩
    refine m_goesIn tr hd hy lt (fun e z fz az => x0 ?_) (fun e z hz fz => x1 ?_)
    · rw [eU e] at k0
      exact k0 _ rfl z _ (fy.tr fz) az isB_0
    · obtain ⟨T, hT⟩ := eU' e
      rw [hT] at k0 k1
      unfold pNot at k0 k1
      have wx := wU T hT (sk B n p + 1) (by omega)
      have ev : z.1 307 = x.1 307 := (fy.tr fz).ev
      refine hU T hT z (sk B n p + 1) _ hz (fun q hq u r fu au pr => ?_) (fun q c v hq u fu hu => ?_)
      · simp only [hq] at k0
        exact isB_e (K := fun r => K r (wr u 246 82 (u.1 246 82 - 1))) pr (k0 q rfl _ _ (((fy.tr fz).tr fu).tr rf.w82) (by rw [wr_k (by decide)]; exact au) (isB_not pr))
      · simp only [hq] at k1
        obtain ⟨a1, a2, a3, a4, a5⟩ := (wx q).2 c v hq
        have e82 : u.1 246 82 - 1 = nI (8 - d) := by
          rw [hu.2.2.2.2.2.2.1]
          simp only [nI_lit]
          rw [pk_sub (by omega)]; congr 1; omega
        rw [ev]
        exact isB_e (K := fun r => K r (wr u 246 82 (u.1 246 82 - 1))) (a4 _) (k1 _ _ _ rfl _ (((fy.tr fz).tr fu).tr rf.w82) (hu.dp tr e82))
  rw [if_neg c1] at k0 k1
  refine ⟨fun _ => ?_, fun u => absurd u c1⟩
  by_cases c2 : cB B n p = 40
  · rw [if_pos c2] at k0 k1
    have lt := (cB_lt c2 (by decide)).1
    refine ⟨fun u => absurd c2 u, fun _ => ?_⟩
    refine m_goesIn tr hd hy lt (fun e z fz az => x0 ?_) (fun e z hz fz => x1 ?_)
    · rw [eC e] at k0
      exact k0 _ rfl z _ (fy.tr fz) az isB_0
    · obtain ⟨T, hT⟩ := eC' e
      rw [hT] at k0 k1
      have ev : x.1 307 = z.1 307 := ((fy.tr fz).ev).symm
      rw [ev] at k1
      exact m_inB (K := K) t tr hd e (by decide) (wC T hT) (hC T hT) hz (fun q hq u r fu au pr => k0 q hq u r ((fy.tr fz).tr fu) au pr) (fun q c v hq u fu hu => k1 q c v hq u ((fy.tr fz).tr fu) hu)
  rw [if_neg c2] at k0 k1
  refine ⟨fun _ => ?_, fun u => absurd u c2⟩
  unfold pCmp at k0 k1
  have wx := wS (sk B n p) s2
  refine hS y (sk B n p) _ hy (fun q hq z r fz az _ => ?_) (fun q c v hq z fz hz => ?_)
  · rw [hq] at k0
    have := ((wx q).1 hq).2
    exact ⟨fun u => absurd u (flt az (by omega)), fun _ => k0 q rfl z _ (fy.tr fz) az isB_0⟩
  · rw [hq] at k0 k1
    refine ⟨fun _ => ?_, fun u => absurd hz.ok u⟩
    obtain ⟨a1, a2, a3, -, -⟩ := (wx q).2 c v hq
    obtain ⟨r1, r2, r3⟩ := sk_b (B := B) a2
    refine m_lookT t tr hz (fun u hu fu => ?_)
    rw [bI_e (t.cb q) (by decide), bI_e (t.cb q) (by decide), bI_e (t.cb q) (by decide)]
    have go : opQ (cB B n q) ≠ 0 → wX12_unit_131 RC RP RU (v (y.1 307)) (bI (cB B n q)) u K := by
      intro o
      simp only [if_neg o] at k0 k1
      have lt : sk B n q < n := by
        by_cases w : sk B n q < n
        · exact w
        · exfalso; apply o
          have : cB B n q = 256 := if_neg w
          rw [this]; rfl
      unfold wX12_unit_131
      have wy := wS (sk B n q + 1) (by omega)
      have eu : (wr u 246 80 (u.1 246 80 + 1)).1 307 = x.1 307 := by rw [wr_n (by decide), fu.ev, fz.ev, fy.ev]
      refine hS _ (sk B n q + 1) _ (hu.nx tr lt) (fun q2 hq2 u2 r f2 a2 _ => ?_) (fun q2 c2 v2 hq2 u2 f2 h2 => ?_)
      · rw [hq2] at k0
        exact m_cmp (K := fun r => K r u2) o (t.cb q) (k0 q2 rfl u2 _ ((((fy.tr fz).tr fu).tr rf.w80).tr f2) a2 (jn_B (opQ_567 o)))
      · rw [hq2] at k1
        rw [eu, fy.ev]
        exact m_cmp (K := fun r => K r u2) o (t.cb q) (k1 _ _ _ rfl u2 ((((fy.tr fz).tr fu).tr rf.w80).tr f2) h2)
    refine ⟨fun e => go (by rw [e]; decide), fun e1 => ⟨fun e => go (by rw [e]; decide), fun e2 => ⟨fun e => go (by rw [e]; decide), fun e3 => ?_⟩⟩⟩
    have o : opQ (cB B n q) = 0 := by unfold opQ; rw [if_neg e1, if_neg e2, if_neg e3]
    simp only [if_pos o] at k0
    exact m_stopT hu (fun u2 f2 a2 _ => ⟨isB_0, k0 _ rfl u2 _ (((fy.tr fz).tr fu).tr f2) a2 isB_0⟩)
theorem m_partT {B : Nat → Nat} {n s tc fr d h : Nat} (t : TX B n s) (tr : TR5 n tc fr) {RC RP RU : ab_X → (Int32 → ab_X → Prop) → Prop} {X : Nat → PR} (w : WX n s X 3 h isB) (hA : RSp B n s tc fr d isB RU X) : RSp B n s tc fr d isB (bX12_part RC RP RU) (pPart B n X) := by
  intro x p K hx k0 k1
  have hn := t.1
  unfold bX12_part
  unfold pPart pChn at k0 k1
  have wx := w p hx.le
  refine hA x p _ hx (fun q hq y r fy ay pr => ?_) (fun q c v hq y fy hy => ?_)
  · rw [hq] at k0
    have := ((wx q).1 hq).2
    refine Lp2.one (fun L => ?_)
    unfold lX12_part_5
    exact ⟨fun _ => ⟨pr, k0 q rfl y r fy ay pr⟩, fun u => absurd u (flt ay (by omega))⟩
  · rw [hq] at k0 k1
    obtain ⟨-, -, -, a4, -⟩ := (wx q).2 c v hq
    refine m_chn (z := 38) (k := 9) (F := RU) (P := isB) (J := fun a b y L => ((a = 0 → L 0 y) ∧ (¬ a = 0 → ((b = 0 → L 0 y) ∧ (¬ b = 0 → L 1 y))))) (K := fun r y => isB r ∧ K r y) t tr hA w (by decide) (by decide) (fun a b ha hb => jn_B9 (Or.inl rfl) ha hb) (fun a b y L ha hb h => ?_) hy fy.ev (a4 _) (fun q' e u r fu au pr => ⟨pr, k0 q' e u r (fy.tr fu) au pr⟩) (fun q' c' v' e u fu hu pr => ⟨pr, k1 q' c' v' e u (fy.tr fu) hu⟩)
    rw [jn_9 ha hb] at h
    refine ⟨fun u => ?_, fun u => ⟨fun u2 => ?_, fun u2 => ?_⟩⟩
    · have u : a = nI 0 := u
      rw [if_pos u] at h; exact h
    · have u : ¬ a = nI 0 := u
      have u2 : b = nI 0 := u2
      rw [if_neg u, if_pos u2] at h; exact h
    · have u : ¬ a = nI 0 := u
      have u2 : ¬ b = nI 0 := u2
      rw [if_neg u, if_neg u2] at h; exact h
theorem m_condT {B : Nat → Nat} {n s tc fr d h : Nat} (t : TX B n s) (tr : TR5 n tc fr) {RC RP RU : ab_X → (Int32 → ab_X → Prop) → Prop} {X : Nat → PR} (w : WX n s (pPart B n X) 3 h isB) (hA : RSp B n s tc fr d isB RP (pPart B n X)) : RSp B n s tc fr d isB (bX12_condition RC RP RU) (pCond B n X) := by
  intro x p K hx k0 k1
  have hn := t.1
  unfold bX12_condition
  unfold pCond pChn at k0 k1
  have wx := w p hx.le
  refine hA x p _ hx (fun q hq y r fy ay pr => ?_) (fun q c v hq y fy hy => ?_)
  · rw [hq] at k0
    have := ((wx q).1 hq).2
    refine Lp2.one (fun L => ?_)
    unfold lX12_condition_5
    exact ⟨fun _ => ⟨pr, k0 q rfl y r fy ay pr⟩, fun u => absurd u (flt ay (by omega))⟩
  · rw [hq] at k0 k1
    obtain ⟨-, -, -, a4, -⟩ := (wx q).2 c v hq
    refine m_chn (z := 124) (k := 10) (F := RP) (P := isB) (J := fun a b y L => ((¬ a = 0 → wX12_condition_45 RC RP RU y K L) ∧ (a = 0 → ((b = 0 → L 0 y) ∧ (¬ b = 0 → wX12_condition_45 RC RP RU y K L))))) (K := fun r y => isB r ∧ K r y) t tr hA w (by decide) (by decide) (fun a b ha hb => jn_B9 (Or.inr rfl) ha hb) (fun a b y L ha hb h => ?_) hy fy.ev (a4 _) (fun q' e u r fu au pr => ⟨pr, k0 q' e u r (fy.tr fu) au pr⟩) (fun q' c' v' e u fu hu pr => ⟨pr, k1 q' c' v' e u (fy.tr fu) hu⟩)
    rw [jn_10 ha hb] at h
    refine ⟨fun u => ?_, fun u => ⟨fun u2 => ?_, fun u2 => ?_⟩⟩
    · have u : ¬ a = nI 0 := u
      rw [if_neg u] at h; exact h
    · have u : a = nI 0 := u
      have u2 : b = nI 0 := u2
      rw [if_pos u, if_pos u2] at h; exact h
    · have u : a = nI 0 := u
      have u2 : ¬ b = nI 0 := u2
      rw [if_pos u, if_neg u2] at h; exact h
theorem m_famC {B : Nat → Nat} {n s tc fr : Nat} (t : TX B n s) (tr : TR5 n tc fr) : ∀ d, d ≤ 8 → (∀ N, 3 * d + 1 ≤ N → RSp B n s tc fr d isB (famX12_condition N).2.2 (pU B n s d)) ∧ (∀ N, 3 * d + 2 ≤ N → RSp B n s tc fr d isB (famX12_condition N).2.1 (pPart B n (pU B n s d))) ∧ (∀ N, 3 * d + 3 ≤ N → RSp B n s tc fr d isB (famX12_condition N).1 (pCond B n (pU B n s d))) := by
  have hB : ∀ i, i < n → B i < 256 := t.2.2
  have fin : ∀ d, d ≤ 8 → (∀ N, 3 * d + 1 ≤ N → RSp B n s tc fr d isB (famX12_condition N).2.2 (pU B n s d)) → (∀ N, 3 * d + 1 ≤ N → RSp B n s tc fr d isB (famX12_condition N).2.2 (pU B n s d)) ∧ (∀ N, 3 * d + 2 ≤ N → RSp B n s tc fr d isB (famX12_condition N).2.1 (pPart B n (pU B n s d))) ∧ (∀ N, 3 * d + 3 ≤ N → RSp B n s tc fr d isB (famX12_condition N).1 (pCond B n (pU B n s d))) := by
    intro d hd a
    have wU := pU_W hB t.2.1 d
    have b : ∀ N, 3 * d + 2 ≤ N → RSp B n s tc fr d isB (famX12_condition N).2.1 (pPart B n (pU B n s d)) := by
      intro N hN
      obtain ⟨M, rfl⟩ : ∃ M, N = M + 1 := ⟨N - 1, by omega⟩
      exact m_partT t tr wU (a M (by omega))
    refine ⟨a, b, fun N hN => ?_⟩
    obtain ⟨M, rfl⟩ : ∃ M, N = M + 1 := ⟨N - 1, by omega⟩
    exact m_condT t tr (pPart_W wU) (b M (by omega))
  intro d
  induction d with
  | zero =>
    intro hd
    refine fin 0 hd (fun N hN => ?_)
    obtain ⟨M, rfl⟩ : ∃ M, N = M + 1 := ⟨N - 1, by omega⟩
    exact m_unitT (h := 0) (RC := (famX12_condition M).1) (RP := (famX12_condition M).2.1) (RU := (famX12_condition M).2.2) (U := none) (C := none) t tr hd (fun T h => by cases h) (fun T h => by cases h) (fun T h => by cases h) (fun T h => by cases h) (fun _ => rfl) (fun h => by omega) (fun _ => rfl) (fun h => by omega) (sum_W hB t.2.1 0) (m_sumF t tr hd)
  | succ d ih =>
    intro hd
    obtain ⟨i1, -, i3⟩ := ih (by omega)
    refine fin (d + 1) hd (fun N hN => ?_)
    obtain ⟨M, rfl⟩ : ∃ M, N = M + 1 := ⟨N - 1, by omega⟩
    refine m_unitT (h := 2 * d + 6) (RC := (famX12_condition M).1) (RP := (famX12_condition M).2.1) (RU := (famX12_condition M).2.2) (U := some (pU B n s d)) (C := some (pCond B n (pU B n s d))) t tr hd (fun T h => ?_) (fun T h => ?_) (fun T h => ?_) (fun T h => ?_) (fun h => by omega) (fun _ => ⟨_, rfl⟩) (fun h => by omega) (fun _ => ⟨_, rfl⟩) (sum_W hB t.2.1 (d + 1)) (m_sumF t tr hd)
    · injection h with h; subst h; exact WX_mono (pU_W hB t.2.1 d) (by omega)
    · injection h with h; subst h; exact WX_mono (pCond_W (pU_W hB t.2.1 d)) (by omega)
    · injection h with h; subst h; exact i1 M (by omega)
    · injection h with h; subst h; exact i3 M (by omega)
theorem m_condF {B : Nat → Nat} {n s tc fr : Nat} (t : TX B n s) (tr : TR5 n tc fr) : RSp B n s tc fr 8 isB wX12_condition (pCo B n s) := fun x p K a b c => ⟨27, by omega, (m_famC t tr 8 (Nat.le_refl _)).2.2 27 (by omega) x p K a b c⟩
