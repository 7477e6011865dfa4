/-! A MINUTE, 34: put together. -/
theorem arvN_t (s : ab_X) : ∀ j, keepT s.1 (arvN s j).1
  | 0 => keepT.rfl'
  | j + 1 => (arvN_t s j).tr (fun c k q => by
      unfold tk at q
      have e : arvN s (j + 1) = arvN s j ∨ arvN s (j + 1) = arvS (arvN s j) j := by
        show (if _ then _ else _) = _ ∨ (if _ then _ else _) = _
        split
        · first | exact Or.inr rfl | exact Or.inl rfl
        · first | exact Or.inl rfl | exact Or.inr rfl
      rcases e with e | e
      · rw [e]
      · rw [e]
        by_cases u : c = 246
        · subst u; rw [(arvS_n _ _).1]
        · rw [(arvS_n _ _).2.2 c (by omega) (by omega) (by omega) (by omega)])
noncomputable def gS (s : ab_X) : ab_X := goN (arvN (nwS s) (nv s.1 246 58)) (nv s.1 246 58)
noncomputable def tS (s : ab_X) : SS := shN (wkN (gS s) (nv s.1 246 58)).1 (nv s.1 246 58) (wkN (gS s) (nv s.1 246 58)).2.2 (nv s.1 246 58)
noncomputable def fS1 (s : ab_X) : ab_X := buS (tS s).1 (tS s).2
noncomputable def fS2 (s : ab_X) : ab_X := coN (fS1 s) (nv s.1 246 92)
noncomputable def fS3 (s : ab_X) : ab_X := homN (fS2 s) (nv s.1 246 58)
noncomputable def fS4 (s : ab_X) : ab_X := tiN (fS3 s) (nv s.1 246 58)
noncomputable def mnS (s : ab_X) : ab_X := wtS (fS4 s)
theorem nw_I {x s : ab_X} (h : Inv2 x s) (hn : nv s.1 246 1 < 20000) : Inv2 (wr x 66 12 (nI (nv s.1 246 1 + 1))) (nwS s) := by
  unfold nwS Inv2
  rw [mg_wm (by omega), mg_wc (by omega)]
  have e : nv (mg x s).1 246 1 = nv s.1 246 1 := by unfold nv; rw [mg_m (by decide)]
  refine i_now h (by rw [e]; exact hn) (by rw [e])
theorem nw_n (s : ab_X) {f : Nat} (hf : f ≠ 1) : (nwS s).1 246 f = s.1 246 f := by unfold nwS; rw [wr_ne (by omega)]
theorem nw_n58 (s : ab_X) : nv (nwS s).1 246 58 = nv s.1 246 58 := by unfold nv; rw [nw_n s (by decide)]
theorem av_n58 (s : ab_X) (j : Nat) : nv (arvN (nwS s) j).1 246 58 = nv s.1 246 58 := by
  rw [← nw_n58 s]; unfold nv; rw [(arvN_n _ _).1]
theorem gS_246 (s : ab_X) {f : Nat} (hf : f ≠ 1) : (gS s).1 246 f = s.1 246 f := by
  unfold gS
  rw [(goN_n _ _).1 246 (by decide), (arvN_n _ _).1, nw_n s hf]
theorem gS_58 (s : ab_X) : nv (gS s).1 246 58 = nv s.1 246 58 := by unfold nv; rw [gS_246 s (by decide)]
theorem gS_t (s : ab_X) : keepT s.1 (gS s).1 := fun c k q => by
  unfold gS
  have q' := q
  unfold tk at q'
  rw [(goN_n _ _).1 c (by omega), arvN_t _ _ c k q]
  unfold nwS
  rw [wr_ne (by omega)]
theorem gS_2 (s : ab_X) : (gS s).2 = s.2 := by
  unfold gS
  rw [(goN_n _ _).2, (arvN_n _ _).2]; rfl
theorem gS_I {x s : ab_X} (h : Inv2 x s) (hn : nv s.1 246 1 < 20000) : ∃ y, Inv2 y (gS s) := by
  obtain ⟨y, hy⟩ := arvN_I (nw_I h hn) (nv s.1 246 58) (by rw [nw_n58]; exact Nat.le_refl _)
  exact goN_I hy (nv s.1 246 58) (by rw [av_n58]; exact Nat.le_refl _)
theorem Rok_w {x s : ab_X} (h : Inv2 x s) : ∀ i, i < nv s.1 246 58 → Rok (wkN s (nv s.1 246 58)).1 i ((wkN s (nv s.1 246 58)).2.2 i) := fun i hi => by
  have o := wkN_R h _ (Nat.le_refl _) i hi
  have q : ∀ d k, d ≠ 262 → d ≠ 272 → d ≠ 291 → d ≠ 295 → nv (wkN s (nv s.1 246 58)).1.1 d k = nv s.1 d k := fun d k a b c e => congrArg (fun q : Nat → Int32 => (q k).toNatClampNeg) ((wkN_o s _).1 d a b c e)
  cases e : (wkN s (nv s.1 246 58)).2.2 i with
  | none => trivial
  | some u =>
    obtain ⟨r, m, a, fl⟩ := u
    rw [e] at o
    obtain ⟨o1, o2, o3, o4, o5, o6⟩ := o
    show nv (wkN s (nv s.1 246 58)).1.1 286 i = 2 ∧ nv (wkN s (nv s.1 246 58)).1.1 290 i < nv (wkN s (nv s.1 246 58)).1.1 246 31 ∧ r < nv (wkN s (nv s.1 246 58)).1.1 256 (nv (wkN s (nv s.1 246 58)).1.1 290 i) * nv (wkN s (nv s.1 246 58)).1.1 257 (nv (wkN s (nv s.1 246 58)).1.1 290 i) ∧ m < nv (wkN s (nv s.1 246 58)).1.1 246 56 ∧ 5 ≤ a ∧ a ≤ 500
    rw [q 286 i (by decide) (by decide) (by decide) (by decide), q 290 i (by decide) (by decide) (by decide) (by decide), q 246 31 (by decide) (by decide) (by decide) (by decide), q 246 56 (by decide) (by decide) (by decide) (by decide), q 256 _ (by decide) (by decide) (by decide) (by decide), q 257 _ (by decide) (by decide) (by decide) (by decide)]
    exact ⟨o1, o2, o3, o4, o5, o6⟩
