def ab_RX (ci : Nat) : String := match ci with
  | 0 => RX0
  | 1 => RX1
  | 2 => RX2
  | 3 => RX3
  | 4 => RX4
  | 5 => RX5
  | 6 => RX6
  | 7 => RX7
  | 8 => RX8
  | 9 => RX9
  | 10 => RX10
  | 11 => RX11
  | _ => RX12
def ab_TX (ci : Nat) : u_T := match ci with
  | 0 => TX0
  | 1 => TX1
  | 2 => TX2
  | 3 => TX3
  | 4 => TX4
  | 5 => TX5
  | 6 => TX6
  | 7 => TX7
  | 8 => TX8
  | 9 => TX9
  | 10 => TX10
  | 11 => TX11
  | _ => TX12
theorem ab_cl_at {ci : Nat} (h : ci ≤ 12) : ab_cl[ci]? = some (ab_RX ci, ab_TX ci, ab_N ci) := by
  match ci, h with
  | 0, _ => rfl
  | 1, _ => rfl
  | 2, _ => rfl
  | 3, _ => rfl
  | 4, _ => rfl
  | 5, _ => rfl
  | 6, _ => rfl
  | 7, _ => rfl
  | 8, _ => rfl
  | 9, _ => rfl
  | 10, _ => rfl
  | 11, _ => rfl
  | 12, _ => rfl
  | n + 13, h => omega
theorem ab_bulk {ws : List Cond} (ps : List Nat) (hp : ws = ps.filterMap (fun i => lw_tbl[i]?)) (hg : ws.all goodWord = true) : ∀ w ∈ ws, w ∈ ab_G := by
  intro w hw
  have h1 := List.all_eq_true.mp hg w hw
  rw [hp] at hw
  obtain ⟨i, -, hi⟩ := List.mem_filterMap.mp hw
  exact ab_in i hi h1
set_option maxRecDepth 100000 in
theorem ab_lays0 : ∀ w ∈ u_ws RX0 TX0 13, w ∈ ab_G := ab_bulk [565, 567, 569, 571, 573, 575, 577, 579, 581, 583, 585, 587, 589] (by decide +kernel) (by decide +kernel)
set_option maxRecDepth 100000 in
theorem ab_lays1 : ∀ w ∈ u_ws RX1 TX1 9, w ∈ ab_G := ab_bulk [524, 526, 528, 530, 532, 534, 536, 538, 540] (by decide +kernel) (by decide +kernel)
set_option maxRecDepth 100000 in
theorem ab_lays2 : ∀ w ∈ u_ws RX2 TX2 20, w ∈ ab_G := ab_bulk [459, 461, 463, 465, 467, 469, 471, 473, 475, 477, 479, 481, 483, 485, 487, 489, 491, 493, 495, 497] (by decide +kernel) (by decide +kernel)
set_option maxRecDepth 100000 in
theorem ab_lays3 : ∀ w ∈ u_ws RX3 TX3 8, w ∈ ab_G := ab_bulk [191, 193, 195, 197, 199, 201, 203, 205] (by decide +kernel) (by decide +kernel)
set_option maxRecDepth 100000 in
theorem ab_lays4 : ∀ w ∈ u_ws RX4 TX4 17, w ∈ ab_G := ab_bulk [272, 274, 276, 278, 280, 282, 284, 286, 288, 290, 292, 294, 296, 298, 300, 302, 304] (by decide +kernel) (by decide +kernel)
set_option maxRecDepth 100000 in
theorem ab_lays5 : ∀ w ∈ u_ws RX5 TX5 11, w ∈ ab_G := ab_bulk [642, 644, 646, 648, 650, 652, 654, 656, 658, 660, 662] (by decide +kernel) (by decide +kernel)
set_option maxRecDepth 100000 in
theorem ab_lays6 : ∀ w ∈ u_ws RX6 TX6 8, w ∈ ab_G := ab_bulk [142, 144, 146, 148, 150, 152, 154, 156] (by decide +kernel) (by decide +kernel)
set_option maxRecDepth 100000 in
theorem ab_lays7 : ∀ w ∈ u_ws RX7 TX7 18, w ∈ ab_G := ab_bulk [695, 697, 699, 701, 703, 705, 707, 709, 711, 713, 715, 717, 719, 721, 723, 725, 727, 729] (by decide +kernel) (by decide +kernel)
set_option maxRecDepth 100000 in
theorem ab_lays8 : ∀ w ∈ u_ws RX8 TX8 5, w ∈ ab_G := ab_bulk [608, 610, 612, 614, 616] (by decide +kernel) (by decide +kernel)
set_option maxRecDepth 100000 in
theorem ab_lays9 : ∀ w ∈ u_ws RX9 TX9 10, w ∈ ab_G := ab_bulk [383, 385, 387, 389, 391, 393, 395, 397, 399, 401] (by decide +kernel) (by decide +kernel)
set_option maxRecDepth 100000 in
theorem ab_lays10 : ∀ w ∈ u_ws RX10 TX10 10, w ∈ ab_G := ab_bulk [330, 332, 334, 336, 338, 340, 342, 344, 346, 348] (by decide +kernel) (by decide +kernel)
set_option maxRecDepth 100000 in
theorem ab_lays11 : ∀ w ∈ u_ws RX11 TX11 10, w ∈ ab_G := ab_bulk [742, 744, 746, 748, 750, 752, 754, 756, 758, 760] (by decide +kernel) (by decide +kernel)
set_option maxRecDepth 100000 in
theorem ab_lays12 : ∀ w ∈ u_ws RX12 TX12 121, w ∈ ab_G := ab_bulk [1970, 1972, 1974, 1976, 1978, 1980, 1982, 1984, 1986, 1988, 1990, 1992, 1994, 1996, 1998, 2000, 2002, 2004, 2006, 2008, 2010, 2012, 2014, 2016, 2018, 2020, 2022, 2024, 2026, 2028, 2030, 2032, 2034, 2036, 2038, 2040, 2042, 2044, 2046, 2048, 2050, 2052, 2054, 2056, 2058, 2060, 2062, 2064, 2066, 2068, 2070, 2072, 2074, 2076, 2078, 2080, 2082, 2084, 2086, 2088, 2090, 2092, 2094, 2096, 2098, 2100, 2102, 2104, 2106, 2108, 2110, 2112, 2114, 2116, 2118, 2120, 2122, 2124, 2126, 2128, 2130, 2132, 2134, 2136, 2138, 2140, 2142, 2144, 2146, 2148, 2150, 2152, 2154, 2156, 2158, 2160, 2162, 2164, 2166, 2168, 2170, 2172, 2174, 2176, 2178, 2180, 2182, 2184, 2186, 2188, 2190, 2192, 2194, 2196, 2198, 2200, 2202, 2204, 2206, 2208, 2210] (by decide +kernel) (by decide +kernel)
theorem ab_cf : ∀ ci, ci ≤ 12 → (∀ w ∈ u_ws (ab_RX ci) (ab_TX ci) (ab_N ci), w ∈ ab_G) ∧ (∀ k, k < ab_N ci → parseFieldDescriptor (ab_TX ci k).2.2.1 = some (ab_tf ci k)) ∧ (∀ a, a < ab_N ci → ∀ b, b < ab_N ci → a ≠ b → (ab_TX ci a).2.1 ≠ (ab_TX ci b).2.1) := by
  intro ci h
  match ci, h with
  | 0, _ => exact ⟨ab_lays0, tyX0_ok, nmX0⟩
  | 1, _ => exact ⟨ab_lays1, tyX1_ok, nmX1⟩
  | 2, _ => exact ⟨ab_lays2, tyX2_ok, nmX2⟩
  | 3, _ => exact ⟨ab_lays3, tyX3_ok, nmX3⟩
  | 4, _ => exact ⟨ab_lays4, tyX4_ok, nmX4⟩
  | 5, _ => exact ⟨ab_lays5, tyX5_ok, nmX5⟩
  | 6, _ => exact ⟨ab_lays6, tyX6_ok, nmX6⟩
  | 7, _ => exact ⟨ab_lays7, tyX7_ok, nmX7⟩
  | 8, _ => exact ⟨ab_lays8, tyX8_ok, nmX8⟩
  | 9, _ => exact ⟨ab_lays9, tyX9_ok, nmX9⟩
  | 10, _ => exact ⟨ab_lays10, tyX10_ok, nmX10⟩
  | 11, _ => exact ⟨ab_lays11, tyX11_ok, nmX11⟩
  | 12, _ => exact ⟨ab_lays12, tyX12_ok, nmX12⟩
  | n + 13, h => omega
/-- a field's link: class ci, field k, by the own class's entry idx -/
def ab_L (own : String) (idx ci k : Nat) : Prop := ci ≤ 12 ∧ k < ab_N ci ∧ Cond.fieldLink own idx (ab_TX ci k).1 (ab_TX ci k).2.1 (ab_TX ci k).2.2.1 ∈ ab_G
section EWH
variable {M : ab_M} {pc : Nat} {lv : List (Nat × Value)} {st : List Value} {σ : ab_St} {d bc bs : Nat} {K : Option Value → ab_St → Prop}
theorem ab_fs_at {ad : Nat → Nat} {c ci k : Nat} (hk : k < ab_N ci) : (ab_fs ad σ c ci)[k]? = some (ab_f ad σ c ci k) := by
  simp [ab_fs, List.getElem?_map, List.getElem?_range hk]
theorem ab_e_o {tyc : Nat → ClassId} {ad : Nat → Nat} {c ci : Nat} (hs : σ.2.1 c = .inl ci) : ab_e tyc ad σ c = .inr (ci, ab_fs ad σ c ci) := by
  simp [ab_e, hs]
theorem ab_e_a {tyc : Nat → ClassId} {ad : Nat → Nat} {c t n : Nat} (hs : σ.2.1 c = .inr (t, n)) : ab_e tyc ad σ c = .inl (tyc t, n, ab_a ad σ c t) := by
  simp [ab_e, hs]
theorem ab_tys_at {tyc : Nat → ClassId} {t : Nat} (h : t < 9) : (ab_tys tyc)[t]? = some (tyc t, ab_ty t) := by
  simp [ab_tys, List.getElem?_map, List.getElem?_range h]
theorem EW_geti {idx ci k c : Nat} (ht : ab_isr (ab_tf ci k) = false) (hL : ab_L M.1.cls idx ci k) {pc2 : Nat} (hp : pc + 3 = pc2) (hd : decode M.2.1 pc = .ok (.getfield idx, 3)) (hc : c < σ.1) (hs : σ.2.1 c = .inl ci) (h : EW M pc2 lv (.int (σ.2.2.1 c k) :: st) σ d bc bs K) : EW M pc lv (.ref c :: st) σ d bc bs K := by
  subst hp
  intro p l e R s m args below meth c9 D tyc adK adV A H locs cells slots ad d0 ls G hC hP hD hS hl hsa hd0 h1 h2 h3 h4 hG
  obtain ⟨hci, hk, hlink⟩ := hL
  exact va_get (ci := ci) (C := ab_RX ci) (T := ab_TX ci) (N := ab_N ci) hC.1 hC.2.1 (dr_words hC.2.2.2.2.2.1 d0) (ab_cf ci hci).1 hC.2.2.2.2.1 hC.2.2.2.2.2.2.2.1 hP c (by rw [ab_w_at hc, ab_e_o hs]) (ab_cl_at hci) k hk ((dr_words hC.2.2.2.2.2.1 d0) _ hlink) (fun _ h9 => h9) (v := .int (σ.2.2.1 c k)) (by rw [ab_fs_at hk]; simp [ab_f, ht]) hd (h p l e R s m args below meth c9 D tyc adK adV A H locs cells slots ad d0 ls G hC hP hD hS hl hsa hd0 h1 h2 h3 h4 hG)
theorem EW_getr {idx ci k c : Nat} {r : Nat} (ht : ab_isr (ab_tf ci k) = true) (hr : σ.2.2.2.2.2 c k = some r) (hL : ab_L M.1.cls idx ci k) {pc2 : Nat} (hp : pc + 3 = pc2) (hd : decode M.2.1 pc = .ok (.getfield idx, 3)) (hc : c < σ.1) (hs : σ.2.1 c = .inl ci) (h : EW M pc2 lv (.ref r :: st) σ d bc bs K) : EW M pc lv (.ref c :: st) σ d bc bs K := by
  subst hp
  intro p l e R s m args below meth c9 D tyc adK adV A H locs cells slots ad d0 ls G hC hP hD hS hl hsa hd0 h1 h2 h3 h4 hG
  obtain ⟨hci, hk, hlink⟩ := hL
  exact va_get (ci := ci) (C := ab_RX ci) (T := ab_TX ci) (N := ab_N ci) hC.1 hC.2.1 (dr_words hC.2.2.2.2.2.1 d0) (ab_cf ci hci).1 hC.2.2.2.2.1 hC.2.2.2.2.2.2.2.1 hP c (by rw [ab_w_at hc, ab_e_o hs]) (ab_cl_at hci) k hk ((dr_words hC.2.2.2.2.2.1 d0) _ hlink) (fun _ h9 => h9) (v := .ref (ad r)) (by rw [ab_fs_at hk]; simp [ab_f, ht, hr, va_rf]) hd (h p l e R s m args below meth c9 D tyc adK adV A H locs cells slots ad d0 ls G hC hP hD hS hl hsa hd0 h1 h2 h3 h4 hG)
theorem ab_ui_o {tyc : Nat → ClassId} {ad : Nat → Nat} {c ci k : Nat} {v : Int32} (hs : σ.2.1 c = .inl ci) (ht : ab_isr (ab_tf ci k) = false) : (ab_w tyc ad σ).set c (ad c, .inr (ci, (ab_fs ad σ c ci).set k (.int v))) = ab_w tyc ad (ab_ui σ c k v) := by
  refine ab_w_set rfl ?_ (fun j hj => ?_)
  · rw [ab_e_o (show (ab_ui σ c k v).2.1 c = .inl ci from hs)]
    unfold ab_fs
    rw [ab_range_set]
    refine congrArg (fun f => Sum.inr (ci, (List.range (ab_N ci)).map f)) (funext fun j => ?_)
    by_cases hj : j = k
    · subst hj
      simp [ab_f, ht, ab_ui, upd]
    · simp [ab_f, ab_ui, upd, hj]
  · show (match σ.2.1 j with | .inl ci => (.inr (ci, ab_fs ad (ab_ui σ c k v) j ci) : va_E) | .inr q => .inl (tyc q.1, q.2, ab_a ad (ab_ui σ c k v) j q.1)) = ab_e tyc ad σ j
    unfold ab_e
    cases σ.2.1 j with
    | inl x => simp [ab_fs, ab_ui, hj]; intro a ha; simp [ab_f, hj]
    | inr q => simp [ab_a, ab_ui, hj]
theorem ab_ur_o {tyc : Nat → ClassId} {ad : Nat → Nat} {c ci k r : Nat} (hs : σ.2.1 c = .inl ci) (ht : ab_isr (ab_tf ci k) = true) : (ab_w tyc ad σ).set c (ad c, .inr (ci, (ab_fs ad σ c ci).set k (.ref (ad r)))) = ab_w tyc ad (ab_ur σ c k (some r)) := by
  refine ab_w_set rfl ?_ (fun j hj => ?_)
  · rw [ab_e_o (show (ab_ur σ c k (some r)).2.1 c = .inl ci from hs)]
    unfold ab_fs
    rw [ab_range_set]
    refine congrArg (fun f => Sum.inr (ci, (List.range (ab_N ci)).map f)) (funext fun j => ?_)
    by_cases hj : j = k
    · subst hj
      simp [ab_f, ht, ab_ur, va_up, va_rf]
    · simp [ab_f, ab_ur, va_up, hj]
  · show (match σ.2.1 j with | .inl ci => (.inr (ci, ab_fs ad (ab_ur σ c k (some r)) j ci) : va_E) | .inr q => .inl (tyc q.1, q.2, ab_a ad (ab_ur σ c k (some r)) j q.1)) = ab_e tyc ad σ j
    unfold ab_e
    cases σ.2.1 j with
    | inl x => simp [ab_fs, ab_ur, hj]; intro a ha; simp [ab_f, hj]
    | inr q => simp [ab_a, ab_ur, hj]
theorem EW_puti {idx ci k c : Nat} {v : Int32} (ht : ab_isr (ab_tf ci k) = false) (hf : (ab_TX ci k).2.2.2 = false) (hn : narrow (ab_tf ci k) (.int v) = .int v) (hfit : fits (ab_tf ci k) (.int v) = true) (hL : ab_L M.1.cls idx ci k) {pc2 : Nat} (hp : pc + 3 = pc2) (hd : decode M.2.1 pc = .ok (.putfield idx, 3)) (hc : c < σ.1) (hs : σ.2.1 c = .inl ci) (h : EW M pc2 lv st (ab_ui σ c k v) d bc bs K) : EW M pc lv (.int v :: .ref c :: st) σ d bc bs K := by
  subst hp
  intro p l e R s m args below meth c9 D tyc adK adV A H locs cells slots ad d0 ls G hC hP hD hS hl hsa hd0 h1 h2 h3 h4 hG
  obtain ⟨hci, hk, hlink⟩ := hL
  obtain ⟨f1, f2, f3⟩ := ab_cf ci hci
  refine va_put (ci := ci) (v := .int v) (ty := ab_tf ci k) (C := ab_RX ci) (T := ab_TX ci) (N := ab_N ci) hC.1 hC.2.1 (dr_words hC.2.2.2.2.2.1 d0) f1 (ab_tf ci) f2 f3 hC.2.2.2.2.1 hC.2.2.2.2.2.2.2.1 hP hD hS c (by rw [ab_w_at hc, ab_e_o hs]) (ab_cl_at hci) k hk ((dr_words hC.2.2.2.2.2.1 d0) _ hlink) (fun _ h9 => h9) hf (f2 k hk) hn hfit (by simp [ab_fs]; exact hk) hd (fun H locs hP hD hS => ?_)
  rw [ab_ui_o hs ht] at hP hD
  exact (h p l e R s m args below meth c9 D tyc adK adV A H locs cells slots ad d0 ls G hC hP hD hS hl hsa hd0 h1 h2 h3 h4 hG)
theorem EW_putr {idx ci k c r : Nat} (ht : ab_isr (ab_tf ci k) = true) (hf : (ab_TX ci k).2.2.2 = false) (hn : ∀ a, narrow (ab_tf ci k) (.ref a) = .ref a) (hfit : ∀ a, fits (ab_tf ci k) (.ref a) = true) (hL : ab_L M.1.cls idx ci k) {pc2 : Nat} (hp : pc + 3 = pc2) (hd : decode M.2.1 pc = .ok (.putfield idx, 3)) (hc : c < σ.1) (hs : σ.2.1 c = .inl ci) (h : EW M pc2 lv st (ab_ur σ c k (some r)) d bc bs K) : EW M pc lv (.ref r :: .ref c :: st) σ d bc bs K := by
  subst hp
  intro p l e R s m args below meth c9 D tyc adK adV A H locs cells slots ad d0 ls G hC hP hD hS hl hsa hd0 h1 h2 h3 h4 hG
  obtain ⟨hci, hk, hlink⟩ := hL
  obtain ⟨f1, f2, f3⟩ := ab_cf ci hci
  refine va_put (ci := ci) (v := .ref (ad r)) (ty := ab_tf ci k) (C := ab_RX ci) (T := ab_TX ci) (N := ab_N ci) hC.1 hC.2.1 (dr_words hC.2.2.2.2.2.1 d0) f1 (ab_tf ci) f2 f3 hC.2.2.2.2.1 hC.2.2.2.2.2.2.2.1 hP hD hS c (by rw [ab_w_at hc, ab_e_o hs]) (ab_cl_at hci) k hk ((dr_words hC.2.2.2.2.2.1 d0) _ hlink) (fun _ h9 => h9) hf (f2 k hk) (hn _) (hfit _) (by simp [ab_fs]; exact hk) hd (fun H locs hP hD hS => ?_)
  rw [ab_ur_o hs ht] at hP hD
  exact (h p l e R s m args below meth c9 D tyc adK adV A H locs cells slots ad d0 ls G hC hP hD hS hl hsa hd0 h1 h2 h3 h4 hG)
theorem EW_putF {idx ci k c r : Nat} (ht : ab_isr (ab_tf ci k) = true) (hf : (ab_TX ci k).2.2.2 = true) (hi : M.1.name = "<init>") (hown : (ab_TX ci k).1 = M.1.cls) (hn : ∀ a, narrow (ab_tf ci k) (.ref a) = .ref a) (hfit : ∀ a, fits (ab_tf ci k) (.ref a) = true) (hL : ab_L M.1.cls idx ci k) {pc2 : Nat} (hp : pc + 3 = pc2) (hd : decode M.2.1 pc = .ok (.putfield idx, 3)) (hc : c < σ.1) (hs : σ.2.1 c = .inl ci) (h : EW M pc2 lv st (ab_ur σ c k (some r)) d bc bs K) : EW M pc lv (.ref r :: .ref c :: st) σ d bc bs K := by
  subst hp
  intro p l e R s m args below meth c9 D tyc adK adV A H locs cells slots ad d0 ls G hC hP hD hS hl hsa hd0 h1 h2 h3 h4 hG
  obtain ⟨hci, hk, hlink⟩ := hL
  obtain ⟨f1, f2, f3⟩ := ab_cf ci hci
  refine va_putF (ci := ci) (v := .ref (ad r)) (ty := ab_tf ci k) (C := ab_RX ci) (T := ab_TX ci) (N := ab_N ci) hC.1 hC.2.1 (dr_words hC.2.2.2.2.2.1 d0) f1 (ab_tf ci) f2 f3 hC.2.2.2.2.1 hC.2.2.2.2.2.2.2.1 hP hD hS c (by rw [ab_w_at hc, ab_e_o hs]) (ab_cl_at hci) k hk ((dr_words hC.2.2.2.2.2.1 d0) _ hlink) (fun _ h9 => h9) hf (hC.2.2.2.2.2.2.2.2.2.2.1.trans hi) hown (f2 k hk) (hn _) (hfit _) (by simp [ab_fs]; exact hk) hd (fun H locs hP hD hS => ?_)
  rw [ab_ur_o hs ht] at hP hD
  exact (h p l e R s m args below meth c9 D tyc adK adV A H locs cells slots ad d0 ls G hC hP hD hS hl hsa hd0 h1 h2 h3 h4 hG)
theorem EW_putFi {idx ci k c : Nat} {v : Int32} (ht : ab_isr (ab_tf ci k) = false) (hf : (ab_TX ci k).2.2.2 = true) (hi : M.1.name = "<init>") (hown : (ab_TX ci k).1 = M.1.cls) (hn : narrow (ab_tf ci k) (.int v) = .int v) (hfit : fits (ab_tf ci k) (.int v) = true) (hL : ab_L M.1.cls idx ci k) {pc2 : Nat} (hp : pc + 3 = pc2) (hd : decode M.2.1 pc = .ok (.putfield idx, 3)) (hc : c < σ.1) (hs : σ.2.1 c = .inl ci) (h : EW M pc2 lv st (ab_ui σ c k v) d bc bs K) : EW M pc lv (.int v :: .ref c :: st) σ d bc bs K := by
  subst hp
  intro p l e R s m args below meth c9 D tyc adK adV A H locs cells slots ad d0 ls G hC hP hD hS hl hsa hd0 h1 h2 h3 h4 hG
  obtain ⟨hci, hk, hlink⟩ := hL
  obtain ⟨f1, f2, f3⟩ := ab_cf ci hci
  refine va_putF (ci := ci) (v := .int v) (ty := ab_tf ci k) (C := ab_RX ci) (T := ab_TX ci) (N := ab_N ci) hC.1 hC.2.1 (dr_words hC.2.2.2.2.2.1 d0) f1 (ab_tf ci) f2 f3 hC.2.2.2.2.1 hC.2.2.2.2.2.2.2.1 hP hD hS c (by rw [ab_w_at hc, ab_e_o hs]) (ab_cl_at hci) k hk ((dr_words hC.2.2.2.2.2.1 d0) _ hlink) (fun _ h9 => h9) hf (hC.2.2.2.2.2.2.2.2.2.2.1.trans hi) hown (f2 k hk) hn hfit (by simp [ab_fs]; exact hk) hd (fun H locs hP hD hS => ?_)
  rw [ab_ui_o hs ht] at hP hD
  exact (h p l e R s m args below meth c9 D tyc adK adV A H locs cells slots ad d0 ls G hC hP hD hS hl hsa hd0 h1 h2 h3 h4 hG)
theorem EW_iald {c n : Nat} {i : Int32} {pc2 : Nat} (hp : pc + 1 = pc2) (hd : decode M.2.1 pc = .ok (.iaload, 1)) (hc : c < σ.1) (hs : σ.2.1 c = .inr (0, n)) (hin : vp_in i n) (h : EW M pc2 lv (.int (σ.2.2.1 c i.toNatClampNeg) :: st) σ d bc bs K) : EW M pc lv (.int i :: .ref c :: st) σ d bc bs K := by
  subst hp
  intro p l e R s m args below meth c9 D tyc adK adV A H locs cells slots ad d0 ls G hC hP hD hS hl hsa hd0 h1 h2 h3 h4 hG
  exact va_iald (s := s.setDrawn d0) hC.1 hC.2.1 hC.2.2.2.2.2.2.2.1 hP c 0 (by rw [ab_w_at hc, ab_e_a hs]; rfl) (ab_tys_at (by decide)) hin hd (h p l e R s m args below meth c9 D tyc adK adV A H locs cells slots ad d0 ls G hC hP hD hS hl hsa hd0 h1 h2 h3 h4 hG)
theorem EW_zald {c n : Nat} {i : Int32} {pc2 : Nat} (hp : pc + 1 = pc2) (hd : decode M.2.1 pc = .ok (.baload, 1)) (hc : c < σ.1) (hs : σ.2.1 c = .inr (1, n)) (hin : vp_in i n) (h : EW M pc2 lv (.int (σ.2.2.1 c i.toNatClampNeg) :: st) σ d bc bs K) : EW M pc lv (.int i :: .ref c :: st) σ d bc bs K := by
  subst hp
  intro p l e R s m args below meth c9 D tyc adK adV A H locs cells slots ad d0 ls G hC hP hD hS hl hsa hd0 h1 h2 h3 h4 hG
  exact va_zald (s := s.setDrawn d0) hC.1 hC.2.1 hC.2.2.2.2.2.2.2.1 hP c 1 (by rw [ab_w_at hc, ab_e_a hs]; rfl) (ab_tys_at (by decide)) hin hd (h p l e R s m args below meth c9 D tyc adK adV A H locs cells slots ad d0 ls G hC hP hD hS hl hsa hd0 h1 h2 h3 h4 hG)
theorem EW_bald {c n : Nat} {i : Int32} {pc2 : Nat} (hp : pc + 1 = pc2) (hd : decode M.2.1 pc = .ok (.baload, 1)) (hc : c < σ.1) (hs : σ.2.1 c = .inr (2, n)) (hin : vp_in i n) (h : EW M pc2 lv (.int (σ.2.2.1 c i.toNatClampNeg) :: st) σ d bc bs K) : EW M pc lv (.int i :: .ref c :: st) σ d bc bs K := by
  subst hp
  intro p l e R s m args below meth c9 D tyc adK adV A H locs cells slots ad d0 ls G hC hP hD hS hl hsa hd0 h1 h2 h3 h4 hG
  exact va_bald (s := s.setDrawn d0) hC.1 hC.2.1 hC.2.2.2.2.2.2.2.1 hP c 2 (by rw [ab_w_at hc, ab_e_a hs]; rfl) (ab_tys_at (by decide)) hin hd (h p l e R s m args below meth c9 D tyc adK adV A H locs cells slots ad d0 ls G hC hP hD hS hl hsa hd0 h1 h2 h3 h4 hG)
theorem EW_lald {c n : Nat} {i : Int32} {pc2 : Nat} (hp : pc + 1 = pc2) (hd : decode M.2.1 pc = .ok (.laload, 1)) (hc : c < σ.1) (hs : σ.2.1 c = .inr (3, n)) (hin : vp_in i n) (h : EW M pc2 lv (.long (σ.2.2.2.2.1 c i.toNatClampNeg) :: st) σ d bc bs K) : EW M pc lv (.int i :: .ref c :: st) σ d bc bs K := by
  subst hp
  intro p l e R s m args below meth c9 D tyc adK adV A H locs cells slots ad d0 ls G hC hP hD hS hl hsa hd0 h1 h2 h3 h4 hG
  exact va_lald (s := s.setDrawn d0) hC.1 hC.2.1 hC.2.2.2.2.2.2.2.1 hP c 3 (by rw [ab_w_at hc, ab_e_a hs]; rfl) (ab_tys_at (by decide)) hin hd (h p l e R s m args below meth c9 D tyc adK adV A H locs cells slots ad d0 ls G hC hP hD hS hl hsa hd0 h1 h2 h3 h4 hG)
theorem EW_dald {c n : Nat} {i : Int32} {pc2 : Nat} (hp : pc + 1 = pc2) (hd : decode M.2.1 pc = .ok (.daload, 1)) (hc : c < σ.1) (hs : σ.2.1 c = .inr (4, n)) (hin : vp_in i n) (h : EW M pc2 lv (.double (σ.2.2.2.1 c i.toNatClampNeg) :: st) σ d bc bs K) : EW M pc lv (.int i :: .ref c :: st) σ d bc bs K := by
  subst hp
  intro p l e R s m args below meth c9 D tyc adK adV A H locs cells slots ad d0 ls G hC hP hD hS hl hsa hd0 h1 h2 h3 h4 hG
  exact va_dald (s := s.setDrawn d0) hC.1 hC.2.1 hC.2.2.2.2.2.2.2.1 hP c 4 (by rw [ab_w_at hc, ab_e_a hs]; rfl) (ab_tys_at (by decide)) hin hd (h p l e R s m args below meth c9 D tyc adK adV A H locs cells slots ad d0 ls G hC hP hD hS hl hsa hd0 h1 h2 h3 h4 hG)
theorem EW_aald5 {c n r : Nat} {i : Int32} {pc2 : Nat} (hp : pc + 1 = pc2) (hd : decode M.2.1 pc = .ok (.aaload, 1)) (hc : c < σ.1) (hs : σ.2.1 c = .inr (5, n)) (hin : vp_in i n) (hr : σ.2.2.2.2.2 c i.toNatClampNeg = some r) (h : EW M pc2 lv (.ref r :: st) σ d bc bs K) : EW M pc lv (.int i :: .ref c :: st) σ d bc bs K := by
  subst hp
  intro p l e R s m args below meth c9 D tyc adK adV A H locs cells slots ad d0 ls G hC hP hD hS hl hsa hd0 h1 h2 h3 h4 hG
  refine va_aldq (s := s.setDrawn d0) hC.1 hC.2.1 hC.2.2.2.2.2.2.2.1 hP c 5 (by rw [ab_w_at hc, ab_e_a hs]; rfl) (ab_tys_at (by decide)) hin hd ?_
  have hv : va_rf ((σ.2.2.2.2.2 c i.toNatClampNeg).map ad) = .ref (ad r) := by rw [hr]; rfl
  rw [hv]
  exact (h p l e R s m args below meth c9 D tyc adK adV A H locs cells slots ad d0 ls G hC hP hD hS hl hsa hd0 h1 h2 h3 h4 hG)
theorem EW_aald6 {c n r : Nat} {i : Int32} {pc2 : Nat} (hp : pc + 1 = pc2) (hd : decode M.2.1 pc = .ok (.aaload, 1)) (hc : c < σ.1) (hs : σ.2.1 c = .inr (6, n)) (hin : vp_in i n) (hr : σ.2.2.2.2.2 c i.toNatClampNeg = some r) (h : EW M pc2 lv (.ref r :: st) σ d bc bs K) : EW M pc lv (.int i :: .ref c :: st) σ d bc bs K := by
  subst hp
  intro p l e R s m args below meth c9 D tyc adK adV A H locs cells slots ad d0 ls G hC hP hD hS hl hsa hd0 h1 h2 h3 h4 hG
  refine va_aldq (s := s.setDrawn d0) hC.1 hC.2.1 hC.2.2.2.2.2.2.2.1 hP c 6 (by rw [ab_w_at hc, ab_e_a hs]; rfl) (ab_tys_at (by decide)) hin hd ?_
  have hv : va_rf ((σ.2.2.2.2.2 c i.toNatClampNeg).map ad) = .ref (ad r) := by rw [hr]; rfl
  rw [hv]
  exact (h p l e R s m args below meth c9 D tyc adK adV A H locs cells slots ad d0 ls G hC hP hD hS hl hsa hd0 h1 h2 h3 h4 hG)
theorem EW_aald7 {c n r : Nat} {i : Int32} {pc2 : Nat} (hp : pc + 1 = pc2) (hd : decode M.2.1 pc = .ok (.aaload, 1)) (hc : c < σ.1) (hs : σ.2.1 c = .inr (7, n)) (hin : vp_in i n) (hr : σ.2.2.2.2.2 c i.toNatClampNeg = some r) (h : EW M pc2 lv (.ref r :: st) σ d bc bs K) : EW M pc lv (.int i :: .ref c :: st) σ d bc bs K := by
  subst hp
  intro p l e R s m args below meth c9 D tyc adK adV A H locs cells slots ad d0 ls G hC hP hD hS hl hsa hd0 h1 h2 h3 h4 hG
  refine va_aldq (s := s.setDrawn d0) hC.1 hC.2.1 hC.2.2.2.2.2.2.2.1 hP c 7 (by rw [ab_w_at hc, ab_e_a hs]; rfl) (ab_tys_at (by decide)) hin hd ?_
  have hv : va_rf ((σ.2.2.2.2.2 c i.toNatClampNeg).map ad) = .ref (ad r) := by rw [hr]; rfl
  rw [hv]
  exact (h p l e R s m args below meth c9 D tyc adK adV A H locs cells slots ad d0 ls G hC hP hD hS hl hsa hd0 h1 h2 h3 h4 hG)
theorem EW_aald8 {c n r : Nat} {i : Int32} {pc2 : Nat} (hp : pc + 1 = pc2) (hd : decode M.2.1 pc = .ok (.aaload, 1)) (hc : c < σ.1) (hs : σ.2.1 c = .inr (8, n)) (hin : vp_in i n) (hr : σ.2.2.2.2.2 c i.toNatClampNeg = some r) (h : EW M pc2 lv (.ref r :: st) σ d bc bs K) : EW M pc lv (.int i :: .ref c :: st) σ d bc bs K := by
  subst hp
  intro p l e R s m args below meth c9 D tyc adK adV A H locs cells slots ad d0 ls G hC hP hD hS hl hsa hd0 h1 h2 h3 h4 hG
  refine va_aldq (s := s.setDrawn d0) hC.1 hC.2.1 hC.2.2.2.2.2.2.2.1 hP c 8 (by rw [ab_w_at hc, ab_e_a hs]; rfl) (ab_tys_at (by decide)) hin hd ?_
  have hv : va_rf ((σ.2.2.2.2.2 c i.toNatClampNeg).map ad) = .ref (ad r) := by rw [hr]; rfl
  rw [hv]
  exact (h p l e R s m args below meth c9 D tyc adK adV A H locs cells slots ad d0 ls G hC hP hD hS hl hsa hd0 h1 h2 h3 h4 hG)
theorem ab_ui_a {tyc : Nat → ClassId} {ad : Nat → Nat} {c t n k : Nat} {v : Int32} (hs : σ.2.1 c = .inr (t, n)) (ht : t < 3) : (ab_w tyc ad σ).set c (ad c, .inl (tyc t, n, .inl (upd (σ.2.2.1 c) k v))) = ab_w tyc ad (ab_ui σ c k v) := by
  refine ab_w_set rfl ?_ (fun j hj => ?_)
  · rw [ab_e_a (show (ab_ui σ c k v).2.1 c = .inr (t, n) from hs)]
    simp [ab_a, ht, ab_ui]
  · show (match σ.2.1 j with | .inl ci => (.inr (ci, ab_fs ad (ab_ui σ c k v) j ci) : va_E) | .inr q => .inl (tyc q.1, q.2, ab_a ad (ab_ui σ c k v) j q.1)) = ab_e tyc ad σ j
    unfold ab_e
    cases σ.2.1 j with
    | inl x => simp [ab_fs, ab_ui, hj]; intro a ha; simp [ab_f, hj]
    | inr q => simp [ab_a, ab_ui, hj]
theorem ab_ud_a {tyc : Nat → ClassId} {ad : Nat → Nat} {c n k : Nat} {v : UInt64} (hs : σ.2.1 c = .inr (4, n)) : (ab_w tyc ad σ).set c (ad c, .inl (tyc 4, n, .inr (.inr (.inr (.inl (vf_upd (σ.2.2.2.1 c) k v)))))) = ab_w tyc ad (ab_ud σ c k v) := by
  refine ab_w_set rfl ?_ (fun j hj => ?_)
  · rw [ab_e_a (show (ab_ud σ c k v).2.1 c = .inr (4, n) from hs)]
    simp [ab_a, ab_ud]
  · show (match σ.2.1 j with | .inl ci => (.inr (ci, ab_fs ad (ab_ud σ c k v) j ci) : va_E) | .inr q => .inl (tyc q.1, q.2, ab_a ad (ab_ud σ c k v) j q.1)) = ab_e tyc ad σ j
    unfold ab_e
    cases σ.2.1 j with
    | inl x => simp [ab_fs, ab_ud]; intro a ha; simp [ab_f]
    | inr q => simp [ab_a, ab_ud, hj]
theorem ab_ul_a {tyc : Nat → ClassId} {ad : Nat → Nat} {c n k : Nat} {v : Int64} (hs : σ.2.1 c = .inr (3, n)) : (ab_w tyc ad σ).set c (ad c, .inl (tyc 3, n, .inr (.inl (vp_updL (σ.2.2.2.2.1 c) k v)))) = ab_w tyc ad (ab_ul σ c k v) := by
  refine ab_w_set rfl ?_ (fun j hj => ?_)
  · rw [ab_e_a (show (ab_ul σ c k v).2.1 c = .inr (3, n) from hs)]
    simp [ab_a, ab_ul]
  · show (match σ.2.1 j with | .inl ci => (.inr (ci, ab_fs ad (ab_ul σ c k v) j ci) : va_E) | .inr q => .inl (tyc q.1, q.2, ab_a ad (ab_ul σ c k v) j q.1)) = ab_e tyc ad σ j
    unfold ab_e
    cases σ.2.1 j with
    | inl x => simp [ab_fs, ab_ul]; intro a ha; simp [ab_f]
    | inr q => simp [ab_a, ab_ul, hj]
theorem EW_iast {c n : Nat} {i : Int32} {x : Int32} {pc2 : Nat} (hp : pc + 1 = pc2) (hd : decode M.2.1 pc = .ok (.iastore, 1)) (hc : c < σ.1) (hs : σ.2.1 c = .inr (0, n)) (hin : vp_in i n) (h : EW M pc2 lv st (ab_ui σ c i.toNatClampNeg x) d bc bs K) : EW M pc lv (.int x :: .int i :: .ref c :: st) σ d bc bs K := by
  subst hp
  intro p l e R s m args below meth c9 D tyc adK adV A H locs cells slots ad d0 ls G hC hP hD hS hl hsa hd0 h1 h2 h3 h4 hG
  refine va_iast (s := s.setDrawn d0) hC.1 hC.2.1 hC.2.2.2.2.2.2.2.1 hP hD hS c 0 (by rw [ab_w_at hc, ab_e_a hs]; rfl) (ab_tys_at (by decide)) hin hd (fun H locs hP hD hS => ?_)
  rw [ab_ui_a hs (by decide)] at hP hD
  exact (h p l e R s m args below meth c9 D tyc adK adV A H locs cells slots ad d0 ls G hC hP hD hS hl hsa hd0 h1 h2 h3 h4 hG)
theorem EW_zast {c n : Nat} {i : Int32} {x : Int32} {pc2 : Nat} (hp : pc + 1 = pc2) (hd : decode M.2.1 pc = .ok (.bastore, 1)) (hc : c < σ.1) (hs : σ.2.1 c = .inr (1, n)) (hin : vp_in i n) (h : EW M pc2 lv st (ab_ui σ c i.toNatClampNeg (vp_nar .boolean x)) d bc bs K) : EW M pc lv (.int x :: .int i :: .ref c :: st) σ d bc bs K := by
  subst hp
  intro p l e R s m args below meth c9 D tyc adK adV A H locs cells slots ad d0 ls G hC hP hD hS hl hsa hd0 h1 h2 h3 h4 hG
  refine va_zast (s := s.setDrawn d0) hC.1 hC.2.1 hC.2.2.2.2.2.2.2.1 hP hD hS c 1 (by rw [ab_w_at hc, ab_e_a hs]; rfl) (ab_tys_at (by decide)) hin hd (fun H locs hP hD hS => ?_)
  rw [ab_ui_a hs (by decide)] at hP hD
  exact (h p l e R s m args below meth c9 D tyc adK adV A H locs cells slots ad d0 ls G hC hP hD hS hl hsa hd0 h1 h2 h3 h4 hG)
theorem EW_bast {c n : Nat} {i : Int32} {x : Int32} {pc2 : Nat} (hp : pc + 1 = pc2) (hd : decode M.2.1 pc = .ok (.bastore, 1)) (hc : c < σ.1) (hs : σ.2.1 c = .inr (2, n)) (hin : vp_in i n) (h : EW M pc2 lv st (ab_ui σ c i.toNatClampNeg (vp_nar .byte x)) d bc bs K) : EW M pc lv (.int x :: .int i :: .ref c :: st) σ d bc bs K := by
  subst hp
  intro p l e R s m args below meth c9 D tyc adK adV A H locs cells slots ad d0 ls G hC hP hD hS hl hsa hd0 h1 h2 h3 h4 hG
  refine va_bast (s := s.setDrawn d0) hC.1 hC.2.1 hC.2.2.2.2.2.2.2.1 hP hD hS c 2 (by rw [ab_w_at hc, ab_e_a hs]; rfl) (ab_tys_at (by decide)) hin hd (fun H locs hP hD hS => ?_)
  rw [ab_ui_a hs (by decide)] at hP hD
  exact (h p l e R s m args below meth c9 D tyc adK adV A H locs cells slots ad d0 ls G hC hP hD hS hl hsa hd0 h1 h2 h3 h4 hG)
theorem EW_last {c n : Nat} {i : Int32} {x : Int64} {pc2 : Nat} (hp : pc + 1 = pc2) (hd : decode M.2.1 pc = .ok (.lastore, 1)) (hc : c < σ.1) (hs : σ.2.1 c = .inr (3, n)) (hin : vp_in i n) (h : EW M pc2 lv st (ab_ul σ c i.toNatClampNeg x) d bc bs K) : EW M pc lv (.long x :: .int i :: .ref c :: st) σ d bc bs K := by
  subst hp
  intro p l e R s m args below meth c9 D tyc adK adV A H locs cells slots ad d0 ls G hC hP hD hS hl hsa hd0 h1 h2 h3 h4 hG
  refine va_last (s := s.setDrawn d0) hC.1 hC.2.1 hC.2.2.2.2.2.2.2.1 hP hD hS c 3 (by rw [ab_w_at hc, ab_e_a hs]; rfl) (ab_tys_at (by decide)) hin hd (fun H locs hP hD hS => ?_)
  rw [ab_ul_a hs] at hP hD
  exact (h p l e R s m args below meth c9 D tyc adK adV A H locs cells slots ad d0 ls G hC hP hD hS hl hsa hd0 h1 h2 h3 h4 hG)
theorem EW_dast {c n : Nat} {i : Int32} {x : UInt64} {pc2 : Nat} (hp : pc + 1 = pc2) (hd : decode M.2.1 pc = .ok (.dastore, 1)) (hc : c < σ.1) (hs : σ.2.1 c = .inr (4, n)) (hin : vp_in i n) (h : EW M pc2 lv st (ab_ud σ c i.toNatClampNeg x) d bc bs K) : EW M pc lv (.double x :: .int i :: .ref c :: st) σ d bc bs K := by
  subst hp
  intro p l e R s m args below meth c9 D tyc adK adV A H locs cells slots ad d0 ls G hC hP hD hS hl hsa hd0 h1 h2 h3 h4 hG
  refine va_dast (s := s.setDrawn d0) hC.1 hC.2.1 hC.2.2.2.2.2.2.2.1 hP hD hS c 4 (by rw [ab_w_at hc, ab_e_a hs]; rfl) (ab_tys_at (by decide)) hin hd (fun H locs hP hD hS => ?_)
  rw [ab_ud_a hs] at hP hD
  exact (h p l e R s m args below meth c9 D tyc adK adV A H locs cells slots ad d0 ls G hC hP hD hS hl hsa hd0 h1 h2 h3 h4 hG)
theorem EW_alen {c t n : Nat} {v : Int32} {pc2 : Nat} (hp : pc + 1 = pc2) (hd : decode M.2.1 pc = .ok (.arraylength, 1)) (hc : c < σ.1) (ht : t < 9) (hs : σ.2.1 c = .inr (t, n)) (hv : Int32.ofNat n = v) (h : EW M pc2 lv (.int v :: st) σ d bc bs K) : EW M pc lv (.ref c :: st) σ d bc bs K := by
  subst hp
  intro p l e R s m args below meth c9 D tyc adK adV A H locs cells slots ad d0 ls G hC hP hD hS hl hsa hd0 h1 h2 h3 h4 hG
  exact va_alen (s := s.setDrawn d0) hC.1 hC.2.1 hC.2.2.2.2.2.2.2.1 hP c t (by rw [ab_w_at hc, ab_e_a hs]) (ab_tys_at ht) hv hd (h p l e R s m args below meth c9 D tyc adK adV A H locs cells slots ad d0 ls G hC hP hD hS hl hsa hd0 h1 h2 h3 h4 hG)
theorem EW_ldc {idx : Nat} {v : Int32} (hw : Cond.constant M.1.cls idx v ∈ ab_G) {pc2 : Nat} (hp : pc + 2 = pc2) (hd : decode M.2.1 pc = .ok (.ldc idx, 2)) (h : EW M pc2 lv (.int v :: st) σ d bc bs K) : EW M pc lv st σ d bc bs K := by
  subst hp
  intro p l e R s m args below meth c9 D tyc adK adV A H locs cells slots ad d0 ls G hC hP hD hS hl hsa hd0 h1 h2 h3 h4 hG
  exact lv_ldc hC.1 hC.2.1 hC.2.2.2.2.1 ((dr_words hC.2.2.2.2.2.1 d0) _ hw) hd (h p l e R s m args below meth c9 D tyc adK adV A H locs cells slots ad d0 ls G hC hP hD hS hl hsa hd0 h1 h2 h3 h4 hG)
theorem EW_ldcw {idx : Nat} {v : Int32} (hw : Cond.constant M.1.cls idx v ∈ ab_G) {pc2 : Nat} (hp : pc + 3 = pc2) (hd : decode M.2.1 pc = .ok (.ldc_w idx, 3)) (h : EW M pc2 lv (.int v :: st) σ d bc bs K) : EW M pc lv st σ d bc bs K := by
  subst hp
  intro p l e R s m args below meth c9 D tyc adK adV A H locs cells slots ad d0 ls G hC hP hD hS hl hsa hd0 h1 h2 h3 h4 hG
  exact lv_ldcw hC.1 hC.2.1 hC.2.2.2.2.1 ((dr_words hC.2.2.2.2.2.1 d0) _ hw) hd (h p l e R s m args below meth c9 D tyc adK adV A H locs cells slots ad d0 ls G hC hP hD hS hl hsa hd0 h1 h2 h3 h4 hG)
theorem EW_ldc2 {idx : Nat} {v : Int64} (hw : Cond.constantLong M.1.cls idx v ∈ ab_G) {pc2 : Nat} (hp : pc + 3 = pc2) (hd : decode M.2.1 pc = .ok (.ldc2_w idx, 3)) (h : EW M pc2 lv (.long v :: st) σ d bc bs K) : EW M pc lv st σ d bc bs K := by
  subst hp
  intro p l e R s m args below meth c9 D tyc adK adV A H locs cells slots ad d0 ls G hC hP hD hS hl hsa hd0 h1 h2 h3 h4 hG
  exact lv_ldc2 hC.1 hC.2.1 hC.2.2.2.2.1 ((dr_words hC.2.2.2.2.2.1 d0) _ hw) hd (h p l e R s m args below meth c9 D tyc adK adV A H locs cells slots ad d0 ls G hC hP hD hS hl hsa hd0 h1 h2 h3 h4 hG)
theorem EW_iret {v : Int32} {ty : FieldType} (hr : M.2.2.2 = some ty) (hn : narrow ty (.int v) = .int v) (hd : decode M.2.1 pc = .ok (.ireturn, 1)) (hk : K (some (.int v)) σ) : EW M pc lv [.int v] σ d bc bs K := by
  intro p l e R s m args below meth c9 D tyc adK adV A H locs cells slots ad d0 ls G hC hP hD hS hl hsa hd0 h1 h2 h3 h4 hG
  refine W.endD hd0 ?_
  refine W.widen (k := R.cells) (n := R.slots) (by omega) (by omega) ?_
  exact W.zret hC.1 hC.2.1 (hC.2.2.1.trans hr) hn (fun t ht hW => ⟨⟨some (.int v), σ, ad, rfl, hk, by rw [ht]; exact hP, hD, hG σ ad (Nat.le_refl _) (fun _ _ => rfl) (fun _ => rfl) hsa⟩, hS.F ht⟩) hS.2.2 hd hC.2.2.2.2.2.2.1
theorem EW_vret (hr : M.2.2.2 = none) (hd : decode M.2.1 pc = .ok (.return_, 1)) (hk : K (none) σ) : EW M pc lv [] σ d bc bs K := by
  intro p l e R s m args below meth c9 D tyc adK adV A H locs cells slots ad d0 ls G hC hP hD hS hl hsa hd0 h1 h2 h3 h4 hG
  refine W.endD hd0 ?_
  refine W.widen (k := R.cells) (n := R.slots) (by omega) (by omega) ?_
  exact W.vret hC.1 hC.2.1 (hC.2.2.1.trans hr) (fun t ht hW => ⟨⟨none, σ, ad, rfl, hk, by rw [ht]; exact hP, hD, hG σ ad (Nat.le_refl _) (fun _ _ => rfl) (fun _ => rfl) hsa⟩, hS.F ht⟩) hS.2.2 hd hC.2.2.2.2.2.2.1
theorem EW_lret {v : Int64} (hr : M.2.2.2 = some .long) (hd : decode M.2.1 pc = .ok (.lreturn, 1)) (hk : K (some (.long v)) σ) : EW M pc lv [.long v] σ d bc bs K := by
  intro p l e R s m args below meth c9 D tyc adK adV A H locs cells slots ad d0 ls G hC hP hD hS hl hsa hd0 h1 h2 h3 h4 hG
  refine W.endD hd0 ?_
  refine W.widen (k := R.cells) (n := R.slots) (by omega) (by omega) ?_
  exact W.lret hC.1 hC.2.1 (hC.2.2.1.trans hr) (fun t ht hW => ⟨⟨some (.long v), σ, ad, rfl, hk, by rw [ht]; exact hP, hD, hG σ ad (Nat.le_refl _) (fun _ _ => rfl) (fun _ => rfl) hsa⟩, hS.F ht⟩) hS.2.2 hd hC.2.2.2.2.2.2.1
theorem EW_dret {v : UInt64} (hr : M.2.2.2 = some .double) (hd : decode M.2.1 pc = .ok (.dreturn, 1)) (hk : K (some (.double v)) σ) : EW M pc lv [.double v] σ d bc bs K := by
  intro p l e R s m args below meth c9 D tyc adK adV A H locs cells slots ad d0 ls G hC hP hD hS hl hsa hd0 h1 h2 h3 h4 hG
  refine W.endD hd0 ?_
  refine W.widen (k := R.cells) (n := R.slots) (by omega) (by omega) ?_
  exact W.dret hC.1 hC.2.1 (hC.2.2.1.trans hr) (fun t ht hW => ⟨⟨some (.double v), σ, ad, rfl, hk, by rw [ht]; exact hP, hD, hG σ ad (Nat.le_refl _) (fun _ _ => rfl) (fun _ => rfl) hsa⟩, hS.F ht⟩) hS.2.2 hd hC.2.2.2.2.2.2.1
theorem EW_aret {v : Nat} {rt : FieldType} (hr : M.2.2.2 = some rt) (hrt : (∃ n, rt = .object n) ∨ ∃ t, rt = .array t) (hd : decode M.2.1 pc = .ok (.areturn, 1)) (hk : K (some (.ref v)) σ) : EW M pc lv [.ref v] σ d bc bs K := by
  intro p l e R s m args below meth c9 D tyc adK adV A H locs cells slots ad d0 ls G hC hP hD hS hl hsa hd0 h1 h2 h3 h4 hG
  refine W.endD hd0 ?_
  refine W.widen (k := R.cells) (n := R.slots) (by omega) (by omega) ?_
  exact W.aret hC.1 hC.2.1 (hC.2.2.1.trans hr) hrt (Or.inr ⟨_, rfl⟩) (fun t ht hW => ⟨⟨some (.ref v), σ, ad, rfl, hk, by rw [ht]; exact hP, hD, hG σ ad (Nat.le_refl _) (fun _ _ => rfl) (fun _ => rfl) hsa⟩, hS.F ht⟩) hS.2.2 hd hC.2.2.2.2.2.2.1
end EWH
