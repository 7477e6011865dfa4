theorem gfRX11_288 : ab_L RX11 288 2 10 := ⟨by decide, by decide, ab_in 435 (by decide +kernel) (by decide +kernel)⟩
theorem gfRX11_291 : ab_L RX11 291 2 11 := ⟨by decide, by decide, ab_in 439 (by decide +kernel) (by decide +kernel)⟩
theorem gfRX11_294 : ab_L RX11 294 2 12 := ⟨by decide, by decide, ab_in 442 (by decide +kernel) (by decide +kernel)⟩
theorem gfRX11_297 : ab_L RX11 297 2 13 := ⟨by decide, by decide, ab_in 444 (by decide +kernel) (by decide +kernel)⟩
theorem gfRX11_300 : ab_L RX11 300 2 15 := ⟨by decide, by decide, ab_in 449 (by decide +kernel) (by decide +kernel)⟩
theorem gfRX11_307 : ab_L RX11 307 2 16 := ⟨by decide, by decide, ab_in 451 (by decide +kernel) (by decide +kernel)⟩
theorem mlRX11_303 : Cond.methodLink RX11 303 yX2_slow ∈ ab_G ∧ Cond.instanceMethod yX2_slow ∈ ab_G ∧ Cond.selects RX2 yX2_slow yX2_slow ∈ ab_G := ⟨ab_in 1840 (by decide +kernel) (by decide +kernel), ab_in 1014 (by decide +kernel) (by decide +kernel), ab_in 1015 (by decide +kernel) (by decide +kernel)⟩
abbrev MX11_about : ab_M := (yX11_about, cX11_about, 4, (some .int))
theorem dX11_about_0 : decode cX11_about 0 = .ok (.aload_n 0, 1) := by decide +kernel
theorem dX11_about_1 : decode cX11_about 1 = .ok (.getfield 30, 3) := by decide +kernel
theorem dX11_about_4 : decode cX11_about 4 = .ok (.iload_n 1, 1) := by decide +kernel
theorem dX11_about_5 : decode cX11_about 5 = .ok (.invokevirtual 256, 3) := by decide +kernel
theorem dX11_about_8 : decode cX11_about 8 = .ok (.ifCond .eq 13, 3) := by decide +kernel
theorem dX11_about_11 : decode cX11_about 11 = .ok (.iload_n 2, 1) := by decide +kernel
theorem dX11_about_12 : decode cX11_about 12 = .ok (.iconst 0, 1) := by decide +kernel
theorem dX11_about_13 : decode cX11_about 13 = .ok (.bipush 8, 2) := by decide +kernel
theorem dX11_about_15 : decode cX11_about 15 = .ok (.invokestatic 74, 3) := by decide +kernel
theorem dX11_about_18 : decode cX11_about 18 = .ok (.ifCond .ne 11, 3) := by decide +kernel
theorem dX11_about_21 : decode cX11_about 21 = .ok (.new 285, 3) := by decide +kernel
theorem dX11_about_24 : decode cX11_about 24 = .ok (.dup, 1) := by decide +kernel
theorem dX11_about_25 : decode cX11_about 25 = .ok (.invokespecial 287, 3) := by decide +kernel
theorem dX11_about_28 : decode cX11_about 28 = .ok (.athrow, 1) := by decide +kernel
theorem dX11_about_29 : decode cX11_about 29 = .ok (.aload_n 0, 1) := by decide +kernel
theorem dX11_about_30 : decode cX11_about 30 = .ok (.getfield 30, 3) := by decide +kernel
theorem dX11_about_33 : decode cX11_about 33 = .ok (.getfield 241, 3) := by decide +kernel
theorem dX11_about_36 : decode cX11_about 36 = .ok (.iload_n 1, 1) := by decide +kernel
theorem dX11_about_37 : decode cX11_about 37 = .ok (.aaload, 1) := by decide +kernel
theorem dX11_about_38 : decode cX11_about 38 = .ok (.astore_n 3, 1) := by decide +kernel
theorem dX11_about_39 : decode cX11_about 39 = .ok (.iload_n 2, 1) := by decide +kernel
theorem dX11_about_40 : decode cX11_about 40 = .ok (.tableswitch 88 0 7 #[48, 53, 58, 63, 68, 73, 78, 83], 48) := by decide +kernel
theorem dX11_about_88 : decode cX11_about 88 = .ok (.aload_n 3, 1) := by decide +kernel
theorem dX11_about_89 : decode cX11_about 89 = .ok (.getfield 257, 3) := by decide +kernel
theorem dX11_about_92 : decode cX11_about 92 = .ok (.ireturn, 1) := by decide +kernel
theorem dX11_about_93 : decode cX11_about 93 = .ok (.aload_n 3, 1) := by decide +kernel
theorem dX11_about_94 : decode cX11_about 94 = .ok (.getfield 278, 3) := by decide +kernel
theorem dX11_about_97 : decode cX11_about 97 = .ok (.ireturn, 1) := by decide +kernel
theorem dX11_about_98 : decode cX11_about 98 = .ok (.aload_n 3, 1) := by decide +kernel
theorem dX11_about_99 : decode cX11_about 99 = .ok (.getfield 288, 3) := by decide +kernel
theorem dX11_about_102 : decode cX11_about 102 = .ok (.ireturn, 1) := by decide +kernel
theorem dX11_about_103 : decode cX11_about 103 = .ok (.aload_n 3, 1) := by decide +kernel
theorem dX11_about_104 : decode cX11_about 104 = .ok (.getfield 291, 3) := by decide +kernel
theorem dX11_about_107 : decode cX11_about 107 = .ok (.ireturn, 1) := by decide +kernel
theorem dX11_about_108 : decode cX11_about 108 = .ok (.aload_n 3, 1) := by decide +kernel
theorem dX11_about_109 : decode cX11_about 109 = .ok (.getfield 294, 3) := by decide +kernel
theorem dX11_about_112 : decode cX11_about 112 = .ok (.ireturn, 1) := by decide +kernel
theorem dX11_about_113 : decode cX11_about 113 = .ok (.aload_n 3, 1) := by decide +kernel
theorem dX11_about_114 : decode cX11_about 114 = .ok (.getfield 297, 3) := by decide +kernel
theorem dX11_about_117 : decode cX11_about 117 = .ok (.ireturn, 1) := by decide +kernel
theorem dX11_about_118 : decode cX11_about 118 = .ok (.aload_n 3, 1) := by decide +kernel
theorem dX11_about_119 : decode cX11_about 119 = .ok (.getfield 300, 3) := by decide +kernel
theorem dX11_about_122 : decode cX11_about 122 = .ok (.ireturn, 1) := by decide +kernel
theorem dX11_about_123 : decode cX11_about 123 = .ok (.aload_n 3, 1) := by decide +kernel
theorem dX11_about_124 : decode cX11_about 124 = .ok (.invokevirtual 303, 3) := by decide +kernel
theorem dX11_about_127 : decode cX11_about 127 = .ok (.ireturn, 1) := by decide +kernel
theorem dX11_about_128 : decode cX11_about 128 = .ok (.aload_n 3, 1) := by decide +kernel
theorem dX11_about_129 : decode cX11_about 129 = .ok (.getfield 307, 3) := by decide +kernel
theorem dX11_about_132 : decode cX11_about 132 = .ok (.ireturn, 1) := by decide +kernel
theorem okX11_about : ab_okM MX11_about 2 := ⟨by decide, ⟨by decide, by decide⟩, ab_in 1778 (by decide +kernel) (by decide +kernel), ab_in 86 (by decide +kernel) (by decide +kernel), by decide +kernel, by decide⟩
def ap_names : List String := ["java/lang/RuntimeException", "java/lang/Exception"]
theorem ap_w1 : Cond.classLink RX11 285 ap_nse ∈ ab_G := ab_in 1779 (by decide +kernel) (by decide +kernel)
theorem ap_w2 : Cond.initialized ap_nse ∈ ab_G := ab_in 104 (by decide +kernel) (by decide +kernel)
set_option maxRecDepth 100000 in
theorem ap_at0 : (vx_at0 RX11 287 ap_nse ap_names).all (fun w => !goodWord w || decide (w ∈ lw_tbl)) = true := by decide +kernel
theorem ap_at : ∀ w ∈ (vx_at0 RX11 287 ap_nse ap_names).filter goodWord, w ∈ ab_G := by
  intro w hw
  obtain ⟨h1, h2⟩ := List.mem_filter.mp hw
  have h3 := List.all_eq_true.mp ap_at0 w h1
  rw [h2] at h3
  exact List.mem_filter.mpr ⟨of_decide_eq_true (by simpa using h3), h2⟩
theorem ap_ng : ∀ w ∈ (vx_at0 RX11 287 ap_nse ap_names).filter (fun w => !goodWord w), w ∈ [Cond.castable ap_nse ap_nse, Cond.declares (Bundle.init0 "java/lang/RuntimeException"), Cond.declares (Bundle.init0 "java/lang/Exception"), Cond.declares (Bundle.init0 "java/lang/Throwable")] := by decide +kernel
theorem ap_good : ∀ w ∈ Cond.classLink RX11 285 ap_nse :: Cond.initialized ap_nse :: vx_at0 RX11 287 ap_nse ap_names, vx_ot w = true := by decide +kernel
theorem EP_throw {lv : List (Nat × Value)} {σ : ab_St} {d bc bs : Nat} {K : Option Value → ab_St → Prop} {T : ab_St → Prop} (hT : T σ) (hd : 6 ≤ d) : EP MX11_about 21 lv [] σ d bc bs K T := by
  intro p l e R s m args below meth c9 D tyc adK adV A H locs cells slots ad ls G hC hP hD hS hl hsa h1 h2 h3 h4 hG hZ
  rcases hZ with hZ | ⟨⟨z1, z2, z3, z4⟩, ht, z5, z6⟩
  · exact absurd hT (hZ σ)
  refine vx_throw0 (cc := cX11_about) (own := RX11) (cls := ap_nse) (names := ap_names) (ik := 285) (ic := 287) (A := A) hC.1 hC.2.1 z1 hC.2.2.2.2.1 (by decide) (by decide) (hC.2.2.2.2.2.1 _ ap_w1) (hC.2.2.2.2.2.1 _ ap_w2) (vx_hat (B := [Cond.castable ap_nse ap_nse, Cond.declares (Bundle.init0 "java/lang/RuntimeException"), Cond.declares (Bundle.init0 "java/lang/Exception"), Cond.declares (Bundle.init0 "java/lang/Throwable")]) (fun w hw => hC.2.2.2.2.2.1 w (ap_at w hw)) ap_ng (vx_c (va_Nw.use rfl z4.1) (vx_c (va_Nw.use rfl z4.2.1) (vx_c (va_Nw.use rfl z4.2.2.1) (vx_c (va_Nw.use rfl z4.2.2.2) vx_n))))) ap_good z2 z3 hS (hl.1.trans hC.2.2.2.1.symm) dX11_about_21 dX11_about_24 dX11_about_25 dX11_about_28 (fun x hx => (ht x hx).elim) ?_ ?_ (by omega) (by omega) hC.2.2.2.2.2.2.1 (fun t hal hz hq => ?_) hS.2.2 (by omega) (by omega)
  · show 2 + 3 < R.frames; omega
  · show 0 + (13 * (2 + 1) + 42) ≤ R.locals; omega
  · refine ⟨rfl, ⟨σ, ad, hT, hP.kept (fun k q hk => hq q.1 (vx_lt hP hk)), hD, hG σ ad (Nat.le_refl _) (fun _ _ => rfl) (fun _ => rfl) hsa⟩, Nat.le_trans hS.1 hz, fun q h8 h9 => ?_⟩
    rw [hq q (Nat.lt_of_lt_of_le h8 hS.1)]
    exact hS.2.1 q h8 h9
set_option maxHeartbeats 4000000 in
set_option maxRecDepth 100000 in
theorem eX11_about (v1 v2 : Int32) (x : ab_X) (K : Int32 → Prop) (TT : Prop) (d bc bs : Nat) (hdp : 6 ≤ d) (h : wX11_about v1 v2 x K TT) : EP MX11_about 0 [(0, .ref 0), (1, .int v1), (2, .int v2)] [] (aS x) d bc bs (liP x K) (fun σ => σ = aS x ∧ TT) := by
  unfold wX11_about at h
  refine EP_aload_n (pc2 := 1) rfl dX11_about_0 0 rfl ?_
  refine AP_getr ⟨gfRX11_30, rfl⟩ (pc2 := 4) rfl dX11_about_1 q0 rfl ?_
  refine EP_iload_n (pc2 := 5) rfl dX11_about_4 1 rfl ?_
  refine AP_invV (M' := MX0_has) [.int v1] (rest := []) mlRX11_256 okX0_has (pc2 := 8) rfl dX11_about_5 rfl rfl (Nat.le_of_ble_eq_true rfl) (Nat.le_of_ble_eq_true rfl) (d' := 1) (by omega) q66 ⟨by decide, rfl⟩ (EP_mono (fun _ _ hr => ?_) (eX0_has v1 x _ _ 0 0 (Nat.le_refl _) h))
  obtain ⟨r1, rfl, rfl, h⟩ := hr
  refine EP_if_eq (tgt := 21) (pc2 := 11) rfl dX11_about_8 (by decide) (fun q => ?_) (fun q => ?_)
  · exact EP_throw ⟨rfl, h.1 q⟩ hdp
  replace h := h.2 q
  refine EP_iload_n (pc2 := 12) rfl dX11_about_11 2 rfl ?_
  refine EP_iconst (pc2 := 13) (v := 0) rfl dX11_about_12 (by decide) ?_
  refine EP_bipush (pc2 := 15) (v := 8) rfl dX11_about_13 (by decide) ?_
  refine AP_invS (M' := MX11_within) [.int v2, .int 0, .int 8] (rest := []) mlRX11_74 okX11_within (pc2 := 18) rfl dX11_about_15 rfl rfl (Nat.le_of_ble_eq_true rfl) (Nat.le_of_ble_eq_true rfl) (d' := 0) (by omega) (EP_mono (fun _ _ hr => ?_) (eX11_within v2 0 8 x _ _ 0 0 (Nat.le_refl _) h))
  obtain ⟨r2, rfl, rfl, h⟩ := hr
  refine EP_if_ne (tgt := 29) (pc2 := 21) rfl dX11_about_18 (by decide) (fun q => ?_) (fun q => ?_)
  rotate_left
  · exact EP_throw ⟨rfl, h.2 q⟩ hdp
  replace h := h.1 q
  obtain ⟨hin, h⟩ := h
  have hv0 := isW_of hin
  refine EP_aload_n (pc2 := 30) rfl dX11_about_29 0 rfl ?_
  refine AP_getr ⟨gfRX11_30, rfl⟩ (pc2 := 33) rfl dX11_about_30 q0 rfl ?_
  refine AP_getr ⟨gfRX11_241, rfl⟩ (pc2 := 36) rfl dX11_about_33 q66 rfl ?_
  refine EP_iload_n (pc2 := 37) rfl dX11_about_36 1 rfl ?_
  refine AP_aald6 (pc2 := 38) rfl dX11_about_37 hin ?_
  generalize 82 + Int32.toNatClampNeg v1 = u at h hv0
  refine EP_astore_n (pc2 := 39) rfl dX11_about_38 (by decide) [0, 3] [(3, .ref u), (2, .int v2)] rfl ?_
  refine EP_iload_n (pc2 := 40) rfl dX11_about_39 1 rfl ?_
  by_cases qo : v2.toInt < 0 ∨ 7 < v2.toInt
  · replace h := h.1 qo
    refine EP_tabOut (tgt := 128) dX11_about_40 qo (by decide) ?_
    refine EP_aload_n (pc2 := 129) rfl dX11_about_128 0 rfl ?_
    refine AP_geti ⟨gfRX11_307, rfl⟩ (pc2 := 132) rfl dX11_about_129 (isW.o hv0) ?_
    exact AP_iret rfl dX11_about_132 ⟨_, rfl, rfl, h⟩
  · obtain ⟨kk, hkk, qk⟩ : ∃ kk : Nat, kk < 8 ∧ v2 = nI kk := by
      rcases pk_ix v2 (n := 8) (by decide) with q1 | q1 | ⟨j, hj, e⟩
      · exact absurd (Or.inl (by rw [Int32.lt_iff_toInt_lt] at q1; exact q1)) qo
      · exact absurd (Or.inr (by rw [Int32.le_iff_toInt_le, nI_toInt (by decide)] at q1; omega)) qo
      · exact ⟨j, hj, e⟩
    match kk, hkk, qk with
    | 0, _, qk =>
      replace h := h.2.1 qk
      refine EP_tabIn (off := 48) (tgt := 88) dX11_about_40 (by rw [qk]; decide) (by rw [qk]; decide) (by rw [qk]; decide) (by decide) ?_
      refine EP_aload_n (pc2 := 89) rfl dX11_about_88 0 rfl ?_
      refine AP_geti ⟨gfRX11_257, rfl⟩ (pc2 := 92) rfl dX11_about_89 (isW.o hv0) ?_
      exact AP_iret rfl dX11_about_92 ⟨_, rfl, rfl, h⟩
    | 1, _, qk =>
      replace h := h.2.2.1 qk
      refine EP_tabIn (off := 53) (tgt := 93) dX11_about_40 (by rw [qk]; decide) (by rw [qk]; decide) (by rw [qk]; decide) (by decide) ?_
      refine EP_aload_n (pc2 := 94) rfl dX11_about_93 0 rfl ?_
      refine AP_geti ⟨gfRX11_278, rfl⟩ (pc2 := 97) rfl dX11_about_94 (isW.o hv0) ?_
      exact AP_iret rfl dX11_about_97 ⟨_, rfl, rfl, h⟩
    | 2, _, qk =>
      replace h := h.2.2.2.1 qk
      refine EP_tabIn (off := 58) (tgt := 98) dX11_about_40 (by rw [qk]; decide) (by rw [qk]; decide) (by rw [qk]; decide) (by decide) ?_
      refine EP_aload_n (pc2 := 99) rfl dX11_about_98 0 rfl ?_
      refine AP_geti ⟨gfRX11_288, rfl⟩ (pc2 := 102) rfl dX11_about_99 (isW.o hv0) ?_
      exact AP_iret rfl dX11_about_102 ⟨_, rfl, rfl, h⟩
    | 3, _, qk =>
      replace h := h.2.2.2.2.1 qk
      refine EP_tabIn (off := 63) (tgt := 103) dX11_about_40 (by rw [qk]; decide) (by rw [qk]; decide) (by rw [qk]; decide) (by decide) ?_
      refine EP_aload_n (pc2 := 104) rfl dX11_about_103 0 rfl ?_
      refine AP_geti ⟨gfRX11_291, rfl⟩ (pc2 := 107) rfl dX11_about_104 (isW.o hv0) ?_
      exact AP_iret rfl dX11_about_107 ⟨_, rfl, rfl, h⟩
    | 4, _, qk =>
      replace h := h.2.2.2.2.2.1 qk
      refine EP_tabIn (off := 68) (tgt := 108) dX11_about_40 (by rw [qk]; decide) (by rw [qk]; decide) (by rw [qk]; decide) (by decide) ?_
      refine EP_aload_n (pc2 := 109) rfl dX11_about_108 0 rfl ?_
      refine AP_geti ⟨gfRX11_294, rfl⟩ (pc2 := 112) rfl dX11_about_109 (isW.o hv0) ?_
      exact AP_iret rfl dX11_about_112 ⟨_, rfl, rfl, h⟩
    | 5, _, qk =>
      replace h := h.2.2.2.2.2.2.1 qk
      refine EP_tabIn (off := 73) (tgt := 113) dX11_about_40 (by rw [qk]; decide) (by rw [qk]; decide) (by rw [qk]; decide) (by decide) ?_
      refine EP_aload_n (pc2 := 114) rfl dX11_about_113 0 rfl ?_
      refine AP_geti ⟨gfRX11_297, rfl⟩ (pc2 := 117) rfl dX11_about_114 (isW.o hv0) ?_
      exact AP_iret rfl dX11_about_117 ⟨_, rfl, rfl, h⟩
    | 6, _, qk =>
      replace h := h.2.2.2.2.2.2.2.1 qk
      refine EP_tabIn (off := 78) (tgt := 118) dX11_about_40 (by rw [qk]; decide) (by rw [qk]; decide) (by rw [qk]; decide) (by decide) ?_
      refine EP_aload_n (pc2 := 119) rfl dX11_about_118 0 rfl ?_
      refine AP_geti ⟨gfRX11_300, rfl⟩ (pc2 := 122) rfl dX11_about_119 (isW.o hv0) ?_
      exact AP_iret rfl dX11_about_122 ⟨_, rfl, rfl, h⟩
    | 7, _, qk =>
      replace h := h.2.2.2.2.2.2.2.2 qk
      refine EP_tabIn (off := 83) (tgt := 123) dX11_about_40 (by rw [qk]; decide) (by rw [qk]; decide) (by rw [qk]; decide) (by decide) ?_
      refine EP_aload_n (pc2 := 124) rfl dX11_about_123 0 rfl ?_
      refine AP_invV (M' := MX2_slow) [] (rest := []) mlRX11_303 okX2_slow (pc2 := 127) rfl dX11_about_124 rfl rfl (Nat.le_of_ble_eq_true rfl) (Nat.le_of_ble_eq_true rfl) (d' := 0) (by omega) (isW.o hv0) ⟨by decide, rfl⟩ (EP_mono (fun _ _ hr => ?_) (eX2_slow u hv0 x _ _ 0 0 (Nat.le_refl _) h))
      obtain ⟨r3, rfl, rfl, h⟩ := hr
      exact AP_iret rfl dX11_about_127 ⟨_, rfl, rfl, h⟩
    | n9 + 8, hkk, _ => exact absurd hkk (by omega)
section AB3
variable {M : ab_M} {σ : ab_St} {d : Nat} {K : Option Value → ab_St → Prop} {T : ab_St → Prop}
def ap_I (D : va_G) (tyc : Nat → ClassId) (adK adV ad : Nat → Nat) (σ : ab_St) (sz : Nat) (U : State) : Prop := ab_I D tyc adK adV ad σ sz U ∧ vx_Zq Bundle.tN "UNASSIGNED_STACK" Bundle.steD (va_A (ab_w tyc ad σ) sz) U U.heap ∧ vx_Zq Bundle.tN "SUPPRESSED_SENTINEL" Bundle.listD (va_A (ab_w tyc ad σ) sz) U U.heap ∧ ap_N U
theorem ap_I_blind {D : va_G} {tyc : Nat → ClassId} {adK adV ad : Nat → Nat} {sz : Nat} {As : List Value} : FrameBlind (va_Pc As (ap_I D tyc adK adV ad σ sz)) := by
  intro a U g mk q
  obtain ⟨q0, q1, q2, q3, q4⟩ := q
  exact ⟨q0, (ab_I_blind a U g mk (show va_Pc As (ab_I D tyc adK adV ad σ sz) a U from ⟨q0, q1⟩)).2, vx_Zq.moved (u := U) (U := U.calling g mk a) (Vm.Alike.refl U.vm) q2, vx_Zq.moved (u := U) (U := U.calling g mk a) (Vm.Alike.refl U.vm) q3, ap_N.same rfl q4⟩
theorem ap_metX {l : Launch} (hl0 : l.stackTraces = false) {D : va_G} {tyc : Nat → ClassId} {adK adV ad : Nat → Nat} {sz n : Nat} {As : List Value} (hsa : ab_sa adK adV ad) (hM : ab_okM M n) (hlen : (lg_sl As).length ≤ M.2.2.1) (h : EP M 0 (lv_args 0 As) [] σ d 0 0 K T) :
    vx_Met l M.1 (ab_ws M) (ab_rm d 1 6) (va_Pc (As.map (ab_cv ad)) (ap_I D tyc adK adV ad σ sz)) (ab_Q D tyc (va_A (ab_w tyc ad σ) sz) (ab_Gc adK adV σ ad 0) K) (ap_X D tyc (va_A (ab_w tyc ad σ) sz) (ab_Gc adK adV σ ad 0) T) 1 6 (va_A (ab_w tyc ad σ) sz) := by
  refine vx_ofW (cc := M.2.1) (maxL := M.2.2.1) (ret := M.2.2.2) hM.1 rfl ?_
  intro p e s m args below meth c s₁ B hml hnt hv
  obtain ⟨rfl, ⟨hST, hsz, hP, hK, hD0, hN⟩, hU, hV, hca⟩ := hv
  subst hsz
  have hD := hD0.self (sz := s.heap.size)
  have hl := lv_entry (As.map (ab_cv ad)) (n := M.2.2.1) (by rw [ab_sl_len]; exact hlen)
  rw [lg_entry_eq]
  rw [ab_args_map] at hl
  exact h p l e (headSpec (ab_ws M) (ab_rm d 1 6)).room s m _ below meth c D tyc adK adV (va_A (ab_w tyc ad σ) s.heap.size) s.heap [] 0 0 ad _ (ab_Gc adK adV σ ad 0)
    ⟨B.exec, B.bytes, B.returns, hml, findClass_of_methodNamed B.named, fun w hw => atoms_spec (ws := ab_ws M) B.pre w (List.mem_cons_of_mem _ hw), B.notSynchronized, hK, hN, fun q hq => Or.inr hq, (name_of_methodNamed B.named B.method).1, hST⟩
    hP hD va_S.rf hl hsa (Nat.le_refl _) (Nat.le_refl _) (by show 0 + 0 ≤ 1; omega) (by show 0 + 0 ≤ 6; omega) (fun σ' ad' q1 q2 q3 q4 => ⟨q4, q1, q2, q3⟩) (Or.inr ⟨⟨hl0, hU, hV, hca⟩, hnt, by show 0 + 0 + 1 ≤ 1; omega, by show 0 + 0 + 6 ≤ 6; omega⟩)
theorem apx_back {p : Program} {l : Launch} {e : Env} {R : Room} {s : State} {m : MethodId} {args : Array Value} {below : List Frame} {meth : Method} {c : Code} {H : Heap} {locs : List Loc} {cells slots : Nat} {Q : State → Prop} {pc : Nat} {ls : Array Slot} {rest st0 : List Value} {a : Array Value} {A0 A1 : Nat → Prop} {H0 : Heap} {mc ms : Nat} {free : Addr → Prop} {D : va_G} {tyc : Nat → ClassId} {G : ab_St → (Nat → Nat) → Prop}
    (hr : vx_Run p l e R s m args below meth c H locs cells slots mc ms (F0 m pc ls st0) rest (ab_Q D tyc A1 G K a) (ap_X D tyc A1 G T) free) (hS : va_S A0 H0 H locs) (hA : ∀ q, q < H.size → A1 q → A0 q) (hf : ∀ q, free q → A0 q)
    (kx : ∀ (ce : Cell) (q9 : Addr) (σ' : ab_St) (ad' : Nat → Nat) (H1 : Heap) (locs1 : List Loc), T σ' → va_P D ab_cl (ab_w tyc ad' σ') H1 → va_D A1 (ab_w tyc ad' σ') → G σ' ad' → va_S A0 H0 H1 locs1 → H1[q9]? = some ce → ce.vm = .none → s.vm.findClass ap_nse = some ce.cls → vx_W p l e R s m args below meth c H1 locs1 (cells + mc) (slots + ms) Q (F0 m pc ls rest) q9)
    (kk : ∀ (r : Option Value) (σ' : ab_St) (ad' : Nat → Nat) (H1 : Heap) (locs1 : List Loc), K r σ' → va_P D ab_cl (ab_w tyc ad' σ') H1 → va_D A1 (ab_w tyc ad' σ') → G σ' ad' → va_S A0 H0 H1 locs1 → W p l e R s m args below meth c H1 locs1 (cells + mc) (slots + ms) Q (F0 m (pc + 3) ls ((r.map (ab_cv ad')).toList ++ rest))) : W p l e R s m args below meth c H locs cells slots Q (F0 m pc ls st0) := by
  intro U hU X
  rcases hr U hU X with ⟨v, st₀, t, T', L, h0, X', hL, e1, e2, ⟨⟨r, σ', ad', hv, hk, hP1, hD1, hG1⟩, hF⟩, st⟩ | ⟨q, st₀, t, T', L, E, ce, h0, X', hL, e1, e2, ⟨hE, ⟨σ', ad', hT', hP1, hD1, hG1⟩, hF⟩, hce, hcv, hcl, st⟩
  · cases hv
    obtain ⟨k1, k2, k3⟩ := vx_keep h0 e1 hS hA hf hL hF
    obtain ⟨t2, a1, b1⟩ := kk r σ' ad' T'.heap (locs ++ L) hk (by rw [e1]; exact hP1) hD1 hG1 k3 T' rfl X'
    exact ⟨t2, st t2 a1, b1⟩
  · subst hE
    obtain ⟨k1, k2, k3⟩ := vx_keep h0 e1 hS hA hf hL hF
    obtain ⟨t2, a1, b1⟩ := kx ce q σ' ad' T'.heap (locs ++ L) hT' (by rw [e1]; exact hP1) hD1 hG1 k3 (by rw [e1]; exact hce) hcv hcl T' rfl X'
    exact ⟨t2, st.trans a1, b1⟩
end AB3
theorem dL_about_0 : decode cL_about 0 = .ok (.aload_n 3, 1) := by decide +kernel
theorem dL_about_1 : decode cL_about 1 = .ok (.iconst 0, 1) := by decide +kernel
theorem dL_about_2 : decode cL_about 2 = .ok (.aload_n 0, 1) := by decide +kernel
theorem dL_about_3 : decode cL_about 3 = .ok (.iload_n 1, 1) := by decide +kernel
theorem dL_about_4 : decode cL_about 4 = .ok (.iload_n 2, 1) := by decide +kernel
theorem dL_about_5 : decode cL_about 5 = .ok (.invokevirtual 7, 3) := by decide +kernel
theorem dL_about_8 : decode cL_about 8 = .ok (.i2l, 1) := by decide +kernel
theorem dL_about_9 : decode cL_about 9 = .ok (.lastore, 1) := by decide +kernel
theorem dL_about_10 : decode cL_about 10 = .ok (.goto 7, 3) := by decide +kernel
theorem dL_about_13 : decode cL_about 13 = .ok (.astore 4, 2) := by decide +kernel
theorem dL_about_15 : decode cL_about 15 = .ok (.iconst 1, 1) := by decide +kernel
theorem dL_about_16 : decode cL_about 16 = .ok (.ireturn, 1) := by decide +kernel
theorem dL_about_17 : decode cL_about 17 = .ok (.iconst 0, 1) := by decide +kernel
theorem dL_about_18 : decode cL_about 18 = .ok (.ireturn, 1) := by decide +kernel
theorem mlRL_7 : Cond.methodLink RL 7 yX11_about ∈ ab_G ∧ Cond.instanceMethod yX11_about ∈ ab_G ∧ Cond.selects RX11 yX11_about yX11_about ∈ ab_G := ⟨ab_in 1775 (by decide +kernel) (by decide +kernel), ab_in 1776 (by decide +kernel) (by decide +kernel), ab_in 1777 (by decide +kernel) (by decide +kernel)⟩
def la_hh : List (Nat × Nat × Nat × Nat) := [(0, 10, 13, 13)]
def la_ws : List Cond := .codeWith yL_about cL_about 5 (some .int) la_hh :: ab_G
theorem la_w1 : Cond.codeWith yL_about cL_about 5 (some .int) la_hh ∈ ab_G := ab_in 1773 (by decide +kernel) (by decide +kernel)
theorem la_w2 : Cond.methodLink RL 106 yL_about ∈ ab_G := ab_in 1771 (by decide +kernel) (by decide +kernel)
theorem la_w3 : Cond.static yL_about ∈ ab_G := ab_in 1772 (by decide +kernel) (by decide +kernel)
theorem la_w4 : Cond.initialized RL ∈ ab_G := ab_in 85 (by decide +kernel) (by decide +kernel)
theorem la_w5 : Cond.classLink RL 13 ap_nse ∈ ab_G := ab_in 1774 (by decide +kernel) (by decide +kernel)
def la_K (K : Int32 → ab_X → Prop) : Option Value → ab_St → Prop := fun r σ => ∃ (v : Int32) (y : ab_X), r = some (.int v) ∧ σ = aS y ∧ K v y
set_option maxHeartbeats 4000000 in
theorem la_met {l : Launch} (hl0 : l.stackTraces = false) {D : va_G} {tyc : Nat → ClassId} {adK adV ad : Nat → Nat} {sz : Nat} (hsa : ab_sa adK adV ad) {a b : Int32} {x : ab_X} {K : Int32 → ab_X → Prop} (h : wL_about a b x K) :
    Met l yL_about la_ws (ab_rm 8 1 60) (va_Pc [.ref (ad 0), .int a, .int b, .ref (ad 337)] (ap_I D tyc adK adV ad (aS x) sz)) (ab_Q D tyc (va_A (ab_w tyc ad (aS x)) sz) (ab_Gc adK adV (aS x) ad 0) (la_K K)) 1 60 (va_A (ab_w tyc ad (aS x)) sz) := by
  have key : vx_Met l yL_about la_ws (ab_rm 8 1 60) (va_Pc [.ref (ad 0), .int a, .int b, .ref (ad 337)] (ap_I D tyc adK adV ad (aS x) sz)) (ab_Q D tyc (va_A (ab_w tyc ad (aS x)) sz) (ab_Gc adK adV (aS x) ad 0) (la_K K)) (fun _ _ _ => False) 1 60 (va_A (ab_w tyc ad (aS x)) sz) := by
    refine vx_ofWH (cc := cL_about) (maxL := 5) (ret := some .int) (hh := la_hh) (by decide) rfl ?_
    intro p e s m args below meth c s₁ B hml hv
    obtain ⟨rfl, ⟨hST, hsz, hP, hK, hD0, hN⟩, hU, hV, hca⟩ := hv
    subst hsz
    have hD := hD0.self (sz := s.heap.size)
    have hl := lv_entry [.ref (ad 0), .int a, .int b, .ref (ad 337)] (n := 5) (by show 4 ≤ 5; decide)
    have htab : c.exceptionTable.toList = tableOf la_hh := vx_table (x := yL_about) B (atoms_spec (ws := la_ws) B.pre _ List.mem_cons_self)
    have hts : ∀ w ∈ ab_G, w.before ([.ref (ad 0), .int a, .int b, .ref (ad 337)] : List Value).toArray s = true := fun w hw => atoms_spec (ws := la_ws) B.pre w (List.mem_cons_of_mem _ hw)
    have hown : s.vm.findClass RL = some m.cls := findClass_of_methodNamed B.named
    rw [lg_entry_eq]
    generalize (lg_sl [.ref (ad 0), .int a, .int b, .ref (ad 337)] ++ List.replicate (5 - (lg_sl [.ref (ad 0), .int a, .int b, .ref (ad 337)]).length) Slot.unset).toArray = ls at hl
    have hl : lv_has ls 5 [(0, .ref (ad 0)), (1, .int a), (2, .int b), (3, .ref (ad 337))] := hl
    refine lv_aload_n B.exec B.bytes dL_about_0 rfl (lv_at hl 3 rfl) ?_
    refine lv_iconst B.exec B.bytes dL_about_1 (v := 0) (by decide) ?_
    refine lv_aload_n B.exec B.bytes dL_about_2 rfl (lv_at hl 0 rfl) ?_
    refine lv_iload_n B.exec B.bytes dL_about_3 rfl (lv_at hl 1 rfl) ?_
    refine lv_iload_n B.exec B.bytes dL_about_4 rfl (lv_at hl 2 rfl) ?_
    have hmet := ap_metX (l := l) hl0 (D := D) (tyc := tyc) (adK := adK) (adV := adV) (ad := ad) (sz := s.heap.size) (As := [.ref 0, .int a, .int b]) hsa okX11_about (by show 3 ≤ 4; decide) (eX11_about a b x _ _ 6 0 0 (Nat.le_refl _) h)
    have hFr : ∀ q, va_A (ab_w tyc ad (aS x)) s.heap.size q → va_A (ab_w tyc ad (aS x)) s.heap.size q := fun q hq => hq
    refine apx_back (A0 := va_A (ab_w tyc ad (aS x)) s.heap.size) (H0 := s.heap) (vx_runV (C := RX11) (b := ad 0) (s := s) (As := [.int a, .int b]) (rest := [.int 0, .ref (ad 337)]) (Ts := ab_G) (own := RL) ⟨B.exec, B.bytes, hml, hown, hts⟩ hmet ⟨callB_of 2 hts (ab_Gin MX11_about okX11_about.2.2.1) rfl rfl rfl (hts _ okX11_about.2.2.2.1) (hts _ mlRL_7.1) ⟨okX11_about.2.1.1, okX11_about.2.1.2, okX11_about.2.2.2.2.1⟩ ⟨by show 6 + 1 ≤ 8; decide, by show 8 + (4 + 11) + 45 * 6 ≤ 45 * 8; decide⟩, hts _ mlRL_7.2.1, hts _ mlRL_7.2.2⟩ ⟨ap_I_blind, va_recv (s := s) hK hP (ab_cl_at (ci := 11) (by decide)) (by rw [ab_w_at (σ := aS x) (c := 0) q0.1, ab_e_o (σ := aS x) (c := 0) q0.2]), fun W hW hWm => ⟨rfl, ⟨ab_ST.pass (s := s) hWm (by rw [hW]; exact va_S.rf) hFr hST, by rw [hW], by rw [hW]; exact hP, va_K.moved hWm.alike hK, hD0, ab_NW.moved hWm hN⟩, by rw [hW]; exact vx_Zq.moved hWm.alike hU, by rw [hW]; exact vx_Zq.moved hWm.alike hV, ap_N.warm hWm hca⟩⟩ rfl rfl hl.1 rfl (lv_room (by show 1 + (1 + 0) ≤ 8; decide)) dL_about_5 ⟨by show 0 + 1 ≤ 1; decide, by show 0 + 6 ≤ 60; decide⟩) va_S.rf (fun q _ hq => hq) hFr (fun ce q9 σ' ad' H1 locs1 hT' hP1 hD1 hG1 hS1 hce hcv hcl => ?_) (fun r σ' ad' H1 locs1 hk hP1 hD1 hG1 hS1 => ?_)
    · obtain ⟨rfl, hT'⟩ := hT'
      refine vx_catch (own := RL) (name := ap_nse) (E := ap_nse) hown ⟨0, 10, 13, 13⟩ [] htab (by decide) (by decide) (hts _ la_w5) (va_Nw.use rfl hca.1) hce hcv hcl ?_
      refine lv_astore B.exec B.bytes dL_about_13 hl (by decide) rfl (fun ls' hl' => ?_)
      refine lv_iconst B.exec B.bytes dL_about_15 (v := 1) (by decide) ?_
      refine vx_ret ?_
      refine W.widen (k := 1) (n := 60) (by decide) (by decide) ?_
      exact W.zret B.exec B.bytes B.returns rfl (fun t ht hW => ⟨⟨some (.int 1), aS x, ad', rfl, ⟨1, x, rfl, rfl, hT'⟩, by rw [ht]; exact hP1, hD1, hG1⟩, hS1.F ht⟩) hS1.2.2 dL_about_16 B.notSynchronized
    · obtain ⟨v, rfl, rfl, hk⟩ := hk
      have e9 : ad' = ad := hG1.2.2.2 rfl
      subst e9
      refine lv_i2l B.exec B.bytes dL_about_8 (v := v.toInt64) rfl ?_
      refine va_last (s := s) B.exec B.bytes hK hP1 hD1 hS1 337 3 (by rw [ab_w_at (σ := aS x) (c := 337) q337.1, ab_e_a (σ := aS x) (c := 337) q337.2]; rfl) (ab_tys_at (by decide)) (show vp_in 0 1 from vp_in_nI (n := 0) (N := 1) (by decide) (by decide)) dL_about_9 (fun H2 locs2 hP2 hD2 hS2 => ?_)
      rw [ab_ul_a (σ := aS x) (c := 337) q337.2] at hP2 hD2
      refine lv_goto B.exec B.bytes dL_about_10 (tgt := 17) (by decide) ?_
      refine lv_iconst B.exec B.bytes dL_about_17 (v := 0) (by decide) ?_
      refine vx_ret ?_
      refine W.widen (k := 1) (n := 60) (by decide) (by decide) ?_
      exact W.zret B.exec B.bytes B.returns rfl (fun t ht hW => ⟨⟨some (.int 0), aS (wrl x 337 0 v.toInt64), ad', rfl, ⟨0, _, rfl, rfl, hk⟩, by rw [ht]; exact hP2, hD2, ⟨hG1.1, Nat.le_refl _, fun _ _ => rfl, fun _ => rfl⟩⟩, hS2.F ht⟩) hS2.2.2 dL_about_18 B.notSynchronized
  intro p e ha hc hk s m args below hf happ hP hT
  obtain ⟨n, o, h1, h2, h3, h4⟩ := key p e ha hc hk s m args below hf happ hP hT
  refine ⟨n, o, h1, h2, h3, ?_⟩
  rcases h4 with h4 | ⟨q, -, E, ce, L, h4, -⟩
  · exact h4
  · exact h4.elim
theorem la_Gin : GoodIn ab_G (va_wsS RL 106 yL_about la_ws) := by
  intro w hw
  have h2 : w ∈ ab_G := by
    rcases List.mem_append.mp hw with h | h
    · rcases List.mem_cons.mp h with rfl | h
      · exact la_w2
      rcases List.mem_cons.mp h with rfl | h
      · exact la_w3
      rcases List.mem_cons.mp h with rfl | h
      · exact la_w4
      exact absurd h List.not_mem_nil
    · rcases List.mem_cons.mp h with rfl | h
      · exact la_w1
      · exact h
  exact ⟨h2, good_of_word (List.mem_filter.mp h2).2⟩
set_option maxHeartbeats 4000000 in
theorem el_about : el_aboutRule := by
  intro L xs pc pc2 lv a b x bu K hp hd hw hk
  subst hp
  intro p l e s m below meth c9 D tyc adK adV H locs cells slots ad d0 ls b0 hC hP hD hS hl hsa hX hbl hd0 h3 h4
  obtain ⟨hX1, hl0, hU, hV, hts⟩ := id hX
  have hmet := la_met (l := l) hl0 (D := D) (tyc := tyc) (adK := adK) (adV := adV) (ad := ad) (sz := H.size) hsa hw
  have hFr : ∀ q, va_A (ab_w tyc ad (aS x)) H.size q → (fun q : Nat => s.heap.size ≤ q) q := fun q hq => by
    rcases hq with ⟨k, y, hk⟩ | hq
    · exact hD.2 k (q, y) hk
    · exact Nat.le_trans hS.1 hq
  have hca : ap_N s := ⟨va_Nw.of rfl (hts _ (List.mem_of_getElem? (i := 1781) (by decide +kernel))), va_Nw.of rfl (hts _ (List.mem_of_getElem? (i := 1782) (by decide +kernel))), va_Nw.of rfl (hts _ (List.mem_of_getElem? (i := 1784) (by decide +kernel))), va_Nw.of rfl (hts _ (List.mem_of_getElem? (i := 1786) (by decide +kernel)))⟩
  refine ap_back (s := s.setDrawn d0) (vx_runSW (s := s.setDrawn d0) (R := room_1) (hh := la_hh) (bytes := cL_about) (maxL := 5) (ret := some .int) (As := [.ref (ad 0), .int a, .int b, .ref (ad 337)]) (rest := []) (Ts := ab_G) (own := RL) ⟨hC.1, hC.2.1, hC.2.2.2.1, hC.2.2.2.2.1, dr_words hC.2.2.2.2.2.1 d0⟩ hmet (vx_cwSW 4 (dr_words hC.2.2.2.2.2.1 d0) la_Gin rfl rfl rfl ⟨by decide, by decide, by decide +kernel⟩ ⟨by show 8 + 1 ≤ 2048; decide, by show 8 + (5 + 11) + 45 * 8 ≤ 84000; decide⟩) ⟨ap_I_blind, fun U hU1 hW => ⟨rfl, ⟨ab_ST.pass (s := s.setDrawn d0) (A := (fun q : Nat => s.heap.size ≤ q)) hW (by rw [hU1]; exact hS) hFr (hC.2.2.2.2.2.2.2.2.2.2.2.same rfl rfl), by rw [hU1], by rw [hU1]; exact hP, va_K.moved hW.alike hC.2.2.2.2.2.2.2.1, hD.weaken (fun _ _ _ _ => trivial), ab_NW.moved hW (ab_NW.drawn (d := d0) hC.2.2.2.2.2.2.2.2.1)⟩, by rw [hU1]; exact vx_Zq.moved hW.alike ((vx_Zq.narrow (hU.kept hS.2.1) hFr)), by rw [hU1]; exact vx_Zq.moved hW.alike ((vx_Zq.narrow (hV.kept hS.2.1) hFr)), ap_N.warm (s := s.setDrawn d0) hW (ap_N.same rfl hca)⟩⟩ rfl rfl hl.1 rfl (lv_room (by decide)) hd ⟨by show cells + 1 ≤ 601024; omega, by show slots + 60 ≤ 7293034; omega⟩) hS (fun q _ hq => hFr q hq) hFr (fun r σ' ad' H1 locs1 hk1 hP1 hD1 hG1 hS1 => ?_)
  obtain ⟨v, y, rfl, rfl, hKv⟩ := hk1
  have e9 : ad' = ad := hG1.2.2.2 rfl
  subst e9
  exact hk v y hKv p l e s m below meth c9 D tyc adK adV H1 locs1 (cells + 1) (slots + 60) ad' d0 ls b0 hC hP1 (hD1.weaken (fun _ q _ hq => hFr q.1 hq)) hS1 hl hsa hX hbl hd0 (by omega) (by omega)
