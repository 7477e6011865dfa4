abbrev MX12_called : ab_M := (yX12_called, cX12_called, 3, (some .int))
theorem dX12_called_0 : decode cX12_called 0 = .ok (.aload_n 0, 1) := by decide +kernel
theorem dX12_called_1 : decode cX12_called 1 = .ok (.iconst 0, 1) := by decide +kernel
theorem dX12_called_2 : decode cX12_called 2 = .ok (.putfield 297, 3) := by decide +kernel
theorem dX12_called_5 : decode cX12_called 5 = .ok (.iload_n 1, 1) := by decide +kernel
theorem dX12_called_6 : decode cX12_called 6 = .ok (.ifCond .lt 11, 3) := by decide +kernel
theorem dX12_called_9 : decode cX12_called 9 = .ok (.iload_n 1, 1) := by decide +kernel
theorem dX12_called_10 : decode cX12_called 10 = .ok (.aload_n 0, 1) := by decide +kernel
theorem dX12_called_11 : decode cX12_called 11 = .ok (.getfield 525, 3) := by decide +kernel
theorem dX12_called_14 : decode cX12_called 14 = .ok (.if_icmp .lt 5, 3) := by decide +kernel
theorem dX12_called_17 : decode cX12_called 17 = .ok (.iconst (-1), 1) := by decide +kernel
theorem dX12_called_18 : decode cX12_called 18 = .ok (.ireturn, 1) := by decide +kernel
theorem dX12_called_19 : decode cX12_called 19 = .ok (.iload_n 2, 1) := by decide +kernel
theorem dX12_called_20 : decode cX12_called 20 = .ok (.tableswitch 104 0 7 #[48, 55, 62, 69, 76, 83, 90, 97], 48) := by decide +kernel
theorem dX12_called_68 : decode cX12_called 68 = .ok (.aload_n 0, 1) := by decide +kernel
theorem dX12_called_69 : decode cX12_called 69 = .ok (.getfield 214, 3) := by decide +kernel
theorem dX12_called_72 : decode cX12_called 72 = .ok (.iload_n 1, 1) := by decide +kernel
theorem dX12_called_73 : decode cX12_called 73 = .ok (.iaload, 1) := by decide +kernel
theorem dX12_called_74 : decode cX12_called 74 = .ok (.ireturn, 1) := by decide +kernel
theorem dX12_called_75 : decode cX12_called 75 = .ok (.aload_n 0, 1) := by decide +kernel
theorem dX12_called_76 : decode cX12_called 76 = .ok (.getfield 217, 3) := by decide +kernel
theorem dX12_called_79 : decode cX12_called 79 = .ok (.iload_n 1, 1) := by decide +kernel
theorem dX12_called_80 : decode cX12_called 80 = .ok (.iaload, 1) := by decide +kernel
theorem dX12_called_81 : decode cX12_called 81 = .ok (.ireturn, 1) := by decide +kernel
theorem dX12_called_82 : decode cX12_called 82 = .ok (.aload_n 0, 1) := by decide +kernel
theorem dX12_called_83 : decode cX12_called 83 = .ok (.getfield 220, 3) := by decide +kernel
theorem dX12_called_86 : decode cX12_called 86 = .ok (.iload_n 1, 1) := by decide +kernel
theorem dX12_called_87 : decode cX12_called 87 = .ok (.iaload, 1) := by decide +kernel
theorem dX12_called_88 : decode cX12_called 88 = .ok (.ireturn, 1) := by decide +kernel
theorem dX12_called_89 : decode cX12_called 89 = .ok (.aload_n 0, 1) := by decide +kernel
theorem dX12_called_90 : decode cX12_called 90 = .ok (.getfield 223, 3) := by decide +kernel
theorem dX12_called_93 : decode cX12_called 93 = .ok (.iload_n 1, 1) := by decide +kernel
theorem dX12_called_94 : decode cX12_called 94 = .ok (.iaload, 1) := by decide +kernel
theorem dX12_called_95 : decode cX12_called 95 = .ok (.ireturn, 1) := by decide +kernel
theorem dX12_called_96 : decode cX12_called 96 = .ok (.aload_n 0, 1) := by decide +kernel
theorem dX12_called_97 : decode cX12_called 97 = .ok (.getfield 226, 3) := by decide +kernel
theorem dX12_called_100 : decode cX12_called 100 = .ok (.iload_n 1, 1) := by decide +kernel
theorem dX12_called_101 : decode cX12_called 101 = .ok (.iaload, 1) := by decide +kernel
theorem dX12_called_102 : decode cX12_called 102 = .ok (.ireturn, 1) := by decide +kernel
theorem dX12_called_103 : decode cX12_called 103 = .ok (.aload_n 0, 1) := by decide +kernel
theorem dX12_called_104 : decode cX12_called 104 = .ok (.getfield 229, 3) := by decide +kernel
theorem dX12_called_107 : decode cX12_called 107 = .ok (.iload_n 1, 1) := by decide +kernel
theorem dX12_called_108 : decode cX12_called 108 = .ok (.iaload, 1) := by decide +kernel
theorem dX12_called_109 : decode cX12_called 109 = .ok (.ireturn, 1) := by decide +kernel
theorem dX12_called_110 : decode cX12_called 110 = .ok (.aload_n 0, 1) := by decide +kernel
theorem dX12_called_111 : decode cX12_called 111 = .ok (.getfield 232, 3) := by decide +kernel
theorem dX12_called_114 : decode cX12_called 114 = .ok (.iload_n 1, 1) := by decide +kernel
theorem dX12_called_115 : decode cX12_called 115 = .ok (.iaload, 1) := by decide +kernel
theorem dX12_called_116 : decode cX12_called 116 = .ok (.ireturn, 1) := by decide +kernel
theorem dX12_called_117 : decode cX12_called 117 = .ok (.aload_n 0, 1) := by decide +kernel
theorem dX12_called_118 : decode cX12_called 118 = .ok (.getfield 235, 3) := by decide +kernel
theorem dX12_called_121 : decode cX12_called 121 = .ok (.iload_n 1, 1) := by decide +kernel
theorem dX12_called_122 : decode cX12_called 122 = .ok (.iaload, 1) := by decide +kernel
theorem dX12_called_123 : decode cX12_called 123 = .ok (.ireturn, 1) := by decide +kernel
theorem dX12_called_124 : decode cX12_called 124 = .ok (.iconst (-1), 1) := by decide +kernel
theorem dX12_called_125 : decode cX12_called 125 = .ok (.ireturn, 1) := by decide +kernel
theorem okX12_called : ab_okM MX12_called 2 := ⟨by decide, ⟨by decide, by decide⟩, ab_in 2538 (by decide +kernel) (by decide +kernel), ab_in 99 (by decide +kernel) (by decide +kernel), by decide +kernel, by decide⟩
set_option maxHeartbeats 4000000 in
set_option maxRecDepth 100000 in
def wX12_called (v1 : Int32) (v2 : Int32) (x : ab_X) (K : Int32 → ab_X → Prop) : Prop := ((v1 < 0 → K (-1) (wr x 246 0 0)) ∧ (¬ v1 < 0 → ((v1 < ((wr x 246 0 0).1 246 92) → (((v2.toInt < 0 ∨ 7 < v2.toInt) → K (-1) (wr x 246 0 0)) ∧ (v2 = 0 → (vp_in v1 60 ∧ K ((wr x 246 0 0).1 310 (Int32.toNatClampNeg v1)) (wr x 246 0 0))) ∧ (v2 = 1 → (vp_in v1 60 ∧ K ((wr x 246 0 0).1 311 (Int32.toNatClampNeg v1)) (wr x 246 0 0))) ∧ (v2 = 2 → (vp_in v1 60 ∧ K ((wr x 246 0 0).1 312 (Int32.toNatClampNeg v1)) (wr x 246 0 0))) ∧ (v2 = 3 → (vp_in v1 60 ∧ K ((wr x 246 0 0).1 313 (Int32.toNatClampNeg v1)) (wr x 246 0 0))) ∧ (v2 = 4 → (vp_in v1 60 ∧ K ((wr x 246 0 0).1 314 (Int32.toNatClampNeg v1)) (wr x 246 0 0))) ∧ (v2 = 5 → (vp_in v1 60 ∧ K ((wr x 246 0 0).1 315 (Int32.toNatClampNeg v1)) (wr x 246 0 0))) ∧ (v2 = 6 → (vp_in v1 60 ∧ K ((wr x 246 0 0).1 316 (Int32.toNatClampNeg v1)) (wr x 246 0 0))) ∧ (v2 = 7 → (vp_in v1 60 ∧ K ((wr x 246 0 0).1 317 (Int32.toNatClampNeg v1)) (wr x 246 0 0))))) ∧ (¬ v1 < ((wr x 246 0 0).1 246 92) → K (-1) (wr x 246 0 0)))))
set_option maxHeartbeats 4000000 in
set_option maxRecDepth 100000 in
theorem sX12_called (v1 : Int32) (v2 : Int32)  (x : ab_X) (K : Int32 → ab_X → Prop) (d bc bs : Nat) (hdp : 0 ≤ d) (h : wX12_called v1 v2 x K) : EW MX12_called 0 [(0, .ref 246), (1, .int v1), (2, .int v2)] [] (aS x) d bc bs (liI K) := by
  unfold wX12_called at h
  refine EW_aload_n (pc2 := 1) rfl dX12_called_0 0 rfl ?_
  refine EW_iconst (pc2 := 2) (v := 0) rfl dX12_called_1 (by decide) ?_
  refine AW_puti ⟨gfRX12_297, rfl, rfl⟩ (pc2 := 5) rfl dX12_called_2 q246 ?_
  refine EW_iload_n (pc2 := 6) rfl dX12_called_5 1 rfl ?_
  refine EW_if_lt (tgt := 17) (pc2 := 9) rfl dX12_called_6 (by decide) (fun q => ?_) (fun q => ?_)
  · replace h := h.1 q
    refine EW_iconst (pc2 := 18) (v := (-1)) rfl dX12_called_17 (by decide) ?_
    exact AW_iret rfl dX12_called_18 ⟨_, _, rfl, rfl, h⟩
  · replace h := h.2 q
    refine EW_iload_n (pc2 := 10) rfl dX12_called_9 1 rfl ?_
    refine EW_aload_n (pc2 := 11) rfl dX12_called_10 0 rfl ?_
    refine AW_geti ⟨gfRX12_525, rfl⟩ (pc2 := 14) rfl dX12_called_11 q246 ?_
    refine EW_icmp_lt (tgt := 19) (pc2 := 17) rfl dX12_called_14 (by decide) (fun q => ?_) (fun q => ?_)
    · replace h := h.1 q
      refine EW_iload_n (pc2 := 20) rfl dX12_called_19 2 rfl ?_
      by_cases qo : Int32.toInt v2 < 0 ∨ 7 < Int32.toInt v2
      · replace h := h.1 qo
        refine EW_tabOut (tgt := 124) dX12_called_20 qo (by decide) ?_
        refine EW_iconst (pc2 := 125) (v := (-1)) rfl dX12_called_124 (by decide) ?_
        exact AW_iret rfl dX12_called_125 ⟨_, _, rfl, rfl, h⟩
      · obtain ⟨kk, hkk, qk⟩ := sw_in 0 7 (by decide) qo
        match kk, hkk, qk with
        | 0, _, qk =>
          replace h := h.2.1 qk
          refine EW_tabIn (off := 48) (tgt := 68) dX12_called_20 (by rw [qk]; decide) (by rw [qk]; decide) (by rw [qk]; decide) (by decide) ?_
          refine EW_aload_n (pc2 := 69) rfl dX12_called_68 0 rfl ?_
          refine AW_getr (r := 310) ⟨gfRX12_214, rfl⟩ (pc2 := 72) rfl dX12_called_69 q246 rfl ?_
          refine EW_iload_n (pc2 := 73) rfl dX12_called_72 1 rfl ?_
          obtain ⟨b1, h⟩ := h
          refine AW_iald (pc2 := 74) rfl dX12_called_73 q310 b1 ?_
          exact AW_iret rfl dX12_called_74 ⟨_, _, rfl, rfl, h⟩
        | 1, _, qk =>
          replace h := h.2.2.1 qk
          refine EW_tabIn (off := 55) (tgt := 75) dX12_called_20 (by rw [qk]; decide) (by rw [qk]; decide) (by rw [qk]; decide) (by decide) ?_
          refine EW_aload_n (pc2 := 76) rfl dX12_called_75 0 rfl ?_
          refine AW_getr (r := 311) ⟨gfRX12_217, rfl⟩ (pc2 := 79) rfl dX12_called_76 q246 rfl ?_
          refine EW_iload_n (pc2 := 80) rfl dX12_called_79 1 rfl ?_
          obtain ⟨b2, h⟩ := h
          refine AW_iald (pc2 := 81) rfl dX12_called_80 q311 b2 ?_
          exact AW_iret rfl dX12_called_81 ⟨_, _, rfl, rfl, h⟩
        | 2, _, qk =>
          replace h := h.2.2.2.1 qk
          refine EW_tabIn (off := 62) (tgt := 82) dX12_called_20 (by rw [qk]; decide) (by rw [qk]; decide) (by rw [qk]; decide) (by decide) ?_
          refine EW_aload_n (pc2 := 83) rfl dX12_called_82 0 rfl ?_
          refine AW_getr (r := 312) ⟨gfRX12_220, rfl⟩ (pc2 := 86) rfl dX12_called_83 q246 rfl ?_
          refine EW_iload_n (pc2 := 87) rfl dX12_called_86 1 rfl ?_
          obtain ⟨b3, h⟩ := h
          refine AW_iald (pc2 := 88) rfl dX12_called_87 q312 b3 ?_
          exact AW_iret rfl dX12_called_88 ⟨_, _, rfl, rfl, h⟩
        | 3, _, qk =>
          replace h := h.2.2.2.2.1 qk
          refine EW_tabIn (off := 69) (tgt := 89) dX12_called_20 (by rw [qk]; decide) (by rw [qk]; decide) (by rw [qk]; decide) (by decide) ?_
          refine EW_aload_n (pc2 := 90) rfl dX12_called_89 0 rfl ?_
          refine AW_getr (r := 313) ⟨gfRX12_223, rfl⟩ (pc2 := 93) rfl dX12_called_90 q246 rfl ?_
          refine EW_iload_n (pc2 := 94) rfl dX12_called_93 1 rfl ?_
          obtain ⟨b4, h⟩ := h
          refine AW_iald (pc2 := 95) rfl dX12_called_94 q313 b4 ?_
          exact AW_iret rfl dX12_called_95 ⟨_, _, rfl, rfl, h⟩
        | 4, _, qk =>
          replace h := h.2.2.2.2.2.1 qk
          refine EW_tabIn (off := 76) (tgt := 96) dX12_called_20 (by rw [qk]; decide) (by rw [qk]; decide) (by rw [qk]; decide) (by decide) ?_
          refine EW_aload_n (pc2 := 97) rfl dX12_called_96 0 rfl ?_
          refine AW_getr (r := 314) ⟨gfRX12_226, rfl⟩ (pc2 := 100) rfl dX12_called_97 q246 rfl ?_
          refine EW_iload_n (pc2 := 101) rfl dX12_called_100 1 rfl ?_
          obtain ⟨b5, h⟩ := h
          refine AW_iald (pc2 := 102) rfl dX12_called_101 q314 b5 ?_
          exact AW_iret rfl dX12_called_102 ⟨_, _, rfl, rfl, h⟩
        | 5, _, qk =>
          replace h := h.2.2.2.2.2.2.1 qk
          refine EW_tabIn (off := 83) (tgt := 103) dX12_called_20 (by rw [qk]; decide) (by rw [qk]; decide) (by rw [qk]; decide) (by decide) ?_
          refine EW_aload_n (pc2 := 104) rfl dX12_called_103 0 rfl ?_
          refine AW_getr (r := 315) ⟨gfRX12_229, rfl⟩ (pc2 := 107) rfl dX12_called_104 q246 rfl ?_
          refine EW_iload_n (pc2 := 108) rfl dX12_called_107 1 rfl ?_
          obtain ⟨b6, h⟩ := h
          refine AW_iald (pc2 := 109) rfl dX12_called_108 q315 b6 ?_
          exact AW_iret rfl dX12_called_109 ⟨_, _, rfl, rfl, h⟩
        | 6, _, qk =>
          replace h := h.2.2.2.2.2.2.2.1 qk
          refine EW_tabIn (off := 90) (tgt := 110) dX12_called_20 (by rw [qk]; decide) (by rw [qk]; decide) (by rw [qk]; decide) (by decide) ?_
          refine EW_aload_n (pc2 := 111) rfl dX12_called_110 0 rfl ?_
          refine AW_getr (r := 316) ⟨gfRX12_232, rfl⟩ (pc2 := 114) rfl dX12_called_111 q246 rfl ?_
          refine EW_iload_n (pc2 := 115) rfl dX12_called_114 1 rfl ?_
          obtain ⟨b7, h⟩ := h
          refine AW_iald (pc2 := 116) rfl dX12_called_115 q316 b7 ?_
          exact AW_iret rfl dX12_called_116 ⟨_, _, rfl, rfl, h⟩
        | 7, _, qk =>
          replace h := h.2.2.2.2.2.2.2.2 qk
          refine EW_tabIn (off := 97) (tgt := 117) dX12_called_20 (by rw [qk]; decide) (by rw [qk]; decide) (by rw [qk]; decide) (by decide) ?_
          refine EW_aload_n (pc2 := 118) rfl dX12_called_117 0 rfl ?_
          refine AW_getr (r := 317) ⟨gfRX12_235, rfl⟩ (pc2 := 121) rfl dX12_called_118 q246 rfl ?_
          refine EW_iload_n (pc2 := 122) rfl dX12_called_121 1 rfl ?_
          obtain ⟨b8, h⟩ := h
          refine AW_iald (pc2 := 123) rfl dX12_called_122 q317 b8 ?_
          exact AW_iret rfl dX12_called_123 ⟨_, _, rfl, rfl, h⟩
        | n9 + 8, hkk, _ => exact absurd hkk (by omega)
    · replace h := h.2 q
      refine EW_iconst (pc2 := 18) (v := (-1)) rfl dX12_called_17 (by decide) ?_
      exact AW_iret rfl dX12_called_18 ⟨_, _, rfl, rfl, h⟩
theorem gfRX12_648 : ab_L RX12 648 12 116 := ⟨by decide, by decide, ab_in 1965 (by decide +kernel) (by decide +kernel)⟩
abbrev MX12_isRow : ab_M := (yX12_isRow, cX12_isRow, 2, (some .boolean))
theorem dX12_isRow_0 : decode cX12_isRow 0 = .ok (.iload_n 1, 1) := by decide +kernel
theorem dX12_isRow_1 : decode cX12_isRow 1 = .ok (.ifCond .lt 15, 3) := by decide +kernel
theorem dX12_isRow_4 : decode cX12_isRow 4 = .ok (.iload_n 1, 1) := by decide +kernel
theorem dX12_isRow_5 : decode cX12_isRow 5 = .ok (.aload_n 0, 1) := by decide +kernel
theorem dX12_isRow_6 : decode cX12_isRow 6 = .ok (.getfield 648, 3) := by decide +kernel
theorem dX12_isRow_9 : decode cX12_isRow 9 = .ok (.if_icmp .ge 7, 3) := by decide +kernel
theorem dX12_isRow_12 : decode cX12_isRow 12 = .ok (.iconst 1, 1) := by decide +kernel
theorem dX12_isRow_13 : decode cX12_isRow 13 = .ok (.goto 4, 3) := by decide +kernel
theorem dX12_isRow_16 : decode cX12_isRow 16 = .ok (.iconst 0, 1) := by decide +kernel
theorem dX12_isRow_17 : decode cX12_isRow 17 = .ok (.ireturn, 1) := by decide +kernel
theorem okX12_isRow : ab_okM MX12_isRow 1 := ⟨by decide, ⟨by decide, by decide⟩, ab_in 2706 (by decide +kernel) (by decide +kernel), ab_in 99 (by decide +kernel) (by decide +kernel), by decide +kernel, by decide⟩
set_option maxHeartbeats 4000000 in
set_option maxRecDepth 100000 in
def wX12_isRow (v1 : Int32) (x : ab_X) (K : Int32 → Prop) : Prop := ((v1 < 0 → K 0) ∧ (¬ v1 < 0 → (((x.1 246 116) ≤ v1 → K 0) ∧ (¬ (x.1 246 116) ≤ v1 → K 1))))
set_option maxHeartbeats 4000000 in
set_option maxRecDepth 100000 in
theorem sX12_isRow (v1 : Int32)  (x : ab_X) (K : Int32 → Prop) (d bc bs : Nat) (hdp : 0 ≤ d) (h : wX12_isRow v1 x K) : EW MX12_isRow 0 [(0, .ref 246), (1, .int v1)] [] (aS x) d bc bs (liP x K) := by
  unfold wX12_isRow at h
  refine EW_iload_n (pc2 := 1) rfl dX12_isRow_0 1 rfl ?_
  refine EW_if_lt (tgt := 16) (pc2 := 4) rfl dX12_isRow_1 (by decide) (fun q => ?_) (fun q => ?_)
  · replace h := h.1 q
    refine EW_iconst (pc2 := 17) (v := 0) rfl dX12_isRow_16 (by decide) ?_
    exact AW_zret rfl isB0 dX12_isRow_17 ⟨_, rfl, rfl, h⟩
  · replace h := h.2 q
    refine EW_iload_n (pc2 := 5) rfl dX12_isRow_4 1 rfl ?_
    refine EW_aload_n (pc2 := 6) rfl dX12_isRow_5 0 rfl ?_
    refine AW_geti ⟨gfRX12_648, rfl⟩ (pc2 := 9) rfl dX12_isRow_6 q246 ?_
    refine EW_icmp_ge (tgt := 16) (pc2 := 12) rfl dX12_isRow_9 (by decide) (fun q => ?_) (fun q => ?_)
    · replace h := h.1 q
      refine EW_iconst (pc2 := 17) (v := 0) rfl dX12_isRow_16 (by decide) ?_
      exact AW_zret rfl isB0 dX12_isRow_17 ⟨_, rfl, rfl, h⟩
    · replace h := h.2 q
      refine EW_iconst (pc2 := 13) (v := 1) rfl dX12_isRow_12 (by decide) ?_
      refine EW_goto (tgt := 17) dX12_isRow_13 (by decide) ?_
      exact AW_zret rfl isB1 dX12_isRow_17 ⟨_, rfl, rfl, h⟩
theorem mlRX12_651 : Cond.methodLink RX12 651 yX12_isRow ∈ ab_G ∧ Cond.instanceMethod yX12_isRow ∈ ab_G ∧ Cond.selects RX12 yX12_isRow yX12_isRow ∈ ab_G := ⟨ab_in 2703 (by decide +kernel) (by decide +kernel), ab_in 2705 (by decide +kernel) (by decide +kernel), ab_in 82 (by decide +kernel) (by decide +kernel)⟩
theorem gfRX12_281 : ab_L RX12 281 12 115 := ⟨by decide, by decide, ab_in 1964 (by decide +kernel) (by decide +kernel)⟩
theorem cnRX12_669 : Cond.constant RX12 669 1048575 ∈ ab_G := ab_in 2729 (by decide +kernel) (by decide +kernel)
abbrev MX12_canJudge : ab_M := (yX12_canJudge, cX12_canJudge, 4, (some .boolean))
theorem dX12_canJudge_0 : decode cX12_canJudge 0 = .ok (.aload_n 0, 1) := by decide +kernel
theorem dX12_canJudge_1 : decode cX12_canJudge 1 = .ok (.iconst 0, 1) := by decide +kernel
theorem dX12_canJudge_2 : decode cX12_canJudge 2 = .ok (.putfield 297, 3) := by decide +kernel
theorem dX12_canJudge_5 : decode cX12_canJudge 5 = .ok (.aload_n 0, 1) := by decide +kernel
theorem dX12_canJudge_6 : decode cX12_canJudge 6 = .ok (.iload_n 1, 1) := by decide +kernel
theorem dX12_canJudge_7 : decode cX12_canJudge 7 = .ok (.invokevirtual 651, 3) := by decide +kernel
theorem dX12_canJudge_10 : decode cX12_canJudge 10 = .ok (.ifCond .eq 37, 3) := by decide +kernel
theorem dX12_canJudge_13 : decode cX12_canJudge 13 = .ok (.aload_n 0, 1) := by decide +kernel
theorem dX12_canJudge_14 : decode cX12_canJudge 14 = .ok (.getfield 281, 3) := by decide +kernel
theorem dX12_canJudge_17 : decode cX12_canJudge 17 = .ok (.iload_n 1, 1) := by decide +kernel
theorem dX12_canJudge_18 : decode cX12_canJudge 18 = .ok (.baload, 1) := by decide +kernel
theorem dX12_canJudge_19 : decode cX12_canJudge 19 = .ok (.ifCond .ne 28, 3) := by decide +kernel
theorem dX12_canJudge_22 : decode cX12_canJudge 22 = .ok (.iload_n 2, 1) := by decide +kernel
theorem dX12_canJudge_23 : decode cX12_canJudge 23 = .ok (.iconst 0, 1) := by decide +kernel
theorem dX12_canJudge_24 : decode cX12_canJudge 24 = .ok (.ldc_w 669, 3) := by decide +kernel
theorem dX12_canJudge_27 : decode cX12_canJudge 27 = .ok (.invokestatic 307, 3) := by decide +kernel
theorem dX12_canJudge_30 : decode cX12_canJudge 30 = .ok (.ifCond .eq 17, 3) := by decide +kernel
theorem dX12_canJudge_33 : decode cX12_canJudge 33 = .ok (.iload_n 3, 1) := by decide +kernel
theorem dX12_canJudge_34 : decode cX12_canJudge 34 = .ok (.iconst 0, 1) := by decide +kernel
theorem dX12_canJudge_35 : decode cX12_canJudge 35 = .ok (.bipush 100, 2) := by decide +kernel
theorem dX12_canJudge_37 : decode cX12_canJudge 37 = .ok (.invokestatic 307, 3) := by decide +kernel
theorem dX12_canJudge_40 : decode cX12_canJudge 40 = .ok (.ifCond .eq 7, 3) := by decide +kernel
theorem dX12_canJudge_43 : decode cX12_canJudge 43 = .ok (.iconst 1, 1) := by decide +kernel
theorem dX12_canJudge_44 : decode cX12_canJudge 44 = .ok (.goto 4, 3) := by decide +kernel
theorem dX12_canJudge_47 : decode cX12_canJudge 47 = .ok (.iconst 0, 1) := by decide +kernel
theorem dX12_canJudge_48 : decode cX12_canJudge 48 = .ok (.ireturn, 1) := by decide +kernel
theorem okX12_canJudge : ab_okM MX12_canJudge 3 := ⟨by decide, ⟨by decide, by decide⟩, ab_in 2728 (by decide +kernel) (by decide +kernel), ab_in 99 (by decide +kernel) (by decide +kernel), by decide +kernel, by decide⟩
set_option maxHeartbeats 4000000 in
set_option maxRecDepth 100000 in
def wX12_canJudge (v1 : Int32) (v2 : Int32) (v3 : Int32) (x : ab_X) (K : Int32 → ab_X → Prop) : Prop := wX12_isRow v1 (wr x 246 0 0) (fun r1 => ((r1 = 0 → K 0 (wr x 246 0 0)) ∧ (¬ r1 = 0 → (vp_in v1 6 ∧ ((¬ ((wr x 246 0 0).1 332 (Int32.toNatClampNeg v1)) = 0 → K 0 (wr x 246 0 0)) ∧ (((wr x 246 0 0).1 332 (Int32.toNatClampNeg v1)) = 0 → wX12_isIn v2 0 1048575 (wr x 246 0 0) (fun r3 => ((r3 = 0 → K 0 (wr x 246 0 0)) ∧ (¬ r3 = 0 → wX12_isIn v3 0 100 (wr x 246 0 0) (fun r4 => ((r4 = 0 → K 0 (wr x 246 0 0)) ∧ (¬ r4 = 0 → K 1 (wr x 246 0 0)))))))))))))
set_option maxHeartbeats 4000000 in
set_option maxRecDepth 100000 in
theorem sX12_canJudge (v1 : Int32) (v2 : Int32) (v3 : Int32)  (x : ab_X) (K : Int32 → ab_X → Prop) (d bc bs : Nat) (hdp : 1 ≤ d) (h : wX12_canJudge v1 v2 v3 x K) : EW MX12_canJudge 0 [(0, .ref 246), (1, .int v1), (2, .int v2), (3, .int v3)] [] (aS x) d bc bs (liI K) := by
  unfold wX12_canJudge at h
  refine EW_aload_n (pc2 := 1) rfl dX12_canJudge_0 0 rfl ?_
  refine EW_iconst (pc2 := 2) (v := 0) rfl dX12_canJudge_1 (by decide) ?_
  refine AW_puti ⟨gfRX12_297, rfl, rfl⟩ (pc2 := 5) rfl dX12_canJudge_2 q246 ?_
  refine EW_aload_n (pc2 := 6) rfl dX12_canJudge_5 0 rfl ?_
  refine EW_iload_n (pc2 := 7) rfl dX12_canJudge_6 1 rfl ?_
  refine AW_invV (M' := MX12_isRow) [.int v1] (rest := []) mlRX12_651 okX12_isRow (pc2 := 10) rfl dX12_canJudge_7 rfl rfl (Nat.le_of_ble_eq_true rfl) (Nat.le_of_ble_eq_true rfl) (d' := 0) (by omega) q246 ⟨by decide, rfl⟩ (EW_mono (fun _ _ hr => ?_) (sX12_isRow v1  (wr x 246 0 0) _ _ 0 0 (Nat.le_refl _) h))
  obtain ⟨r1, rfl, rfl, h⟩ := hr
  refine EW_if_eq (tgt := 47) (pc2 := 13) rfl dX12_canJudge_10 (by decide) (fun q => ?_) (fun q => ?_)
  · replace h := h.1 q
    refine EW_iconst (pc2 := 48) (v := 0) rfl dX12_canJudge_47 (by decide) ?_
    exact AW_zret rfl isB0 dX12_canJudge_48 ⟨_, _, rfl, rfl, h⟩
  · replace h := h.2 q
    refine EW_aload_n (pc2 := 14) rfl dX12_canJudge_13 0 rfl ?_
    refine AW_getr (r := 332) ⟨gfRX12_281, rfl⟩ (pc2 := 17) rfl dX12_canJudge_14 q246 rfl ?_
    refine EW_iload_n (pc2 := 18) rfl dX12_canJudge_17 1 rfl ?_
    obtain ⟨b2, h⟩ := h
    refine AW_zald (pc2 := 19) rfl dX12_canJudge_18 q332 b2 ?_
    refine EW_if_ne (tgt := 47) (pc2 := 22) rfl dX12_canJudge_19 (by decide) (fun q => ?_) (fun q => ?_)
    · replace h := h.1 q
      refine EW_iconst (pc2 := 48) (v := 0) rfl dX12_canJudge_47 (by decide) ?_
      exact AW_zret rfl isB0 dX12_canJudge_48 ⟨_, _, rfl, rfl, h⟩
    · replace h := h.2 q
      refine EW_iload_n (pc2 := 23) rfl dX12_canJudge_22 2 rfl ?_
      refine EW_iconst (pc2 := 24) (v := 0) rfl dX12_canJudge_23 (by decide) ?_
      refine EW_ldcw cnRX12_669 (pc2 := 27) rfl dX12_canJudge_24 ?_
      refine AW_invS (M' := MX12_isIn) [.int v2, .int 0, .int 1048575] (rest := []) mlRX12_307 okX12_isIn (pc2 := 30) rfl dX12_canJudge_27 rfl rfl (Nat.le_of_ble_eq_true rfl) (Nat.le_of_ble_eq_true rfl) (d' := 0) (by omega) (EW_mono (fun _ _ hr => ?_) (sX12_isIn v2 0 1048575  (wr x 246 0 0) _ _ 0 0 (Nat.le_refl _) h))
      obtain ⟨r3, rfl, rfl, h⟩ := hr
      refine EW_if_eq (tgt := 47) (pc2 := 33) rfl dX12_canJudge_30 (by decide) (fun q => ?_) (fun q => ?_)
      · replace h := h.1 q
        refine EW_iconst (pc2 := 48) (v := 0) rfl dX12_canJudge_47 (by decide) ?_
        exact AW_zret rfl isB0 dX12_canJudge_48 ⟨_, _, rfl, rfl, h⟩
      · replace h := h.2 q
        refine EW_iload_n (pc2 := 34) rfl dX12_canJudge_33 3 rfl ?_
        refine EW_iconst (pc2 := 35) (v := 0) rfl dX12_canJudge_34 (by decide) ?_
        refine EW_bipush (pc2 := 37) (v := 100) rfl dX12_canJudge_35 (by decide) ?_
        refine AW_invS (M' := MX12_isIn) [.int v3, .int 0, .int 100] (rest := []) mlRX12_307 okX12_isIn (pc2 := 40) rfl dX12_canJudge_37 rfl rfl (Nat.le_of_ble_eq_true rfl) (Nat.le_of_ble_eq_true rfl) (d' := 0) (by omega) (EW_mono (fun _ _ hr => ?_) (sX12_isIn v3 0 100  (wr x 246 0 0) _ _ 0 0 (Nat.le_refl _) h))
        obtain ⟨r4, rfl, rfl, h⟩ := hr
        refine EW_if_eq (tgt := 47) (pc2 := 43) rfl dX12_canJudge_40 (by decide) (fun q => ?_) (fun q => ?_)
        · replace h := h.1 q
          refine EW_iconst (pc2 := 48) (v := 0) rfl dX12_canJudge_47 (by decide) ?_
          exact AW_zret rfl isB0 dX12_canJudge_48 ⟨_, _, rfl, rfl, h⟩
        · replace h := h.2 q
          refine EW_iconst (pc2 := 44) (v := 1) rfl dX12_canJudge_43 (by decide) ?_
          refine EW_goto (tgt := 48) dX12_canJudge_44 (by decide) ?_
          exact AW_zret rfl isB1 dX12_canJudge_48 ⟨_, _, rfl, rfl, h⟩
theorem gfRX12_596 : ab_L RX12 596 12 99 := ⟨by decide, by decide, ab_in 1948 (by decide +kernel) (by decide +kernel)⟩
theorem gfRX12_244 : ab_L RX12 244 12 95 := ⟨by decide, by decide, ab_in 1944 (by decide +kernel) (by decide +kernel)⟩
theorem gfRX12_247 : ab_L RX12 247 12 96 := ⟨by decide, by decide, ab_in 1945 (by decide +kernel) (by decide +kernel)⟩
theorem gfRX12_250 : ab_L RX12 250 12 97 := ⟨by decide, by decide, ab_in 1946 (by decide +kernel) (by decide +kernel)⟩
theorem gfRX12_253 : ab_L RX12 253 12 98 := ⟨by decide, by decide, ab_in 1947 (by decide +kernel) (by decide +kernel)⟩
abbrev MX12_tell : ab_M := (yX12_tell, cX12_tell, 4, (some .boolean))
theorem dX12_tell_0 : decode cX12_tell 0 = .ok (.aload_n 0, 1) := by decide +kernel
theorem dX12_tell_1 : decode cX12_tell 1 = .ok (.iload_n 1, 1) := by decide +kernel
theorem dX12_tell_2 : decode cX12_tell 2 = .ok (.invokevirtual 334, 3) := by decide +kernel
theorem dX12_tell_5 : decode cX12_tell 5 = .ok (.ifCond .eq 12, 3) := by decide +kernel
theorem dX12_tell_8 : decode cX12_tell 8 = .ok (.aload_n 0, 1) := by decide +kernel
theorem dX12_tell_9 : decode cX12_tell 9 = .ok (.getfield 596, 3) := by decide +kernel
theorem dX12_tell_12 : decode cX12_tell 12 = .ok (.bipush 100, 2) := by decide +kernel
theorem dX12_tell_14 : decode cX12_tell 14 = .ok (.if_icmp .ne 5, 3) := by decide +kernel
theorem dX12_tell_17 : decode cX12_tell 17 = .ok (.iconst 0, 1) := by decide +kernel
theorem dX12_tell_18 : decode cX12_tell 18 = .ok (.ireturn, 1) := by decide +kernel
theorem dX12_tell_19 : decode cX12_tell 19 = .ok (.aload_n 0, 1) := by decide +kernel
theorem dX12_tell_20 : decode cX12_tell 20 = .ok (.getfield 244, 3) := by decide +kernel
theorem dX12_tell_23 : decode cX12_tell 23 = .ok (.aload_n 0, 1) := by decide +kernel
theorem dX12_tell_24 : decode cX12_tell 24 = .ok (.getfield 596, 3) := by decide +kernel
theorem dX12_tell_27 : decode cX12_tell 27 = .ok (.iload_n 1, 1) := by decide +kernel
theorem dX12_tell_28 : decode cX12_tell 28 = .ok (.iastore, 1) := by decide +kernel
theorem dX12_tell_29 : decode cX12_tell 29 = .ok (.aload_n 0, 1) := by decide +kernel
theorem dX12_tell_30 : decode cX12_tell 30 = .ok (.getfield 247, 3) := by decide +kernel
theorem dX12_tell_33 : decode cX12_tell 33 = .ok (.aload_n 0, 1) := by decide +kernel
theorem dX12_tell_34 : decode cX12_tell 34 = .ok (.getfield 596, 3) := by decide +kernel
theorem dX12_tell_37 : decode cX12_tell 37 = .ok (.iload_n 2, 1) := by decide +kernel
theorem dX12_tell_38 : decode cX12_tell 38 = .ok (.iastore, 1) := by decide +kernel
theorem dX12_tell_39 : decode cX12_tell 39 = .ok (.aload_n 0, 1) := by decide +kernel
theorem dX12_tell_40 : decode cX12_tell 40 = .ok (.getfield 250, 3) := by decide +kernel
theorem dX12_tell_43 : decode cX12_tell 43 = .ok (.aload_n 0, 1) := by decide +kernel
theorem dX12_tell_44 : decode cX12_tell 44 = .ok (.getfield 596, 3) := by decide +kernel
theorem dX12_tell_47 : decode cX12_tell 47 = .ok (.iload_n 3, 1) := by decide +kernel
theorem dX12_tell_48 : decode cX12_tell 48 = .ok (.iastore, 1) := by decide +kernel
theorem dX12_tell_49 : decode cX12_tell 49 = .ok (.aload_n 0, 1) := by decide +kernel
theorem dX12_tell_50 : decode cX12_tell 50 = .ok (.getfield 253, 3) := by decide +kernel
theorem dX12_tell_53 : decode cX12_tell 53 = .ok (.aload_n 0, 1) := by decide +kernel
theorem dX12_tell_54 : decode cX12_tell 54 = .ok (.getfield 596, 3) := by decide +kernel
theorem dX12_tell_57 : decode cX12_tell 57 = .ok (.aload_n 0, 1) := by decide +kernel
theorem dX12_tell_58 : decode cX12_tell 58 = .ok (.getfield 395, 3) := by decide +kernel
theorem dX12_tell_61 : decode cX12_tell 61 = .ok (.iastore, 1) := by decide +kernel
theorem dX12_tell_62 : decode cX12_tell 62 = .ok (.aload_n 0, 1) := by decide +kernel
theorem dX12_tell_63 : decode cX12_tell 63 = .ok (.dup, 1) := by decide +kernel
theorem dX12_tell_64 : decode cX12_tell 64 = .ok (.getfield 596, 3) := by decide +kernel
theorem dX12_tell_67 : decode cX12_tell 67 = .ok (.iconst 1, 1) := by decide +kernel
theorem dX12_tell_68 : decode cX12_tell 68 = .ok (.iadd, 1) := by decide +kernel
theorem dX12_tell_69 : decode cX12_tell 69 = .ok (.putfield 596, 3) := by decide +kernel
theorem dX12_tell_72 : decode cX12_tell 72 = .ok (.iconst 1, 1) := by decide +kernel
theorem dX12_tell_73 : decode cX12_tell 73 = .ok (.ireturn, 1) := by decide +kernel
theorem okX12_tell : ab_okM MX12_tell 3 := ⟨by decide, ⟨by decide, by decide⟩, ab_in 2626 (by decide +kernel) (by decide +kernel), ab_in 99 (by decide +kernel) (by decide +kernel), by decide +kernel, by decide⟩
set_option maxHeartbeats 4000000 in
set_option maxRecDepth 100000 in
def wX12_tell (v1 : Int32) (v2 : Int32) (v3 : Int32) (x : ab_X) (K : Int32 → ab_X → Prop) : Prop := wX12_isHouse v1 x (fun r1 => ((r1 = 0 → K 0 x) ∧ (¬ r1 = 0 → ((¬ (x.1 246 99) = 100 → (vp_in (x.1 246 99) 100 ∧ vp_in ((wr x 320 (Int32.toNatClampNeg (x.1 246 99)) v1).1 246 99) 100 ∧ vp_in ((wr (wr x 320 (Int32.toNatClampNeg (x.1 246 99)) v1) 321 (Int32.toNatClampNeg ((wr x 320 (Int32.toNatClampNeg (x.1 246 99)) v1).1 246 99)) v2).1 246 99) 100 ∧ vp_in ((wr (wr (wr x 320 (Int32.toNatClampNeg (x.1 246 99)) v1) 321 (Int32.toNatClampNeg ((wr x 320 (Int32.toNatClampNeg (x.1 246 99)) v1).1 246 99)) v2) 322 (Int32.toNatClampNeg ((wr (wr x 320 (Int32.toNatClampNeg (x.1 246 99)) v1) 321 (Int32.toNatClampNeg ((wr x 320 (Int32.toNatClampNeg (x.1 246 99)) v1).1 246 99)) v2).1 246 99)) v3).1 246 99) 100 ∧ K 1 (wr (wr (wr (wr (wr x 320 (Int32.toNatClampNeg (x.1 246 99)) v1) 321 (Int32.toNatClampNeg ((wr x 320 (Int32.toNatClampNeg (x.1 246 99)) v1).1 246 99)) v2) 322 (Int32.toNatClampNeg ((wr (wr x 320 (Int32.toNatClampNeg (x.1 246 99)) v1) 321 (Int32.toNatClampNeg ((wr x 320 (Int32.toNatClampNeg (x.1 246 99)) v1).1 246 99)) v2).1 246 99)) v3) 323 (Int32.toNatClampNeg ((wr (wr (wr x 320 (Int32.toNatClampNeg (x.1 246 99)) v1) 321 (Int32.toNatClampNeg ((wr x 320 (Int32.toNatClampNeg (x.1 246 99)) v1).1 246 99)) v2) 322 (Int32.toNatClampNeg ((wr (wr x 320 (Int32.toNatClampNeg (x.1 246 99)) v1) 321 (Int32.toNatClampNeg ((wr x 320 (Int32.toNatClampNeg (x.1 246 99)) v1).1 246 99)) v2).1 246 99)) v3).1 246 99)) ((wr (wr (wr x 320 (Int32.toNatClampNeg (x.1 246 99)) v1) 321 (Int32.toNatClampNeg ((wr x 320 (Int32.toNatClampNeg (x.1 246 99)) v1).1 246 99)) v2) 322 (Int32.toNatClampNeg ((wr (wr x 320 (Int32.toNatClampNeg (x.1 246 99)) v1) 321 (Int32.toNatClampNeg ((wr x 320 (Int32.toNatClampNeg (x.1 246 99)) v1).1 246 99)) v2).1 246 99)) v3).1 246 1)) 246 99 (((wr (wr (wr (wr x 320 (Int32.toNatClampNeg (x.1 246 99)) v1) 321 (Int32.toNatClampNeg ((wr x 320 (Int32.toNatClampNeg (x.1 246 99)) v1).1 246 99)) v2) 322 (Int32.toNatClampNeg ((wr (wr x 320 (Int32.toNatClampNeg (x.1 246 99)) v1) 321 (Int32.toNatClampNeg ((wr x 320 (Int32.toNatClampNeg (x.1 246 99)) v1).1 246 99)) v2).1 246 99)) v3) 323 (Int32.toNatClampNeg ((wr (wr (wr x 320 (Int32.toNatClampNeg (x.1 246 99)) v1) 321 (Int32.toNatClampNeg ((wr x 320 (Int32.toNatClampNeg (x.1 246 99)) v1).1 246 99)) v2) 322 (Int32.toNatClampNeg ((wr (wr x 320 (Int32.toNatClampNeg (x.1 246 99)) v1) 321 (Int32.toNatClampNeg ((wr x 320 (Int32.toNatClampNeg (x.1 246 99)) v1).1 246 99)) v2).1 246 99)) v3).1 246 99)) ((wr (wr (wr x 320 (Int32.toNatClampNeg (x.1 246 99)) v1) 321 (Int32.toNatClampNeg ((wr x 320 (Int32.toNatClampNeg (x.1 246 99)) v1).1 246 99)) v2) 322 (Int32.toNatClampNeg ((wr (wr x 320 (Int32.toNatClampNeg (x.1 246 99)) v1) 321 (Int32.toNatClampNeg ((wr x 320 (Int32.toNatClampNeg (x.1 246 99)) v1).1 246 99)) v2).1 246 99)) v3).1 246 1)).1 246 99) + 1)))) ∧ ((x.1 246 99) = 100 → K 0 x)))))
set_option maxHeartbeats 4000000 in
set_option maxRecDepth 100000 in
theorem sX12_tell (v1 : Int32) (v2 : Int32) (v3 : Int32)  (x : ab_X) (K : Int32 → ab_X → Prop) (d bc bs : Nat) (hdp : 1 ≤ d) (h : wX12_tell v1 v2 v3 x K) : EW MX12_tell 0 [(0, .ref 246), (1, .int v1), (2, .int v2), (3, .int v3)] [] (aS x) d bc bs (liI K) := by
  unfold wX12_tell at h
  refine EW_aload_n (pc2 := 1) rfl dX12_tell_0 0 rfl ?_
  refine EW_iload_n (pc2 := 2) rfl dX12_tell_1 1 rfl ?_
  refine AW_invV (M' := MX12_isHouse) [.int v1] (rest := []) mlRX12_334 okX12_isHouse (pc2 := 5) rfl dX12_tell_2 rfl rfl (Nat.le_of_ble_eq_true rfl) (Nat.le_of_ble_eq_true rfl) (d' := 0) (by omega) q246 ⟨by decide, rfl⟩ (EW_mono (fun _ _ hr => ?_) (sX12_isHouse v1  x _ _ 0 0 (Nat.le_refl _) h))
  obtain ⟨r1, rfl, rfl, h⟩ := hr
  refine EW_if_eq (tgt := 17) (pc2 := 8) rfl dX12_tell_5 (by decide) (fun q => ?_) (fun q => ?_)
  · replace h := h.1 q
    refine EW_iconst (pc2 := 18) (v := 0) rfl dX12_tell_17 (by decide) ?_
    exact AW_zret rfl isB0 dX12_tell_18 ⟨_, _, rfl, rfl, h⟩
  · replace h := h.2 q
    refine EW_aload_n (pc2 := 9) rfl dX12_tell_8 0 rfl ?_
    refine AW_geti ⟨gfRX12_596, rfl⟩ (pc2 := 12) rfl dX12_tell_9 q246 ?_
    refine EW_bipush (pc2 := 14) (v := 100) rfl dX12_tell_12 (by decide) ?_
    refine EW_icmp_ne (tgt := 19) (pc2 := 17) rfl dX12_tell_14 (by decide) (fun q => ?_) (fun q => ?_)
    · replace h := h.1 q
      refine EW_aload_n (pc2 := 20) rfl dX12_tell_19 0 rfl ?_
      refine AW_getr (r := 320) ⟨gfRX12_244, rfl⟩ (pc2 := 23) rfl dX12_tell_20 q246 rfl ?_
      refine EW_aload_n (pc2 := 24) rfl dX12_tell_23 0 rfl ?_
      refine AW_geti ⟨gfRX12_596, rfl⟩ (pc2 := 27) rfl dX12_tell_24 q246 ?_
      refine EW_iload_n (pc2 := 28) rfl dX12_tell_27 1 rfl ?_
      obtain ⟨b2, h⟩ := h
      refine AW_iast (pc2 := 29) rfl dX12_tell_28 q320 b2 ?_
      refine EW_aload_n (pc2 := 30) rfl dX12_tell_29 0 rfl ?_
      refine AW_getr (r := 321) ⟨gfRX12_247, rfl⟩ (pc2 := 33) rfl dX12_tell_30 q246 rfl ?_
      refine EW_aload_n (pc2 := 34) rfl dX12_tell_33 0 rfl ?_
      refine AW_geti ⟨gfRX12_596, rfl⟩ (pc2 := 37) rfl dX12_tell_34 q246 ?_
      refine EW_iload_n (pc2 := 38) rfl dX12_tell_37 2 rfl ?_
      obtain ⟨b3, h⟩ := h
      refine AW_iast (pc2 := 39) rfl dX12_tell_38 q321 b3 ?_
      refine EW_aload_n (pc2 := 40) rfl dX12_tell_39 0 rfl ?_
      refine AW_getr (r := 322) ⟨gfRX12_250, rfl⟩ (pc2 := 43) rfl dX12_tell_40 q246 rfl ?_
      refine EW_aload_n (pc2 := 44) rfl dX12_tell_43 0 rfl ?_
      refine AW_geti ⟨gfRX12_596, rfl⟩ (pc2 := 47) rfl dX12_tell_44 q246 ?_
      refine EW_iload_n (pc2 := 48) rfl dX12_tell_47 3 rfl ?_
      obtain ⟨b4, h⟩ := h
      refine AW_iast (pc2 := 49) rfl dX12_tell_48 q322 b4 ?_
      refine EW_aload_n (pc2 := 50) rfl dX12_tell_49 0 rfl ?_
      refine AW_getr (r := 323) ⟨gfRX12_253, rfl⟩ (pc2 := 53) rfl dX12_tell_50 q246 rfl ?_
      refine EW_aload_n (pc2 := 54) rfl dX12_tell_53 0 rfl ?_
      refine AW_geti ⟨gfRX12_596, rfl⟩ (pc2 := 57) rfl dX12_tell_54 q246 ?_
      refine EW_aload_n (pc2 := 58) rfl dX12_tell_57 0 rfl ?_
      refine AW_geti ⟨gfRX12_395, rfl⟩ (pc2 := 61) rfl dX12_tell_58 q246 ?_
      obtain ⟨b5, h⟩ := h
      refine AW_iast (pc2 := 62) rfl dX12_tell_61 q323 b5 ?_
      refine EW_aload_n (pc2 := 63) rfl dX12_tell_62 0 rfl ?_
      refine EW_dup (pc2 := 64) rfl dX12_tell_63 rfl ?_
      refine AW_geti ⟨gfRX12_596, rfl⟩ (pc2 := 67) rfl dX12_tell_64 q246 ?_
      refine EW_iconst (pc2 := 68) (v := 1) rfl dX12_tell_67 (by decide) ?_
      refine EW_iadd (pc2 := 69) rfl dX12_tell_68 ?_
      refine AW_puti ⟨gfRX12_596, rfl, rfl⟩ (pc2 := 72) rfl dX12_tell_69 q246 ?_
      refine EW_iconst (pc2 := 73) (v := 1) rfl dX12_tell_72 (by decide) ?_
      exact AW_zret rfl isB1 dX12_tell_73 ⟨_, _, rfl, rfl, h⟩
    · replace h := h.2 q
      refine EW_iconst (pc2 := 18) (v := 0) rfl dX12_tell_17 (by decide) ?_
      exact AW_zret rfl isB0 dX12_tell_18 ⟨_, _, rfl, rfl, h⟩
theorem mlRX12_599 : Cond.methodLink RX12 599 yX12_tell ∈ ab_G ∧ Cond.instanceMethod yX12_tell ∈ ab_G ∧ Cond.selects RX12 yX12_tell yX12_tell ∈ ab_G := ⟨ab_in 2623 (by decide +kernel) (by decide +kernel), ab_in 2625 (by decide +kernel) (by decide +kernel), ab_in 73 (by decide +kernel) (by decide +kernel)⟩
abbrev MX12_change : ab_M := (yX12_change, cX12_change, 4, (some .boolean))
theorem dX12_change_0 : decode cX12_change 0 = .ok (.aload_n 0, 1) := by decide +kernel
theorem dX12_change_1 : decode cX12_change 1 = .ok (.iconst 0, 1) := by decide +kernel
theorem dX12_change_2 : decode cX12_change 2 = .ok (.putfield 297, 3) := by decide +kernel
theorem dX12_change_5 : decode cX12_change 5 = .ok (.iload_n 2, 1) := by decide +kernel
theorem dX12_change_6 : decode cX12_change 6 = .ok (.iconst 0, 1) := by decide +kernel
theorem dX12_change_7 : decode cX12_change 7 = .ok (.bipush 9, 2) := by decide +kernel
theorem dX12_change_9 : decode cX12_change 9 = .ok (.invokestatic 307, 3) := by decide +kernel
theorem dX12_change_12 : decode cX12_change 12 = .ok (.ifCond .eq 29, 3) := by decide +kernel
theorem dX12_change_15 : decode cX12_change 15 = .ok (.iload_n 3, 1) := by decide +kernel
theorem dX12_change_16 : decode cX12_change 16 = .ok (.iconst 0, 1) := by decide +kernel
theorem dX12_change_17 : decode cX12_change 17 = .ok (.aload_n 0, 1) := by decide +kernel
theorem dX12_change_18 : decode cX12_change 18 = .ok (.getfield 395, 3) := by decide +kernel
theorem dX12_change_21 : decode cX12_change 21 = .ok (.invokestatic 307, 3) := by decide +kernel
theorem dX12_change_24 : decode cX12_change 24 = .ok (.ifCond .eq 17, 3) := by decide +kernel
theorem dX12_change_27 : decode cX12_change 27 = .ok (.aload_n 0, 1) := by decide +kernel
theorem dX12_change_28 : decode cX12_change 28 = .ok (.iload_n 1, 1) := by decide +kernel
theorem dX12_change_29 : decode cX12_change 29 = .ok (.iload_n 2, 1) := by decide +kernel
theorem dX12_change_30 : decode cX12_change 30 = .ok (.iload_n 3, 1) := by decide +kernel
theorem dX12_change_31 : decode cX12_change 31 = .ok (.invokevirtual 599, 3) := by decide +kernel
theorem dX12_change_34 : decode cX12_change 34 = .ok (.ifCond .eq 7, 3) := by decide +kernel
theorem dX12_change_37 : decode cX12_change 37 = .ok (.iconst 1, 1) := by decide +kernel
theorem dX12_change_38 : decode cX12_change 38 = .ok (.goto 4, 3) := by decide +kernel
theorem dX12_change_41 : decode cX12_change 41 = .ok (.iconst 0, 1) := by decide +kernel
theorem dX12_change_42 : decode cX12_change 42 = .ok (.ireturn, 1) := by decide +kernel
theorem okX12_change : ab_okM MX12_change 3 := ⟨by decide, ⟨by decide, by decide⟩, ab_in 2622 (by decide +kernel) (by decide +kernel), ab_in 99 (by decide +kernel) (by decide +kernel), by decide +kernel, by decide⟩
set_option maxHeartbeats 4000000 in
set_option maxRecDepth 100000 in
def wX12_change (v1 : Int32) (v2 : Int32) (v3 : Int32) (x : ab_X) (K : Int32 → ab_X → Prop) : Prop := wX12_isIn v2 0 9 (wr x 246 0 0) (fun r1 => ((r1 = 0 → K 0 (wr x 246 0 0)) ∧ (¬ r1 = 0 → wX12_isIn v3 0 ((wr x 246 0 0).1 246 1) (wr x 246 0 0) (fun r2 => ((r2 = 0 → K 0 (wr x 246 0 0)) ∧ (¬ r2 = 0 → wX12_tell v1 v2 v3 (wr x 246 0 0) (fun r3 x4 => ((r3 = 0 → K 0 x4) ∧ (¬ r3 = 0 → K 1 x4)))))))))
set_option maxHeartbeats 4000000 in
set_option maxRecDepth 100000 in
theorem sX12_change (v1 : Int32) (v2 : Int32) (v3 : Int32)  (x : ab_X) (K : Int32 → ab_X → Prop) (d bc bs : Nat) (hdp : 2 ≤ d) (h : wX12_change v1 v2 v3 x K) : EW MX12_change 0 [(0, .ref 246), (1, .int v1), (2, .int v2), (3, .int v3)] [] (aS x) d bc bs (liI K) := by
  unfold wX12_change at h
  refine EW_aload_n (pc2 := 1) rfl dX12_change_0 0 rfl ?_
  refine EW_iconst (pc2 := 2) (v := 0) rfl dX12_change_1 (by decide) ?_
  refine AW_puti ⟨gfRX12_297, rfl, rfl⟩ (pc2 := 5) rfl dX12_change_2 q246 ?_
  refine EW_iload_n (pc2 := 6) rfl dX12_change_5 2 rfl ?_
  refine EW_iconst (pc2 := 7) (v := 0) rfl dX12_change_6 (by decide) ?_
  refine EW_bipush (pc2 := 9) (v := 9) rfl dX12_change_7 (by decide) ?_
  refine AW_invS (M' := MX12_isIn) [.int v2, .int 0, .int 9] (rest := []) mlRX12_307 okX12_isIn (pc2 := 12) rfl dX12_change_9 rfl rfl (Nat.le_of_ble_eq_true rfl) (Nat.le_of_ble_eq_true rfl) (d' := 0) (by omega) (EW_mono (fun _ _ hr => ?_) (sX12_isIn v2 0 9  (wr x 246 0 0) _ _ 0 0 (Nat.le_refl _) h))
  obtain ⟨r1, rfl, rfl, h⟩ := hr
  refine EW_if_eq (tgt := 41) (pc2 := 15) rfl dX12_change_12 (by decide) (fun q => ?_) (fun q => ?_)
  · replace h := h.1 q
    refine EW_iconst (pc2 := 42) (v := 0) rfl dX12_change_41 (by decide) ?_
    exact AW_zret rfl isB0 dX12_change_42 ⟨_, _, rfl, rfl, h⟩
  · replace h := h.2 q
    refine EW_iload_n (pc2 := 16) rfl dX12_change_15 3 rfl ?_
    refine EW_iconst (pc2 := 17) (v := 0) rfl dX12_change_16 (by decide) ?_
    refine EW_aload_n (pc2 := 18) rfl dX12_change_17 0 rfl ?_
    refine AW_geti ⟨gfRX12_395, rfl⟩ (pc2 := 21) rfl dX12_change_18 q246 ?_
    refine AW_invS (M' := MX12_isIn) [.int v3, .int 0, .int ((wr x 246 0 0).1 246 1)] (rest := []) mlRX12_307 okX12_isIn (pc2 := 24) rfl dX12_change_21 rfl rfl (Nat.le_of_ble_eq_true rfl) (Nat.le_of_ble_eq_true rfl) (d' := 0) (by omega) (EW_mono (fun _ _ hr => ?_) (sX12_isIn v3 0 ((wr x 246 0 0).1 246 1)  (wr x 246 0 0) _ _ 0 0 (Nat.le_refl _) h))
    obtain ⟨r2, rfl, rfl, h⟩ := hr
    refine EW_if_eq (tgt := 41) (pc2 := 27) rfl dX12_change_24 (by decide) (fun q => ?_) (fun q => ?_)
    · replace h := h.1 q
      refine EW_iconst (pc2 := 42) (v := 0) rfl dX12_change_41 (by decide) ?_
      exact AW_zret rfl isB0 dX12_change_42 ⟨_, _, rfl, rfl, h⟩
    · replace h := h.2 q
      refine EW_aload_n (pc2 := 28) rfl dX12_change_27 0 rfl ?_
      refine EW_iload_n (pc2 := 29) rfl dX12_change_28 1 rfl ?_
      refine EW_iload_n (pc2 := 30) rfl dX12_change_29 2 rfl ?_
      refine EW_iload_n (pc2 := 31) rfl dX12_change_30 3 rfl ?_
      refine AW_invV (M' := MX12_tell) [.int v1, .int v2, .int v3] (rest := []) mlRX12_599 okX12_tell (pc2 := 34) rfl dX12_change_31 rfl rfl (Nat.le_of_ble_eq_true rfl) (Nat.le_of_ble_eq_true rfl) (d' := 1) (by omega) q246 ⟨by decide, rfl⟩ (EW_mono (fun _ _ hr => ?_) (sX12_tell v1 v2 v3  (wr x 246 0 0) _ _ 0 0 (Nat.le_refl _) h))
      obtain ⟨r3, x4, rfl, rfl, h⟩ := hr
      refine EW_if_eq (tgt := 41) (pc2 := 37) rfl dX12_change_34 (by decide) (fun q => ?_) (fun q => ?_)
      · replace h := h.1 q
        refine EW_iconst (pc2 := 42) (v := 0) rfl dX12_change_41 (by decide) ?_
        exact AW_zret rfl isB0 dX12_change_42 ⟨_, _, rfl, rfl, h⟩
      · replace h := h.2 q
        refine EW_iconst (pc2 := 38) (v := 1) rfl dX12_change_37 (by decide) ?_
        refine EW_goto (tgt := 42) dX12_change_38 (by decide) ?_
        exact AW_zret rfl isB1 dX12_change_42 ⟨_, _, rfl, rfl, h⟩
abbrev MX12_isStreet : ab_M := (yX12_isStreet, cX12_isStreet, 2, (some .boolean))
theorem dX12_isStreet_0 : decode cX12_isStreet 0 = .ok (.iload_n 1, 1) := by decide +kernel
theorem dX12_isStreet_1 : decode cX12_isStreet 1 = .ok (.ifCond .lt 15, 3) := by decide +kernel
theorem dX12_isStreet_4 : decode cX12_isStreet 4 = .ok (.iload_n 1, 1) := by decide +kernel
theorem dX12_isStreet_5 : decode cX12_isStreet 5 = .ok (.aload_n 0, 1) := by decide +kernel
theorem dX12_isStreet_6 : decode cX12_isStreet 6 = .ok (.getfield 300, 3) := by decide +kernel
theorem dX12_isStreet_9 : decode cX12_isStreet 9 = .ok (.if_icmp .ge 7, 3) := by decide +kernel
theorem dX12_isStreet_12 : decode cX12_isStreet 12 = .ok (.iconst 1, 1) := by decide +kernel
theorem dX12_isStreet_13 : decode cX12_isStreet 13 = .ok (.goto 4, 3) := by decide +kernel
theorem dX12_isStreet_16 : decode cX12_isStreet 16 = .ok (.iconst 0, 1) := by decide +kernel
theorem dX12_isStreet_17 : decode cX12_isStreet 17 = .ok (.ireturn, 1) := by decide +kernel
theorem okX12_isStreet : ab_okM MX12_isStreet 1 := ⟨by decide, ⟨by decide, by decide⟩, ab_in 2236 (by decide +kernel) (by decide +kernel), ab_in 99 (by decide +kernel) (by decide +kernel), by decide +kernel, by decide⟩
set_option maxHeartbeats 4000000 in
set_option maxRecDepth 100000 in
def wX12_isStreet (v1 : Int32) (x : ab_X) (K : Int32 → Prop) : Prop := ((v1 < 0 → K 0) ∧ (¬ v1 < 0 → (((x.1 246 9) ≤ v1 → K 0) ∧ (¬ (x.1 246 9) ≤ v1 → K 1))))
set_option maxHeartbeats 4000000 in
set_option maxRecDepth 100000 in
theorem sX12_isStreet (v1 : Int32)  (x : ab_X) (K : Int32 → Prop) (d bc bs : Nat) (hdp : 0 ≤ d) (h : wX12_isStreet v1 x K) : EW MX12_isStreet 0 [(0, .ref 246), (1, .int v1)] [] (aS x) d bc bs (liP x K) := by
  unfold wX12_isStreet at h
  refine EW_iload_n (pc2 := 1) rfl dX12_isStreet_0 1 rfl ?_
  refine EW_if_lt (tgt := 16) (pc2 := 4) rfl dX12_isStreet_1 (by decide) (fun q => ?_) (fun q => ?_)
  · replace h := h.1 q
    refine EW_iconst (pc2 := 17) (v := 0) rfl dX12_isStreet_16 (by decide) ?_
    exact AW_zret rfl isB0 dX12_isStreet_17 ⟨_, rfl, rfl, h⟩
  · replace h := h.2 q
    refine EW_iload_n (pc2 := 5) rfl dX12_isStreet_4 1 rfl ?_
    refine EW_aload_n (pc2 := 6) rfl dX12_isStreet_5 0 rfl ?_
    refine AW_geti ⟨gfRX12_300, rfl⟩ (pc2 := 9) rfl dX12_isStreet_6 q246 ?_
    refine EW_icmp_ge (tgt := 16) (pc2 := 12) rfl dX12_isStreet_9 (by decide) (fun q => ?_) (fun q => ?_)
    · replace h := h.1 q
      refine EW_iconst (pc2 := 17) (v := 0) rfl dX12_isStreet_16 (by decide) ?_
      exact AW_zret rfl isB0 dX12_isStreet_17 ⟨_, rfl, rfl, h⟩
    · replace h := h.2 q
      refine EW_iconst (pc2 := 13) (v := 1) rfl dX12_isStreet_12 (by decide) ?_
      refine EW_goto (tgt := 17) dX12_isStreet_13 (by decide) ?_
      exact AW_zret rfl isB1 dX12_isStreet_17 ⟨_, rfl, rfl, h⟩
theorem mlRX12_317 : Cond.methodLink RX12 317 yX12_isStreet ∈ ab_G ∧ Cond.instanceMethod yX12_isStreet ∈ ab_G ∧ Cond.selects RX12 yX12_isStreet yX12_isStreet ∈ ab_G := ⟨ab_in 2233 (by decide +kernel) (by decide +kernel), ab_in 2235 (by decide +kernel) (by decide +kernel), ab_in 14 (by decide +kernel) (by decide +kernel)⟩
abbrev MX12_closed : ab_M := (yX12_closed, cX12_closed, 3, (some .boolean))
theorem dX12_closed_0 : decode cX12_closed 0 = .ok (.aload_n 0, 1) := by decide +kernel
theorem dX12_closed_1 : decode cX12_closed 1 = .ok (.iconst 0, 1) := by decide +kernel
theorem dX12_closed_2 : decode cX12_closed 2 = .ok (.putfield 297, 3) := by decide +kernel
theorem dX12_closed_5 : decode cX12_closed 5 = .ok (.aload_n 0, 1) := by decide +kernel
theorem dX12_closed_6 : decode cX12_closed 6 = .ok (.iload_n 1, 1) := by decide +kernel
theorem dX12_closed_7 : decode cX12_closed 7 = .ok (.invokevirtual 317, 3) := by decide +kernel
theorem dX12_closed_10 : decode cX12_closed 10 = .ok (.ifCond .eq 13, 3) := by decide +kernel
theorem dX12_closed_13 : decode cX12_closed 13 = .ok (.aload_n 0, 1) := by decide +kernel
theorem dX12_closed_14 : decode cX12_closed 14 = .ok (.getfield 25, 3) := by decide +kernel
theorem dX12_closed_17 : decode cX12_closed 17 = .ok (.iload_n 1, 1) := by decide +kernel
theorem dX12_closed_18 : decode cX12_closed 18 = .ok (.baload, 1) := by decide +kernel
theorem dX12_closed_19 : decode cX12_closed 19 = .ok (.iload_n 2, 1) := by decide +kernel
theorem dX12_closed_20 : decode cX12_closed 20 = .ok (.if_icmp .ne 5, 3) := by decide +kernel
theorem dX12_closed_23 : decode cX12_closed 23 = .ok (.iconst 0, 1) := by decide +kernel
theorem dX12_closed_24 : decode cX12_closed 24 = .ok (.ireturn, 1) := by decide +kernel
theorem dX12_closed_25 : decode cX12_closed 25 = .ok (.aload_n 0, 1) := by decide +kernel
theorem dX12_closed_26 : decode cX12_closed 26 = .ok (.getfield 25, 3) := by decide +kernel
theorem dX12_closed_29 : decode cX12_closed 29 = .ok (.iload_n 1, 1) := by decide +kernel
theorem dX12_closed_30 : decode cX12_closed 30 = .ok (.iload_n 2, 1) := by decide +kernel
theorem dX12_closed_31 : decode cX12_closed 31 = .ok (.bastore, 1) := by decide +kernel
theorem dX12_closed_32 : decode cX12_closed 32 = .ok (.iconst 1, 1) := by decide +kernel
theorem dX12_closed_33 : decode cX12_closed 33 = .ok (.ireturn, 1) := by decide +kernel
theorem okX12_closed : ab_okM MX12_closed 2 := ⟨by decide, ⟨by decide, by decide⟩, ab_in 2240 (by decide +kernel) (by decide +kernel), ab_in 99 (by decide +kernel) (by decide +kernel), by decide +kernel, by decide⟩
set_option maxHeartbeats 4000000 in
set_option maxRecDepth 100000 in
def wX12_closed (v1 : Int32) (v2 : Int32) (x : ab_X) (K : Int32 → ab_X → Prop) : Prop := wX12_isStreet v1 (wr x 246 0 0) (fun r1 => ((r1 = 0 → K 0 (wr x 246 0 0)) ∧ (¬ r1 = 0 → (vp_in v1 40 ∧ ((¬ ((wr x 246 0 0).1 252 (Int32.toNatClampNeg v1)) = v2 → (vp_in v1 40 ∧ isB v2 ∧ K 1 (wr (wr x 246 0 0) 252 (Int32.toNatClampNeg v1) v2))) ∧ (((wr x 246 0 0).1 252 (Int32.toNatClampNeg v1)) = v2 → K 0 (wr x 246 0 0)))))))
set_option maxHeartbeats 4000000 in
set_option maxRecDepth 100000 in
theorem sX12_closed (v1 : Int32) (v2 : Int32)  (x : ab_X) (K : Int32 → ab_X → Prop) (d bc bs : Nat) (hdp : 1 ≤ d) (h : wX12_closed v1 v2 x K) : EW MX12_closed 0 [(0, .ref 246), (1, .int v1), (2, .int v2)] [] (aS x) d bc bs (liI K) := by
  unfold wX12_closed at h
  refine EW_aload_n (pc2 := 1) rfl dX12_closed_0 0 rfl ?_
  refine EW_iconst (pc2 := 2) (v := 0) rfl dX12_closed_1 (by decide) ?_
  refine AW_puti ⟨gfRX12_297, rfl, rfl⟩ (pc2 := 5) rfl dX12_closed_2 q246 ?_
  refine EW_aload_n (pc2 := 6) rfl dX12_closed_5 0 rfl ?_
  refine EW_iload_n (pc2 := 7) rfl dX12_closed_6 1 rfl ?_
  refine AW_invV (M' := MX12_isStreet) [.int v1] (rest := []) mlRX12_317 okX12_isStreet (pc2 := 10) rfl dX12_closed_7 rfl rfl (Nat.le_of_ble_eq_true rfl) (Nat.le_of_ble_eq_true rfl) (d' := 0) (by omega) q246 ⟨by decide, rfl⟩ (EW_mono (fun _ _ hr => ?_) (sX12_isStreet v1  (wr x 246 0 0) _ _ 0 0 (Nat.le_refl _) h))
  obtain ⟨r1, rfl, rfl, h⟩ := hr
  refine EW_if_eq (tgt := 23) (pc2 := 13) rfl dX12_closed_10 (by decide) (fun q => ?_) (fun q => ?_)
  · replace h := h.1 q
    refine EW_iconst (pc2 := 24) (v := 0) rfl dX12_closed_23 (by decide) ?_
    exact AW_zret rfl isB0 dX12_closed_24 ⟨_, _, rfl, rfl, h⟩
  · replace h := h.2 q
    refine EW_aload_n (pc2 := 14) rfl dX12_closed_13 0 rfl ?_
    refine AW_getr (r := 252) ⟨gfRX12_25, rfl⟩ (pc2 := 17) rfl dX12_closed_14 q246 rfl ?_
    refine EW_iload_n (pc2 := 18) rfl dX12_closed_17 1 rfl ?_
    obtain ⟨b2, h⟩ := h
    refine AW_zald (pc2 := 19) rfl dX12_closed_18 q252 b2 ?_
    refine EW_iload_n (pc2 := 20) rfl dX12_closed_19 2 rfl ?_
    refine EW_icmp_ne (tgt := 25) (pc2 := 23) rfl dX12_closed_20 (by decide) (fun q => ?_) (fun q => ?_)
    · replace h := h.1 q
      refine EW_aload_n (pc2 := 26) rfl dX12_closed_25 0 rfl ?_
      refine AW_getr (r := 252) ⟨gfRX12_25, rfl⟩ (pc2 := 29) rfl dX12_closed_26 q246 rfl ?_
      refine EW_iload_n (pc2 := 30) rfl dX12_closed_29 1 rfl ?_
      refine EW_iload_n (pc2 := 31) rfl dX12_closed_30 2 rfl ?_
      obtain ⟨b3, h⟩ := h
      obtain ⟨z4, h⟩ := h
      refine AW_zast (pc2 := 32) rfl dX12_closed_31 q252 b3 z4 ?_
      refine EW_iconst (pc2 := 33) (v := 1) rfl dX12_closed_32 (by decide) ?_
      exact AW_zret rfl isB1 dX12_closed_33 ⟨_, _, rfl, rfl, h⟩
    · replace h := h.2 q
      refine EW_iconst (pc2 := 24) (v := 0) rfl dX12_closed_23 (by decide) ?_
      exact AW_zret rfl isB0 dX12_closed_24 ⟨_, _, rfl, rfl, h⟩
