def wX11_about (v1 v2 : Int32) (x : ab_X) (K : Int32 → Prop) (T : Prop) : Prop := wX0_has v1 x (fun r1 => ((r1 = 0 → T) ∧ (¬ r1 = 0 → wX11_within v2 0 8 x (fun r2 => ((¬ r2 = 0 → (vp_in v1 16 ∧ (((v2.toInt < 0 ∨ 7 < v2.toInt) → K (x.1 (82 + Int32.toNatClampNeg v1) 16)) ∧ (v2 = 0 → K (x.1 (82 + Int32.toNatClampNeg v1) 8)) ∧ (v2 = 1 → K (x.1 (82 + Int32.toNatClampNeg v1) 9)) ∧ (v2 = 2 → K (x.1 (82 + Int32.toNatClampNeg v1) 10)) ∧ (v2 = 3 → K (x.1 (82 + Int32.toNatClampNeg v1) 11)) ∧ (v2 = 4 → K (x.1 (82 + Int32.toNatClampNeg v1) 12)) ∧ (v2 = 5 → K (x.1 (82 + Int32.toNatClampNeg v1) 13)) ∧ (v2 = 6 → K (x.1 (82 + Int32.toNatClampNeg v1) 15)) ∧ (v2 = 7 → wX2_slow (82 + Int32.toNatClampNeg v1) x (fun r4 => K r4))))) ∧ (r2 = 0 → T))))))
/-- CityBrigadeLaw.about: 0 and the answer in the long row, or 1 -/
def wL_about (a b : Int32) (x : ab_X) (K : Int32 → ab_X → Prop) : Prop := wX11_about a b x (fun v => K 0 (wrl x 337 0 (Int32.toInt64 v))) (K 1 x)
def el_aboutRule : Prop := ∀ {L : Nat} {xs : Nat → Int32} {pc pc2 : Nat} {lv : List (Nat × Value)} {a b : Int32} {x : ab_X} {bu : Nat} {K : Int32 → ab_X → Prop}, pc + 3 = pc2 → decode cL_law pc = .ok (.invokestatic 106, 3) → wL_about a b x K → (∀ r y, K r y → EL L xs pc2 lv [.int r] (aS y) bu) → EL L xs pc lv [.ref 337, .int b, .int a, .ref 0] (aS x) (bu + 1)
/-- cells that may still be made: one a call -/
theorem law_leaf {r r' : Int32} {Q : Prop} (h : r = r' ∧ Q) : (r = r' → Q) ∧ (¬ r = r' → False) := ⟨fun _ => h.2, fun q => q h.1⟩
theorem law_leafD {r r' : UInt64} {Q : Prop} (h : dD r = dD r' ∧ Q) : ((Op.cmpValue (FP.dcmp r r') .l) = 0 → Q) ∧ (¬ (Op.cmpValue (FP.dcmp r r') .l) = 0 → (((Op.cmpValue (FP.dcmp r r) .l) = 0 → False) ∧ (¬ (Op.cmpValue (FP.dcmp r r) .l) = 0 → ((¬ (Op.cmpValue (FP.dcmp r' r') .l) = 0 → Q) ∧ ((Op.cmpValue (FP.dcmp r' r') .l) = 0 → False))))) := dbl_law h.1 h.2
def nb (v : Int32) : Nat := 600 - v.toNatClampNeg / 6
theorem nb_step {L : Nat} {v : Int32} (hL : L ≤ 3072) (h : vp_in v L) : nb (v + 6) + 1 ≤ nb v := by
  obtain ⟨j, hj, rfl⟩ := vp_in_of h (by omega)
  have e : nI j + 6 = nI (j + 6) := nI_add j 6
  unfold nb
  rw [e, nI_clamp (by omega), nI_clamp (by omega)]
  omega
theorem mlRL_19 : Cond.methodLink RL 19 yX11_street ∈ ab_G ∧ Cond.instanceMethod yX11_street ∈ ab_G ∧ Cond.selects RX11 yX11_street yX11_street ∈ ab_G := ⟨ab_in 763 (by decide +kernel) (by decide +kernel), ab_in 764 (by decide +kernel) (by decide +kernel), ab_in 765 (by decide +kernel) (by decide +kernel)⟩
theorem mlRL_23 : Cond.methodLink RL 23 yX12_street ∈ ab_G ∧ Cond.instanceMethod yX12_street ∈ ab_G ∧ Cond.selects RX12 yX12_street yX12_street ∈ ab_G := ⟨ab_in 2218 (by decide +kernel) (by decide +kernel), ab_in 2219 (by decide +kernel) (by decide +kernel), ab_in 2220 (by decide +kernel) (by decide +kernel)⟩
theorem mlRL_24 : Cond.methodLink RL 24 yX11_jam ∈ ab_G ∧ Cond.instanceMethod yX11_jam ∈ ab_G ∧ Cond.selects RX11 yX11_jam yX11_jam ∈ ab_G := ⟨ab_in 789 (by decide +kernel) (by decide +kernel), ab_in 790 (by decide +kernel) (by decide +kernel), ab_in 791 (by decide +kernel) (by decide +kernel)⟩
theorem mlRL_28 : Cond.methodLink RL 28 yX12_jam ∈ ab_G ∧ Cond.instanceMethod yX12_jam ∈ ab_G ∧ Cond.selects RX12 yX12_jam yX12_jam ∈ ab_G := ⟨ab_in 2229 (by decide +kernel) (by decide +kernel), ab_in 2230 (by decide +kernel) (by decide +kernel), ab_in 2231 (by decide +kernel) (by decide +kernel)⟩
theorem mlRL_34 : Cond.methodLink RL 34 yX11_come ∈ ab_G ∧ Cond.instanceMethod yX11_come ∈ ab_G ∧ Cond.selects RX11 yX11_come yX11_come ∈ ab_G := ⟨ab_in 800 (by decide +kernel) (by decide +kernel), ab_in 801 (by decide +kernel) (by decide +kernel), ab_in 802 (by decide +kernel) (by decide +kernel)⟩
theorem mlRL_38 : Cond.methodLink RL 38 yX12_come ∈ ab_G ∧ Cond.instanceMethod yX12_come ∈ ab_G ∧ Cond.selects RX12 yX12_come yX12_come ∈ ab_G := ⟨ab_in 2241 (by decide +kernel) (by decide +kernel), ab_in 2242 (by decide +kernel) (by decide +kernel), ab_in 2243 (by decide +kernel) (by decide +kernel)⟩
theorem mlRL_39 : Cond.methodLink RL 39 yX11_feet ∈ ab_G ∧ Cond.instanceMethod yX11_feet ∈ ab_G ∧ Cond.selects RX11 yX11_feet yX11_feet ∈ ab_G := ⟨ab_in 819 (by decide +kernel) (by decide +kernel), ab_in 820 (by decide +kernel) (by decide +kernel), ab_in 821 (by decide +kernel) (by decide +kernel)⟩
theorem mlRL_42 : Cond.methodLink RL 42 yX12_feet ∈ ab_G ∧ Cond.instanceMethod yX12_feet ∈ ab_G ∧ Cond.selects RX12 yX12_feet yX12_feet ∈ ab_G := ⟨ab_in 2252 (by decide +kernel) (by decide +kernel), ab_in 2253 (by decide +kernel) (by decide +kernel), ab_in 2254 (by decide +kernel) (by decide +kernel)⟩
theorem mlRL_43 : Cond.methodLink RL 43 yX11_house ∈ ab_G ∧ Cond.instanceMethod yX11_house ∈ ab_G ∧ Cond.selects RX11 yX11_house yX11_house ∈ ab_G := ⟨ab_in 825 (by decide +kernel) (by decide +kernel), ab_in 826 (by decide +kernel) (by decide +kernel), ab_in 827 (by decide +kernel) (by decide +kernel)⟩
theorem mlRL_47 : Cond.methodLink RL 47 yX12_house ∈ ab_G ∧ Cond.instanceMethod yX12_house ∈ ab_G ∧ Cond.selects RX12 yX12_house yX12_house ∈ ab_G := ⟨ab_in 2260 (by decide +kernel) (by decide +kernel), ab_in 2261 (by decide +kernel) (by decide +kernel), ab_in 2262 (by decide +kernel) (by decide +kernel)⟩
theorem mlRL_53 : Cond.methodLink RL 53 yX11_use ∈ ab_G ∧ Cond.instanceMethod yX11_use ∈ ab_G ∧ Cond.selects RX11 yX11_use yX11_use ∈ ab_G := ⟨ab_in 843 (by decide +kernel) (by decide +kernel), ab_in 844 (by decide +kernel) (by decide +kernel), ab_in 845 (by decide +kernel) (by decide +kernel)⟩
theorem mlRL_57 : Cond.methodLink RL 57 yX12_use ∈ ab_G ∧ Cond.instanceMethod yX12_use ∈ ab_G ∧ Cond.selects RX12 yX12_use yX12_use ∈ ab_G := ⟨ab_in 2615 (by decide +kernel) (by decide +kernel), ab_in 2616 (by decide +kernel) (by decide +kernel), ab_in 2617 (by decide +kernel) (by decide +kernel)⟩
theorem mlRL_58 : Cond.methodLink RL 58 yX11_floor ∈ ab_G ∧ Cond.instanceMethod yX11_floor ∈ ab_G ∧ Cond.selects RX11 yX11_floor yX11_floor ∈ ab_G := ⟨ab_in 851 (by decide +kernel) (by decide +kernel), ab_in 852 (by decide +kernel) (by decide +kernel), ab_in 853 (by decide +kernel) (by decide +kernel)⟩
theorem mlRL_62 : Cond.methodLink RL 62 yX12_floor ∈ ab_G ∧ Cond.instanceMethod yX12_floor ∈ ab_G ∧ Cond.selects RX12 yX12_floor yX12_floor ∈ ab_G := ⟨ab_in 2272 (by decide +kernel) (by decide +kernel), ab_in 2273 (by decide +kernel) (by decide +kernel), ab_in 2274 (by decide +kernel) (by decide +kernel)⟩
theorem mlRL_63 : Cond.methodLink RL 63 yX11_light ∈ ab_G ∧ Cond.instanceMethod yX11_light ∈ ab_G ∧ Cond.selects RX11 yX11_light yX11_light ∈ ab_G := ⟨ab_in 891 (by decide +kernel) (by decide +kernel), ab_in 892 (by decide +kernel) (by decide +kernel), ab_in 893 (by decide +kernel) (by decide +kernel)⟩
theorem mlRL_66 : Cond.methodLink RL 66 yX12_light ∈ ab_G ∧ Cond.instanceMethod yX12_light ∈ ab_G ∧ Cond.selects RX12 yX12_light yX12_light ∈ ab_G := ⟨ab_in 2304 (by decide +kernel) (by decide +kernel), ab_in 2305 (by decide +kernel) (by decide +kernel), ab_in 2306 (by decide +kernel) (by decide +kernel)⟩
theorem mlRL_67 : Cond.methodLink RL 67 yX11_room ∈ ab_G ∧ Cond.instanceMethod yX11_room ∈ ab_G ∧ Cond.selects RX11 yX11_room yX11_room ∈ ab_G := ⟨ab_in 911 (by decide +kernel) (by decide +kernel), ab_in 912 (by decide +kernel) (by decide +kernel), ab_in 913 (by decide +kernel) (by decide +kernel)⟩
theorem mlRL_70 : Cond.methodLink RL 70 yX12_room ∈ ab_G ∧ Cond.instanceMethod yX12_room ∈ ab_G ∧ Cond.selects RX12 yX12_room yX12_room ∈ ab_G := ⟨ab_in 2313 (by decide +kernel) (by decide +kernel), ab_in 2314 (by decide +kernel) (by decide +kernel), ab_in 2315 (by decide +kernel) (by decide +kernel)⟩
theorem mlRL_71 : Cond.methodLink RL 71 yX11_floored ∈ ab_G ∧ Cond.instanceMethod yX11_floored ∈ ab_G ∧ Cond.selects RX11 yX11_floored yX11_floored ∈ ab_G := ⟨ab_in 916 (by decide +kernel) (by decide +kernel), ab_in 917 (by decide +kernel) (by decide +kernel), ab_in 918 (by decide +kernel) (by decide +kernel)⟩
theorem mlRL_74 : Cond.methodLink RL 74 yX12_floored ∈ ab_G ∧ Cond.instanceMethod yX12_floored ∈ ab_G ∧ Cond.selects RX12 yX12_floored yX12_floored ∈ ab_G := ⟨ab_in 2317 (by decide +kernel) (by decide +kernel), ab_in 2318 (by decide +kernel) (by decide +kernel), ab_in 2319 (by decide +kernel) (by decide +kernel)⟩
theorem mlRL_75 : Cond.methodLink RL 75 yX11_housed ∈ ab_G ∧ Cond.instanceMethod yX11_housed ∈ ab_G ∧ Cond.selects RX11 yX11_housed yX11_housed ∈ ab_G := ⟨ab_in 925 (by decide +kernel) (by decide +kernel), ab_in 926 (by decide +kernel) (by decide +kernel), ab_in 927 (by decide +kernel) (by decide +kernel)⟩
theorem mlRL_78 : Cond.methodLink RL 78 yX12_housed ∈ ab_G ∧ Cond.instanceMethod yX12_housed ∈ ab_G ∧ Cond.selects RX12 yX12_housed yX12_housed ∈ ab_G := ⟨ab_in 2325 (by decide +kernel) (by decide +kernel), ab_in 2326 (by decide +kernel) (by decide +kernel), ab_in 2327 (by decide +kernel) (by decide +kernel)⟩
theorem mlRL_79 : Cond.methodLink RL 79 yX11_main ∈ ab_G ∧ Cond.instanceMethod yX11_main ∈ ab_G ∧ Cond.selects RX11 yX11_main yX11_main ∈ ab_G := ⟨ab_in 943 (by decide +kernel) (by decide +kernel), ab_in 944 (by decide +kernel) (by decide +kernel), ab_in 945 (by decide +kernel) (by decide +kernel)⟩
theorem mlRL_83 : Cond.methodLink RL 83 yX12_main ∈ ab_G ∧ Cond.instanceMethod yX12_main ∈ ab_G ∧ Cond.selects RX12 yX12_main yX12_main ∈ ab_G := ⟨ab_in 2333 (by decide +kernel) (by decide +kernel), ab_in 2334 (by decide +kernel) (by decide +kernel), ab_in 2335 (by decide +kernel) (by decide +kernel)⟩
theorem mlRL_84 : Cond.methodLink RL 84 yX11_head ∈ ab_G ∧ Cond.instanceMethod yX11_head ∈ ab_G ∧ Cond.selects RX11 yX11_head yX11_head ∈ ab_G := ⟨ab_in 951 (by decide +kernel) (by decide +kernel), ab_in 952 (by decide +kernel) (by decide +kernel), ab_in 953 (by decide +kernel) (by decide +kernel)⟩
theorem mlRL_87 : Cond.methodLink RL 87 yX12_head ∈ ab_G ∧ Cond.instanceMethod yX12_head ∈ ab_G ∧ Cond.selects RX12 yX12_head yX12_head ∈ ab_G := ⟨ab_in 2337 (by decide +kernel) (by decide +kernel), ab_in 2338 (by decide +kernel) (by decide +kernel), ab_in 2339 (by decide +kernel) (by decide +kernel)⟩
theorem mlRL_93 : Cond.methodLink RL 93 yX11_gear ∈ ab_G ∧ Cond.instanceMethod yX11_gear ∈ ab_G ∧ Cond.selects RX11 yX11_gear yX11_gear ∈ ab_G := ⟨ab_in 975 (by decide +kernel) (by decide +kernel), ab_in 976 (by decide +kernel) (by decide +kernel), ab_in 977 (by decide +kernel) (by decide +kernel)⟩
theorem mlRL_96 : Cond.methodLink RL 96 yX12_gear ∈ ab_G ∧ Cond.instanceMethod yX12_gear ∈ ab_G ∧ Cond.selects RX12 yX12_gear yX12_gear ∈ ab_G := ⟨ab_in 2345 (by decide +kernel) (by decide +kernel), ab_in 2346 (by decide +kernel) (by decide +kernel), ab_in 2347 (by decide +kernel) (by decide +kernel)⟩
theorem mlRL_97 : Cond.methodLink RL 97 yX11_heal ∈ ab_G ∧ Cond.instanceMethod yX11_heal ∈ ab_G ∧ Cond.selects RX11 yX11_heal yX11_heal ∈ ab_G := ⟨ab_in 989 (by decide +kernel) (by decide +kernel), ab_in 990 (by decide +kernel) (by decide +kernel), ab_in 991 (by decide +kernel) (by decide +kernel)⟩
theorem mlRL_101 : Cond.methodLink RL 101 yX12_heal ∈ ab_G ∧ Cond.instanceMethod yX12_heal ∈ ab_G ∧ Cond.selects RX12 yX12_heal yX12_heal ∈ ab_G := ⟨ab_in 2353 (by decide +kernel) (by decide +kernel), ab_in 2354 (by decide +kernel) (by decide +kernel), ab_in 2355 (by decide +kernel) (by decide +kernel)⟩
theorem mlRL_102 : Cond.methodLink RL 102 yX11_recall ∈ ab_G ∧ Cond.instanceMethod yX11_recall ∈ ab_G ∧ Cond.selects RX11 yX11_recall yX11_recall ∈ ab_G := ⟨ab_in 1001 (by decide +kernel) (by decide +kernel), ab_in 1002 (by decide +kernel) (by decide +kernel), ab_in 1003 (by decide +kernel) (by decide +kernel)⟩
theorem mlRL_105 : Cond.methodLink RL 105 yX12_recall ∈ ab_G ∧ Cond.instanceMethod yX12_recall ∈ ab_G ∧ Cond.selects RX12 yX12_recall yX12_recall ∈ ab_G := ⟨ab_in 2361 (by decide +kernel) (by decide +kernel), ab_in 2362 (by decide +kernel) (by decide +kernel), ab_in 2363 (by decide +kernel) (by decide +kernel)⟩
theorem mlRL_111 : Cond.methodLink RL 111 yX12_about ∈ ab_G ∧ Cond.instanceMethod yX12_about ∈ ab_G ∧ Cond.selects RX12 yX12_about yX12_about ∈ ab_G := ⟨ab_in 2373 (by decide +kernel) (by decide +kernel), ab_in 2374 (by decide +kernel) (by decide +kernel), ab_in 2375 (by decide +kernel) (by decide +kernel)⟩
theorem mlRL_112 : Cond.methodLink RL 112 yX12_thrown ∈ ab_G ∧ Cond.instanceMethod yX12_thrown ∈ ab_G ∧ Cond.selects RX12 yX12_thrown yX12_thrown ∈ ab_G := ⟨ab_in 2214 (by decide +kernel) (by decide +kernel), ab_in 2215 (by decide +kernel) (by decide +kernel), ab_in 2216 (by decide +kernel) (by decide +kernel)⟩
theorem mlRL_116 : Cond.methodLink RL 116 yX11_reach ∈ ab_G ∧ Cond.instanceMethod yX11_reach ∈ ab_G ∧ Cond.selects RX11 yX11_reach yX11_reach ∈ ab_G := ⟨ab_in 1023 (by decide +kernel) (by decide +kernel), ab_in 1024 (by decide +kernel) (by decide +kernel), ab_in 1025 (by decide +kernel) (by decide +kernel)⟩
theorem mlRL_119 : Cond.methodLink RL 119 yX12_reach ∈ ab_G ∧ Cond.instanceMethod yX12_reach ∈ ab_G ∧ Cond.selects RX12 yX12_reach yX12_reach ∈ ab_G := ⟨ab_in 2377 (by decide +kernel) (by decide +kernel), ab_in 2378 (by decide +kernel) (by decide +kernel), ab_in 2379 (by decide +kernel) (by decide +kernel)⟩
theorem mlRL_120 : Cond.methodLink RL 120 yX11_call ∈ ab_G ∧ Cond.instanceMethod yX11_call ∈ ab_G ∧ Cond.selects RX11 yX11_call yX11_call ∈ ab_G := ⟨ab_in 1039 (by decide +kernel) (by decide +kernel), ab_in 1040 (by decide +kernel) (by decide +kernel), ab_in 1041 (by decide +kernel) (by decide +kernel)⟩
theorem mlRL_123 : Cond.methodLink RL 123 yX12_call ∈ ab_G ∧ Cond.instanceMethod yX12_call ∈ ab_G ∧ Cond.selects RX12 yX12_call yX12_call ∈ ab_G := ⟨ab_in 2515 (by decide +kernel) (by decide +kernel), ab_in 2516 (by decide +kernel) (by decide +kernel), ab_in 2517 (by decide +kernel) (by decide +kernel)⟩
theorem mlRL_124 : Cond.methodLink RL 124 yX11_called ∈ ab_G ∧ Cond.instanceMethod yX11_called ∈ ab_G ∧ Cond.selects RX11 yX11_called yX11_called ∈ ab_G := ⟨ab_in 1143 (by decide +kernel) (by decide +kernel), ab_in 1144 (by decide +kernel) (by decide +kernel), ab_in 1145 (by decide +kernel) (by decide +kernel)⟩
theorem mlRL_127 : Cond.methodLink RL 127 yX12_called ∈ ab_G ∧ Cond.instanceMethod yX12_called ∈ ab_G ∧ Cond.selects RX12 yX12_called yX12_called ∈ ab_G := ⟨ab_in 2535 (by decide +kernel) (by decide +kernel), ab_in 2536 (by decide +kernel) (by decide +kernel), ab_in 2537 (by decide +kernel) (by decide +kernel)⟩
theorem mlRL_128 : Cond.methodLink RL 128 yX11_falses ∈ ab_G ∧ Cond.instanceMethod yX11_falses ∈ ab_G ∧ Cond.selects RX11 yX11_falses yX11_falses ∈ ab_G := ⟨ab_in 1147 (by decide +kernel) (by decide +kernel), ab_in 1148 (by decide +kernel) (by decide +kernel), ab_in 1149 (by decide +kernel) (by decide +kernel)⟩
theorem mlRL_131 : Cond.methodLink RL 131 yX12_falses ∈ ab_G ∧ Cond.instanceMethod yX12_falses ∈ ab_G ∧ Cond.selects RX12 yX12_falses yX12_falses ∈ ab_G := ⟨ab_in 2491 (by decide +kernel) (by decide +kernel), ab_in 2492 (by decide +kernel) (by decide +kernel), ab_in 2493 (by decide +kernel) (by decide +kernel)⟩
theorem mlRL_132 : Cond.methodLink RL 132 yX11_feed ∈ ab_G ∧ Cond.instanceMethod yX11_feed ∈ ab_G ∧ Cond.selects RX11 yX11_feed yX11_feed ∈ ab_G := ⟨ab_in 1152 (by decide +kernel) (by decide +kernel), ab_in 1153 (by decide +kernel) (by decide +kernel), ab_in 1154 (by decide +kernel) (by decide +kernel)⟩
theorem mlRL_135 : Cond.methodLink RL 135 yX12_feed ∈ ab_G ∧ Cond.instanceMethod yX12_feed ∈ ab_G ∧ Cond.selects RX12 yX12_feed yX12_feed ∈ ab_G := ⟨ab_in 2389 (by decide +kernel) (by decide +kernel), ab_in 2390 (by decide +kernel) (by decide +kernel), ab_in 2391 (by decide +kernel) (by decide +kernel)⟩
theorem mlRL_136 : Cond.methodLink RL 136 yX11_end ∈ ab_G ∧ Cond.instanceMethod yX11_end ∈ ab_G ∧ Cond.selects RX11 yX11_end yX11_end ∈ ab_G := ⟨ab_in 1163 (by decide +kernel) (by decide +kernel), ab_in 1164 (by decide +kernel) (by decide +kernel), ab_in 1165 (by decide +kernel) (by decide +kernel)⟩
theorem mlRL_139 : Cond.methodLink RL 139 yX12_end ∈ ab_G ∧ Cond.instanceMethod yX12_end ∈ ab_G ∧ Cond.selects RX12 yX12_end yX12_end ∈ ab_G := ⟨ab_in 2400 (by decide +kernel) (by decide +kernel), ab_in 2401 (by decide +kernel) (by decide +kernel), ab_in 2402 (by decide +kernel) (by decide +kernel)⟩
theorem mlRL_140 : Cond.methodLink RL 140 yX11_fault ∈ ab_G ∧ Cond.instanceMethod yX11_fault ∈ ab_G ∧ Cond.selects RX11 yX11_fault yX11_fault ∈ ab_G := ⟨ab_in 1167 (by decide +kernel) (by decide +kernel), ab_in 1168 (by decide +kernel) (by decide +kernel), ab_in 1169 (by decide +kernel) (by decide +kernel)⟩
theorem mlRL_143 : Cond.methodLink RL 143 yX12_fault ∈ ab_G ∧ Cond.instanceMethod yX12_fault ∈ ab_G ∧ Cond.selects RX12 yX12_fault yX12_fault ∈ ab_G := ⟨ab_in 2404 (by decide +kernel) (by decide +kernel), ab_in 2405 (by decide +kernel) (by decide +kernel), ab_in 2406 (by decide +kernel) (by decide +kernel)⟩
theorem mlRL_144 : Cond.methodLink RL 144 yX11_orders ∈ ab_G ∧ Cond.instanceMethod yX11_orders ∈ ab_G ∧ Cond.selects RX11 yX11_orders yX11_orders ∈ ab_G := ⟨ab_in 1323 (by decide +kernel) (by decide +kernel), ab_in 1324 (by decide +kernel) (by decide +kernel), ab_in 1325 (by decide +kernel) (by decide +kernel)⟩
theorem mlRL_147 : Cond.methodLink RL 147 yX12_orders ∈ ab_G ∧ Cond.instanceMethod yX12_orders ∈ ab_G ∧ Cond.selects RX12 yX12_orders yX12_orders ∈ ab_G := ⟨ab_in 2478 (by decide +kernel) (by decide +kernel), ab_in 2479 (by decide +kernel) (by decide +kernel), ab_in 2480 (by decide +kernel) (by decide +kernel)⟩
theorem mlRL_148 : Cond.methodLink RL 148 yX11_leaving ∈ ab_G ∧ Cond.instanceMethod yX11_leaving ∈ ab_G ∧ Cond.selects RX11 yX11_leaving yX11_leaving ∈ ab_G := ⟨ab_in 1338 (by decide +kernel) (by decide +kernel), ab_in 1339 (by decide +kernel) (by decide +kernel), ab_in 1340 (by decide +kernel) (by decide +kernel)⟩
theorem mlRL_152 : Cond.methodLink RL 152 yX12_leaving ∈ ab_G ∧ Cond.instanceMethod yX12_leaving ∈ ab_G ∧ Cond.selects RX12 yX12_leaving yX12_leaving ∈ ab_G := ⟨ab_in 2483 (by decide +kernel) (by decide +kernel), ab_in 2484 (by decide +kernel) (by decide +kernel), ab_in 2485 (by decide +kernel) (by decide +kernel)⟩
theorem mlRL_153 : Cond.methodLink RL 153 yX11_asks ∈ ab_G ∧ Cond.instanceMethod yX11_asks ∈ ab_G ∧ Cond.selects RX11 yX11_asks yX11_asks ∈ ab_G := ⟨ab_in 1342 (by decide +kernel) (by decide +kernel), ab_in 1343 (by decide +kernel) (by decide +kernel), ab_in 1344 (by decide +kernel) (by decide +kernel)⟩
theorem mlRL_156 : Cond.methodLink RL 156 yX12_asks ∈ ab_G ∧ Cond.instanceMethod yX12_asks ∈ ab_G ∧ Cond.selects RX12 yX12_asks yX12_asks ∈ ab_G := ⟨ab_in 2499 (by decide +kernel) (by decide +kernel), ab_in 2500 (by decide +kernel) (by decide +kernel), ab_in 2501 (by decide +kernel) (by decide +kernel)⟩
theorem mlRL_157 : Cond.methodLink RL 157 yX11_why ∈ ab_G ∧ Cond.instanceMethod yX11_why ∈ ab_G ∧ Cond.selects RX11 yX11_why yX11_why ∈ ab_G := ⟨ab_in 1347 (by decide +kernel) (by decide +kernel), ab_in 1348 (by decide +kernel) (by decide +kernel), ab_in 1349 (by decide +kernel) (by decide +kernel)⟩
theorem mlRL_160 : Cond.methodLink RL 160 yX12_why ∈ ab_G ∧ Cond.instanceMethod yX12_why ∈ ab_G ∧ Cond.selects RX12 yX12_why yX12_why ∈ ab_G := ⟨ab_in 2511 (by decide +kernel) (by decide +kernel), ab_in 2512 (by decide +kernel) (by decide +kernel), ab_in 2513 (by decide +kernel) (by decide +kernel)⟩
theorem mlRL_161 : Cond.methodLink RL 161 yX11_tick ∈ ab_G ∧ Cond.instanceMethod yX11_tick ∈ ab_G ∧ Cond.selects RX11 yX11_tick yX11_tick ∈ ab_G := ⟨ab_in 1351 (by decide +kernel) (by decide +kernel), ab_in 1352 (by decide +kernel) (by decide +kernel), ab_in 1353 (by decide +kernel) (by decide +kernel)⟩
theorem mlRL_164 : Cond.methodLink RL 164 yX12_tick ∈ ab_G ∧ Cond.instanceMethod yX12_tick ∈ ab_G ∧ Cond.selects RX12 yX12_tick yX12_tick ∈ ab_G := ⟨ab_in 2539 (by decide +kernel) (by decide +kernel), ab_in 2540 (by decide +kernel) (by decide +kernel), ab_in 2541 (by decide +kernel) (by decide +kernel)⟩
theorem mlRL_165 : Cond.methodLink RL 165 yX11_act ∈ ab_G ∧ Cond.instanceMethod yX11_act ∈ ab_G ∧ Cond.selects RX11 yX11_act yX11_act ∈ ab_G := ⟨ab_in 1511 (by decide +kernel) (by decide +kernel), ab_in 1512 (by decide +kernel) (by decide +kernel), ab_in 1513 (by decide +kernel) (by decide +kernel)⟩
theorem mlRL_168 : Cond.methodLink RL 168 yX12_act ∈ ab_G ∧ Cond.instanceMethod yX12_act ∈ ab_G ∧ Cond.selects RX12 yX12_act yX12_act ∈ ab_G := ⟨ab_in 2487 (by decide +kernel) (by decide +kernel), ab_in 2488 (by decide +kernel) (by decide +kernel), ab_in 2489 (by decide +kernel) (by decide +kernel)⟩
theorem mlRL_169 : Cond.methodLink RL 169 yX11_force ∈ ab_G ∧ Cond.instanceMethod yX11_force ∈ ab_G ∧ Cond.selects RX11 yX11_force yX11_force ∈ ab_G := ⟨ab_in 1519 (by decide +kernel) (by decide +kernel), ab_in 1520 (by decide +kernel) (by decide +kernel), ab_in 1521 (by decide +kernel) (by decide +kernel)⟩
theorem mlRL_172 : Cond.methodLink RL 172 yX12_force ∈ ab_G ∧ Cond.instanceMethod yX12_force ∈ ab_G ∧ Cond.selects RX12 yX12_force yX12_force ∈ ab_G := ⟨ab_in 2607 (by decide +kernel) (by decide +kernel), ab_in 2608 (by decide +kernel) (by decide +kernel), ab_in 2609 (by decide +kernel) (by decide +kernel)⟩
theorem mlRL_173 : Cond.methodLink RL 173 yX11_change ∈ ab_G ∧ Cond.instanceMethod yX11_change ∈ ab_G ∧ Cond.selects RX11 yX11_change yX11_change ∈ ab_G := ⟨ab_in 1531 (by decide +kernel) (by decide +kernel), ab_in 1532 (by decide +kernel) (by decide +kernel), ab_in 1533 (by decide +kernel) (by decide +kernel)⟩
theorem mlRL_176 : Cond.methodLink RL 176 yX12_change ∈ ab_G ∧ Cond.instanceMethod yX12_change ∈ ab_G ∧ Cond.selects RX12 yX12_change yX12_change ∈ ab_G := ⟨ab_in 2619 (by decide +kernel) (by decide +kernel), ab_in 2620 (by decide +kernel) (by decide +kernel), ab_in 2621 (by decide +kernel) (by decide +kernel)⟩
theorem mlRL_177 : Cond.methodLink RL 177 yX11_used ∈ ab_G ∧ Cond.instanceMethod yX11_used ∈ ab_G ∧ Cond.selects RX11 yX11_used yX11_used ∈ ab_G := ⟨ab_in 1539 (by decide +kernel) (by decide +kernel), ab_in 1540 (by decide +kernel) (by decide +kernel), ab_in 1541 (by decide +kernel) (by decide +kernel)⟩
theorem mlRL_180 : Cond.methodLink RL 180 yX12_used ∈ ab_G ∧ Cond.instanceMethod yX12_used ∈ ab_G ∧ Cond.selects RX12 yX12_used yX12_used ∈ ab_G := ⟨ab_in 2631 (by decide +kernel) (by decide +kernel), ab_in 2632 (by decide +kernel) (by decide +kernel), ab_in 2633 (by decide +kernel) (by decide +kernel)⟩
theorem mlRL_181 : Cond.methodLink RL 181 yX11_look ∈ ab_G ∧ Cond.instanceMethod yX11_look ∈ ab_G ∧ Cond.selects RX11 yX11_look yX11_look ∈ ab_G := ⟨ab_in 1547 (by decide +kernel) (by decide +kernel), ab_in 1548 (by decide +kernel) (by decide +kernel), ab_in 1549 (by decide +kernel) (by decide +kernel)⟩
theorem mlRL_184 : Cond.methodLink RL 184 yX12_look_ ∈ ab_G ∧ Cond.instanceMethod yX12_look_ ∈ ab_G ∧ Cond.selects RX12 yX12_look_ yX12_look_ ∈ ab_G := ⟨ab_in 2627 (by decide +kernel) (by decide +kernel), ab_in 2628 (by decide +kernel) (by decide +kernel), ab_in 2629 (by decide +kernel) (by decide +kernel)⟩
theorem mlRL_185 : Cond.methodLink RL 185 yX11_fails ∈ ab_G ∧ Cond.instanceMethod yX11_fails ∈ ab_G ∧ Cond.selects RX11 yX11_fails yX11_fails ∈ ab_G := ⟨ab_in 1551 (by decide +kernel) (by decide +kernel), ab_in 1552 (by decide +kernel) (by decide +kernel), ab_in 1553 (by decide +kernel) (by decide +kernel)⟩
theorem mlRL_188 : Cond.methodLink RL 188 yX12_fails ∈ ab_G ∧ Cond.instanceMethod yX12_fails ∈ ab_G ∧ Cond.selects RX12 yX12_fails yX12_fails ∈ ab_G := ⟨ab_in 2639 (by decide +kernel) (by decide +kernel), ab_in 2640 (by decide +kernel) (by decide +kernel), ab_in 2641 (by decide +kernel) (by decide +kernel)⟩
theorem mlRL_189 : Cond.methodLink RL 189 yX11_code ∈ ab_G ∧ Cond.instanceMethod yX11_code ∈ ab_G ∧ Cond.selects RX11 yX11_code yX11_code ∈ ab_G := ⟨ab_in 1576 (by decide +kernel) (by decide +kernel), ab_in 1577 (by decide +kernel) (by decide +kernel), ab_in 1578 (by decide +kernel) (by decide +kernel)⟩
theorem mlRL_192 : Cond.methodLink RL 192 yX12_code ∈ ab_G ∧ Cond.instanceMethod yX12_code ∈ ab_G ∧ Cond.selects RX12 yX12_code yX12_code ∈ ab_G := ⟨ab_in 2651 (by decide +kernel) (by decide +kernel), ab_in 2652 (by decide +kernel) (by decide +kernel), ab_in 2653 (by decide +kernel) (by decide +kernel)⟩
theorem mlRL_193 : Cond.methodLink RL 193 yX11_failing ∈ ab_G ∧ Cond.instanceMethod yX11_failing ∈ ab_G ∧ Cond.selects RX11 yX11_failing yX11_failing ∈ ab_G := ⟨ab_in 1585 (by decide +kernel) (by decide +kernel), ab_in 1586 (by decide +kernel) (by decide +kernel), ab_in 1587 (by decide +kernel) (by decide +kernel)⟩
theorem mlRL_196 : Cond.methodLink RL 196 yX12_failing ∈ ab_G ∧ Cond.instanceMethod yX12_failing ∈ ab_G ∧ Cond.selects RX12 yX12_failing yX12_failing ∈ ab_G := ⟨ab_in 2655 (by decide +kernel) (by decide +kernel), ab_in 2656 (by decide +kernel) (by decide +kernel), ab_in 2657 (by decide +kernel) (by decide +kernel)⟩
theorem mlRL_197 : Cond.methodLink RL 197 yX11_round ∈ ab_G ∧ Cond.instanceMethod yX11_round ∈ ab_G ∧ Cond.selects RX11 yX11_round yX11_round ∈ ab_G := ⟨ab_in 1589 (by decide +kernel) (by decide +kernel), ab_in 1590 (by decide +kernel) (by decide +kernel), ab_in 1591 (by decide +kernel) (by decide +kernel)⟩
theorem mlRL_200 : Cond.methodLink RL 200 yX12_round ∈ ab_G ∧ Cond.instanceMethod yX12_round ∈ ab_G ∧ Cond.selects RX12 yX12_round yX12_round ∈ ab_G := ⟨ab_in 2659 (by decide +kernel) (by decide +kernel), ab_in 2660 (by decide +kernel) (by decide +kernel), ab_in 2661 (by decide +kernel) (by decide +kernel)⟩
theorem mlRL_201 : Cond.methodLink RL 201 yX11_rounded ∈ ab_G ∧ Cond.instanceMethod yX11_rounded ∈ ab_G ∧ Cond.selects RX11 yX11_rounded yX11_rounded ∈ ab_G := ⟨ab_in 1642 (by decide +kernel) (by decide +kernel), ab_in 1643 (by decide +kernel) (by decide +kernel), ab_in 1644 (by decide +kernel) (by decide +kernel)⟩
theorem mlRL_204 : Cond.methodLink RL 204 yX12_rounded ∈ ab_G ∧ Cond.instanceMethod yX12_rounded ∈ ab_G ∧ Cond.selects RX12 yX12_rounded yX12_rounded ∈ ab_G := ⟨ab_in 2671 (by decide +kernel) (by decide +kernel), ab_in 2672 (by decide +kernel) (by decide +kernel), ab_in 2673 (by decide +kernel) (by decide +kernel)⟩
theorem mlRL_205 : Cond.methodLink RL 205 yX11_plan ∈ ab_G ∧ Cond.instanceMethod yX11_plan ∈ ab_G ∧ Cond.selects RX11 yX11_plan yX11_plan ∈ ab_G := ⟨ab_in 1646 (by decide +kernel) (by decide +kernel), ab_in 1647 (by decide +kernel) (by decide +kernel), ab_in 1648 (by decide +kernel) (by decide +kernel)⟩
theorem mlRL_208 : Cond.methodLink RL 208 yX12_plan ∈ ab_G ∧ Cond.instanceMethod yX12_plan ∈ ab_G ∧ Cond.selects RX12 yX12_plan yX12_plan ∈ ab_G := ⟨ab_in 2675 (by decide +kernel) (by decide +kernel), ab_in 2676 (by decide +kernel) (by decide +kernel), ab_in 2677 (by decide +kernel) (by decide +kernel)⟩
theorem mlRL_209 : Cond.methodLink RL 209 yX11_planned ∈ ab_G ∧ Cond.instanceMethod yX11_planned ∈ ab_G ∧ Cond.selects RX11 yX11_planned yX11_planned ∈ ab_G := ⟨ab_in 1677 (by decide +kernel) (by decide +kernel), ab_in 1678 (by decide +kernel) (by decide +kernel), ab_in 1679 (by decide +kernel) (by decide +kernel)⟩
theorem mlRL_212 : Cond.methodLink RL 212 yX12_planned ∈ ab_G ∧ Cond.instanceMethod yX12_planned ∈ ab_G ∧ Cond.selects RX12 yX12_planned yX12_planned ∈ ab_G := ⟨ab_in 2691 (by decide +kernel) (by decide +kernel), ab_in 2692 (by decide +kernel) (by decide +kernel), ab_in 2693 (by decide +kernel) (by decide +kernel)⟩
theorem mlRL_213 : Cond.methodLink RL 213 yX11_row ∈ ab_G ∧ Cond.instanceMethod yX11_row ∈ ab_G ∧ Cond.selects RX11 yX11_row yX11_row ∈ ab_G := ⟨ab_in 1684 (by decide +kernel) (by decide +kernel), ab_in 1685 (by decide +kernel) (by decide +kernel), ab_in 1686 (by decide +kernel) (by decide +kernel)⟩
theorem mlRL_216 : Cond.methodLink RL 216 yX12_row ∈ ab_G ∧ Cond.instanceMethod yX12_row ∈ ab_G ∧ Cond.selects RX12 yX12_row yX12_row ∈ ab_G := ⟨ab_in 2695 (by decide +kernel) (by decide +kernel), ab_in 2696 (by decide +kernel) (by decide +kernel), ab_in 2697 (by decide +kernel) (by decide +kernel)⟩
theorem mlRL_217 : Cond.methodLink RL 217 yX11_put ∈ ab_G ∧ Cond.instanceMethod yX11_put ∈ ab_G ∧ Cond.selects RX11 yX11_put yX11_put ∈ ab_G := ⟨ab_in 1688 (by decide +kernel) (by decide +kernel), ab_in 1689 (by decide +kernel) (by decide +kernel), ab_in 1690 (by decide +kernel) (by decide +kernel)⟩
theorem mlRL_220 : Cond.methodLink RL 220 yX12_put ∈ ab_G ∧ Cond.instanceMethod yX12_put ∈ ab_G ∧ Cond.selects RX12 yX12_put yX12_put ∈ ab_G := ⟨ab_in 2699 (by decide +kernel) (by decide +kernel), ab_in 2700 (by decide +kernel) (by decide +kernel), ab_in 2701 (by decide +kernel) (by decide +kernel)⟩
theorem mlRL_221 : Cond.methodLink RL 221 yX11_lose ∈ ab_G ∧ Cond.instanceMethod yX11_lose ∈ ab_G ∧ Cond.selects RX11 yX11_lose yX11_lose ∈ ab_G := ⟨ab_in 1700 (by decide +kernel) (by decide +kernel), ab_in 1701 (by decide +kernel) (by decide +kernel), ab_in 1702 (by decide +kernel) (by decide +kernel)⟩
theorem mlRL_224 : Cond.methodLink RL 224 yX12_lose ∈ ab_G ∧ Cond.instanceMethod yX12_lose ∈ ab_G ∧ Cond.selects RX12 yX12_lose yX12_lose ∈ ab_G := ⟨ab_in 2710 (by decide +kernel) (by decide +kernel), ab_in 2711 (by decide +kernel) (by decide +kernel), ab_in 2712 (by decide +kernel) (by decide +kernel)⟩
theorem mlRL_225 : Cond.methodLink RL 225 yX11_copy ∈ ab_G ∧ Cond.instanceMethod yX11_copy ∈ ab_G ∧ Cond.selects RX11 yX11_copy yX11_copy ∈ ab_G := ⟨ab_in 1704 (by decide +kernel) (by decide +kernel), ab_in 1705 (by decide +kernel) (by decide +kernel), ab_in 1706 (by decide +kernel) (by decide +kernel)⟩
theorem mlRL_228 : Cond.methodLink RL 228 yX12_copy ∈ ab_G ∧ Cond.instanceMethod yX12_copy ∈ ab_G ∧ Cond.selects RX12 yX12_copy yX12_copy ∈ ab_G := ⟨ab_in 2714 (by decide +kernel) (by decide +kernel), ab_in 2715 (by decide +kernel) (by decide +kernel), ab_in 2716 (by decide +kernel) (by decide +kernel)⟩
theorem mlRL_229 : Cond.methodLink RL 229 yX11_judge ∈ ab_G ∧ Cond.instanceMethod yX11_judge ∈ ab_G ∧ Cond.selects RX11 yX11_judge yX11_judge ∈ ab_G := ⟨ab_in 1709 (by decide +kernel) (by decide +kernel), ab_in 1710 (by decide +kernel) (by decide +kernel), ab_in 1711 (by decide +kernel) (by decide +kernel)⟩
theorem mlRL_233 : Cond.methodLink RL 233 yX12_judge ∈ ab_G ∧ Cond.instanceMethod yX12_judge ∈ ab_G ∧ Cond.selects RX12 yX12_judge yX12_judge ∈ ab_G := ⟨ab_in 2721 (by decide +kernel) (by decide +kernel), ab_in 2722 (by decide +kernel) (by decide +kernel), ab_in 2723 (by decide +kernel) (by decide +kernel)⟩
theorem mlRL_234 : Cond.methodLink RL 234 yX11_loss ∈ ab_G ∧ Cond.instanceMethod yX11_loss ∈ ab_G ∧ Cond.selects RX11 yX11_loss yX11_loss ∈ ab_G := ⟨ab_in 1731 (by decide +kernel) (by decide +kernel), ab_in 1732 (by decide +kernel) (by decide +kernel), ab_in 1733 (by decide +kernel) (by decide +kernel)⟩
theorem mlRL_238 : Cond.methodLink RL 238 yX12_loss ∈ ab_G ∧ Cond.instanceMethod yX12_loss ∈ ab_G ∧ Cond.selects RX12 yX12_loss yX12_loss ∈ ab_G := ⟨ab_in 2738 (by decide +kernel) (by decide +kernel), ab_in 2739 (by decide +kernel) (by decide +kernel), ab_in 2740 (by decide +kernel) (by decide +kernel)⟩
theorem mlRL_239 : Cond.methodLink RL 239 yX11_what ∈ ab_G ∧ Cond.instanceMethod yX11_what ∈ ab_G ∧ Cond.selects RX11 yX11_what yX11_what ∈ ab_G := ⟨ab_in 1735 (by decide +kernel) (by decide +kernel), ab_in 1736 (by decide +kernel) (by decide +kernel), ab_in 1737 (by decide +kernel) (by decide +kernel)⟩
theorem mlRL_242 : Cond.methodLink RL 242 yX12_what ∈ ab_G ∧ Cond.instanceMethod yX12_what ∈ ab_G ∧ Cond.selects RX12 yX12_what yX12_what ∈ ab_G := ⟨ab_in 2742 (by decide +kernel) (by decide +kernel), ab_in 2743 (by decide +kernel) (by decide +kernel), ab_in 2744 (by decide +kernel) (by decide +kernel)⟩
theorem mlRL_243 : Cond.methodLink RL 243 yX11_count ∈ ab_G ∧ Cond.instanceMethod yX11_count ∈ ab_G ∧ Cond.selects RX11 yX11_count yX11_count ∈ ab_G := ⟨ab_in 1750 (by decide +kernel) (by decide +kernel), ab_in 1751 (by decide +kernel) (by decide +kernel), ab_in 1752 (by decide +kernel) (by decide +kernel)⟩
theorem mlRL_246 : Cond.methodLink RL 246 yX12_count ∈ ab_G ∧ Cond.instanceMethod yX12_count ∈ ab_G ∧ Cond.selects RX12 yX12_count yX12_count ∈ ab_G := ⟨ab_in 2746 (by decide +kernel) (by decide +kernel), ab_in 2747 (by decide +kernel) (by decide +kernel), ab_in 2748 (by decide +kernel) (by decide +kernel)⟩
theorem mlRL_29 : Cond.methodLink RL 29 yX11_closed ∈ ab_G ∧ Cond.instanceMethod yX11_closed ∈ ab_G ∧ Cond.selects RX11 yX11_closed yX11_closed ∈ ab_G := ⟨ab_in 796 (by decide +kernel) (by decide +kernel), ab_in 797 (by decide +kernel) (by decide +kernel), ab_in 798 (by decide +kernel) (by decide +kernel)⟩
theorem mlRL_33 : Cond.methodLink RL 33 yX12_closed ∈ ab_G ∧ Cond.instanceMethod yX12_closed ∈ ab_G ∧ Cond.selects RX12 yX12_closed yX12_closed ∈ ab_G := ⟨ab_in 2237 (by decide +kernel) (by decide +kernel), ab_in 2238 (by decide +kernel) (by decide +kernel), ab_in 2239 (by decide +kernel) (by decide +kernel)⟩
theorem mlRL_48 : Cond.methodLink RL 48 yX11_build ∈ ab_G ∧ Cond.instanceMethod yX11_build ∈ ab_G ∧ Cond.selects RX11 yX11_build yX11_build ∈ ab_G := ⟨ab_in 838 (by decide +kernel) (by decide +kernel), ab_in 839 (by decide +kernel) (by decide +kernel), ab_in 840 (by decide +kernel) (by decide +kernel)⟩
theorem mlRL_52 : Cond.methodLink RL 52 yX12_build ∈ ab_G ∧ Cond.instanceMethod yX12_build ∈ ab_G ∧ Cond.selects RX12 yX12_build yX12_build ∈ ab_G := ⟨ab_in 2264 (by decide +kernel) (by decide +kernel), ab_in 2265 (by decide +kernel) (by decide +kernel), ab_in 2266 (by decide +kernel) (by decide +kernel)⟩
theorem mlRL_88 : Cond.methodLink RL 88 yX11_crew ∈ ab_G ∧ Cond.instanceMethod yX11_crew ∈ ab_G ∧ Cond.selects RX11 yX11_crew yX11_crew ∈ ab_G := ⟨ab_in 959 (by decide +kernel) (by decide +kernel), ab_in 960 (by decide +kernel) (by decide +kernel), ab_in 961 (by decide +kernel) (by decide +kernel)⟩
theorem mlRL_92 : Cond.methodLink RL 92 yX12_crew ∈ ab_G ∧ Cond.instanceMethod yX12_crew ∈ ab_G ∧ Cond.selects RX12 yX12_crew yX12_crew ∈ ab_G := ⟨ab_in 2341 (by decide +kernel) (by decide +kernel), ab_in 2342 (by decide +kernel) (by decide +kernel), ab_in 2343 (by decide +kernel) (by decide +kernel)⟩
set_option maxHeartbeats 8000000 in
set_option maxRecDepth 100000 in
def wL_law_407 (v4 : Int32) (s0 : Int32) (s2 : Int32) (s3 : Int32) (x : ab_X) (L : Nat) (xs : Nat → Int32) (L23 : Int32 → ab_X → Prop) : Prop := wX12_closed s2 s3 x (fun r422 x423 => (s0 = r422 ∧ L23 (v4 + 6) x423))
set_option maxHeartbeats 8000000 in
set_option maxRecDepth 100000 in
theorem sL_law_407 (v4 : Int32) (s0 : Int32) (s2 : Int32) (s3 : Int32) (x : ab_X) (L : Nat) (xs : Nat → Int32) (L23 : Int32 → ab_X → Prop) (hLL : L ≤ 3072) (hab : el_aboutRule) (bu : Nat) (hbu : nb (v4 + 6) + 1 ≤ bu) (hL23 : ∀ (v4 : Int32) (x : ab_X), L23 v4 x → ∀ bu, nb v4 ≤ bu → EL L xs 23 [(1, .ref 0), (2, .ref 246), (3, .ref 337), (4, .int v4)] [] (aS x) bu) (h : wL_law_407 v4 s0 s2 s3 x L xs L23) : EL L xs 407 [(1, .ref 0), (2, .ref 246), (3, .ref 337), (4, .int v4)] [.int s3, .int s2, .ref 246, .int s0] (aS x) bu := by
  unfold wL_law_407 at h
  refine EL_invV (M' := MX12_closed) [.int s2, .int s3] (rest := [.int s0]) mlRL_33.1 mlRL_33.2.1 mlRL_33.2.2 q246.1 q246.2 (by decide) rfl (pc2 := 410) rfl okX12_closed dL_law_407 rfl rfl (Nat.le_of_ble_eq_true rfl) (Nat.le_of_ble_eq_true rfl) (d' := 1) (by decide) (b1 := 0) (Nat.zero_add _) (Or.inl rfl) (EW_mono (fun _ _ hr => ?_) (sX12_closed s2 s3  x _ _ 0 0 (Nat.le_refl _) h))
  obtain ⟨r422, x423, rfl, rfl, h⟩ := hr
  replace h := law_leaf h
  refine EL_icmp_eq (tgt := 2539) (pc2 := 413) rfl dL_law_410 (by decide) (fun q => ?_) (fun q => ?_)
  · replace h := h.1 q
    refine EL_iinc (v4 + 6) (pc2 := 2542) rfl dL_law_2539 (by decide) 3 rfl rfl (by decide) [1, 2, 3, 0] [(1, .ref 0), (2, .ref 246), (3, .ref 337), (4, .int (v4 + 6))] rfl ?_
    refine EL_goto (tgt := 23) dL_law_2542 (by decide) ?_
    exact hL23 (v4 + 6) x423 h bu (by omega)
  · replace h := h.2 q
    refine EL_iconst (pc2 := 414) (v := 0) rfl dL_law_413 (by decide) ?_
    exact False.elim h
set_option maxHeartbeats 8000000 in
set_option maxRecDepth 100000 in
def wL_law_383 (v4 : Int32) (s1 : Int32) (s2 : Int32) (x : ab_X) (L : Nat) (xs : Nat → Int32) (L23 : Int32 → ab_X → Prop) : Prop := (vp_in (v4 + 1) L ∧ vp_in (v4 + 2) L ∧ s1 = (xs (Int32.toNatClampNeg (v4 + 1))) ∧ ((xs (Int32.toNatClampNeg (v4 + 2))) = 0 → s2 = 0) ∧ (¬ (xs (Int32.toNatClampNeg (v4 + 2))) = 0 → s2 = 1)) ∧ wX11_closed s1 s2 x (fun r y => wX12_closed s1 s2 y (fun r' z => r = r' ∧ L23 (v4 + 6) z))
set_option maxHeartbeats 8000000 in
set_option maxRecDepth 100000 in
theorem sL_law_383 (v4 : Int32) (s1 : Int32) (s2 : Int32) (x : ab_X) (L : Nat) (xs : Nat → Int32) (L23 : Int32 → ab_X → Prop) (hLL : L ≤ 3072) (hab : el_aboutRule) (bu : Nat) (hbu : nb (v4 + 6) + 1 ≤ bu) (hL23 : ∀ (v4 : Int32) (x : ab_X), L23 v4 x → ∀ bu, nb v4 ≤ bu → EL L xs 23 [(1, .ref 0), (2, .ref 246), (3, .ref 337), (4, .int v4)] [] (aS x) bu) (h : wL_law_383 v4 s1 s2 x L xs L23) : EL L xs 383 [(1, .ref 0), (2, .ref 246), (3, .ref 337), (4, .int v4)] [.int s2, .int s1, .ref 0] (aS x) bu := by
  unfold wL_law_383 at h
  obtain ⟨⟨g1, g2, e1, e2, e3⟩, h⟩ := h
  refine EL_invV (M' := MX11_closed) [.int s1, .int s2] (rest := []) mlRL_29.1 mlRL_29.2.1 mlRL_29.2.2 q0.1 q0.2 (by decide) rfl (pc2 := 386) rfl okX11_closed dL_law_383 rfl rfl (Nat.le_of_ble_eq_true rfl) (Nat.le_of_ble_eq_true rfl) (d' := 1) (by decide) (b1 := 0) (Nat.zero_add _) (Or.inl rfl) (EW_mono (fun _ _ hr => ?_) (sX11_closed s1 s2  x _ _ 0 0 (Nat.le_refl _) h))
  obtain ⟨r418, x419, rfl, rfl, h⟩ := hr
  replace h : (vp_in (v4 + 1) L ∧ vp_in (v4 + 2) L ∧ (((xs (Int32.toNatClampNeg (v4 + 2))) = 0 → wL_law_407 v4 r418 (xs (Int32.toNatClampNeg (v4 + 1))) 0 x419 L xs L23) ∧ (¬ (xs (Int32.toNatClampNeg (v4 + 2))) = 0 → wL_law_407 v4 r418 (xs (Int32.toNatClampNeg (v4 + 1))) 1 x419 L xs L23))) := ⟨g1, g2, fun q => by unfold wL_law_407; have h' := h; rw [e1, e2 q] at h'; exact h', fun q => by unfold wL_law_407; have h' := h; rw [e1, e3 q] at h'; exact h'⟩
  refine EL_aload_n (pc2 := 387) rfl dL_law_386 1 rfl ?_
  obtain ⟨b420, h⟩ := h
  refine EL_scrk (v := 1) (pc2 := 393) rfl dL_law_387 dL_law_388 dL_law_390 dL_law_391 dL_law_392 (by decide) 3 rfl b420 ?_
  obtain ⟨b421, h⟩ := h
  refine EL_scrk (v := 2) (pc2 := 399) rfl dL_law_393 dL_law_394 dL_law_396 dL_law_397 dL_law_398 (by decide) 3 rfl b421 ?_
  refine EL_if_eq (tgt := 406) (pc2 := 402) rfl dL_law_399 (by decide) (fun q => ?_) (fun q => ?_)
  · replace h := h.1 q
    refine EL_iconst (pc2 := 407) (v := 0) rfl dL_law_406 (by decide) ?_
    exact sL_law_407 v4 r418 (xs (Int32.toNatClampNeg (v4 + 1))) 0 x419 L xs L23 hLL hab bu hbu hL23 h
  · replace h := h.2 q
    refine EL_iconst (pc2 := 403) (v := 1) rfl dL_law_402 (by decide) ?_
    refine EL_goto (tgt := 407) dL_law_403 (by decide) ?_
    exact sL_law_407 v4 r418 (xs (Int32.toNatClampNeg (v4 + 1))) 1 x419 L xs L23 hLL hab bu hbu hL23 h
set_option maxHeartbeats 8000000 in
set_option maxRecDepth 100000 in
def wL_law_643 (v4 : Int32) (s0 : Int32) (s2 : Int32) (s3 : Int32) (x : ab_X) (L : Nat) (xs : Nat → Int32) (L23 : Int32 → ab_X → Prop) : Prop := (vp_in (v4 + 3) L ∧ vp_in (v4 + 4) L ∧ wX12_build s2 s3 (xs (Int32.toNatClampNeg (v4 + 3))) (xs (Int32.toNatClampNeg (v4 + 4))) x (fun r432 x433 => (s0 = r432 ∧ L23 (v4 + 6) x433)))
set_option maxHeartbeats 8000000 in
set_option maxRecDepth 100000 in
theorem sL_law_643 (v4 : Int32) (s0 : Int32) (s2 : Int32) (s3 : Int32) (x : ab_X) (L : Nat) (xs : Nat → Int32) (L23 : Int32 → ab_X → Prop) (hLL : L ≤ 3072) (hab : el_aboutRule) (bu : Nat) (hbu : nb (v4 + 6) + 1 ≤ bu) (hL23 : ∀ (v4 : Int32) (x : ab_X), L23 v4 x → ∀ bu, nb v4 ≤ bu → EL L xs 23 [(1, .ref 0), (2, .ref 246), (3, .ref 337), (4, .int v4)] [] (aS x) bu) (h : wL_law_643 v4 s0 s2 s3 x L xs L23) : EL L xs 643 [(1, .ref 0), (2, .ref 246), (3, .ref 337), (4, .int v4)] [.int s3, .int s2, .ref 246, .int s0] (aS x) bu := by
  unfold wL_law_643 at h
  obtain ⟨b430, h⟩ := h
  refine EL_scrk (v := 3) (pc2 := 649) rfl dL_law_643 dL_law_644 dL_law_646 dL_law_647 dL_law_648 (by decide) 3 rfl b430 ?_
  obtain ⟨b431, h⟩ := h
  refine EL_scrk (v := 4) (pc2 := 655) rfl dL_law_649 dL_law_650 dL_law_652 dL_law_653 dL_law_654 (by decide) 3 rfl b431 ?_
  refine EL_invV (M' := MX12_build) [.int s2, .int s3, .int (xs (Int32.toNatClampNeg (v4 + 3))), .int (xs (Int32.toNatClampNeg (v4 + 4)))] (rest := [.int s0]) mlRL_52.1 mlRL_52.2.1 mlRL_52.2.2 q246.1 q246.2 (by decide) rfl (pc2 := 658) rfl okX12_build dL_law_655 rfl rfl (Nat.le_of_ble_eq_true rfl) (Nat.le_of_ble_eq_true rfl) (d' := 1) (by decide) (b1 := 0) (Nat.zero_add _) (Or.inl rfl) (EW_mono (fun _ _ hr => ?_) (sX12_build s2 s3 (xs (Int32.toNatClampNeg (v4 + 3))) (xs (Int32.toNatClampNeg (v4 + 4)))  x _ _ 0 0 (Nat.le_refl _) h))
  obtain ⟨r432, x433, rfl, rfl, h⟩ := hr
  replace h := law_leaf h
  refine EL_icmp_eq (tgt := 2539) (pc2 := 661) rfl dL_law_658 (by decide) (fun q => ?_) (fun q => ?_)
  · replace h := h.1 q
    refine EL_iinc (v4 + 6) (pc2 := 2542) rfl dL_law_2539 (by decide) 3 rfl rfl (by decide) [1, 2, 3, 0] [(1, .ref 0), (2, .ref 246), (3, .ref 337), (4, .int (v4 + 6))] rfl ?_
    refine EL_goto (tgt := 23) dL_law_2542 (by decide) ?_
    exact hL23 (v4 + 6) x433 h bu (by omega)
  · replace h := h.2 q
    refine EL_iconst (pc2 := 662) (v := 0) rfl dL_law_661 (by decide) ?_
    exact False.elim h
set_option maxHeartbeats 8000000 in
set_option maxRecDepth 100000 in
def wL_law_607 (v4 : Int32) (s1 : Int32) (s2 : Int32) (x : ab_X) (L : Nat) (xs : Nat → Int32) (L23 : Int32 → ab_X → Prop) : Prop := (vp_in (v4 + 1) L ∧ vp_in (v4 + 2) L ∧ vp_in (v4 + 3) L ∧ vp_in (v4 + 4) L ∧ s1 = (xs (Int32.toNatClampNeg (v4 + 1))) ∧ ((xs (Int32.toNatClampNeg (v4 + 2))) = 0 → s2 = 0) ∧ (¬ (xs (Int32.toNatClampNeg (v4 + 2))) = 0 → s2 = 1)) ∧ wX11_build s1 s2 (xs (Int32.toNatClampNeg (v4 + 3))) (xs (Int32.toNatClampNeg (v4 + 4))) x (fun r y => wX12_build s1 s2 (xs (Int32.toNatClampNeg (v4 + 3))) (xs (Int32.toNatClampNeg (v4 + 4))) y (fun r' z => r = r' ∧ L23 (v4 + 6) z))
set_option maxHeartbeats 8000000 in
set_option maxRecDepth 100000 in
theorem sL_law_607 (v4 : Int32) (s1 : Int32) (s2 : Int32) (x : ab_X) (L : Nat) (xs : Nat → Int32) (L23 : Int32 → ab_X → Prop) (hLL : L ≤ 3072) (hab : el_aboutRule) (bu : Nat) (hbu : nb (v4 + 6) + 1 ≤ bu) (hL23 : ∀ (v4 : Int32) (x : ab_X), L23 v4 x → ∀ bu, nb v4 ≤ bu → EL L xs 23 [(1, .ref 0), (2, .ref 246), (3, .ref 337), (4, .int v4)] [] (aS x) bu) (h : wL_law_607 v4 s1 s2 x L xs L23) : EL L xs 607 [(1, .ref 0), (2, .ref 246), (3, .ref 337), (4, .int v4)] [.int s2, .int s1, .ref 0] (aS x) bu := by
  unfold wL_law_607 at h
  obtain ⟨⟨g1, g2, g3, g4, e1, e2, e3⟩, h⟩ := h
  replace h := And.intro g3 (And.intro g4 h)
  obtain ⟨b424, h⟩ := h
  refine EL_scrk (v := 3) (pc2 := 613) rfl dL_law_607 dL_law_608 dL_law_610 dL_law_611 dL_law_612 (by decide) 3 rfl b424 ?_
  obtain ⟨b425, h⟩ := h
  refine EL_scrk (v := 4) (pc2 := 619) rfl dL_law_613 dL_law_614 dL_law_616 dL_law_617 dL_law_618 (by decide) 3 rfl b425 ?_
  refine EL_invV (M' := MX11_build) [.int s1, .int s2, .int (xs (Int32.toNatClampNeg (v4 + 3))), .int (xs (Int32.toNatClampNeg (v4 + 4)))] (rest := []) mlRL_48.1 mlRL_48.2.1 mlRL_48.2.2 q0.1 q0.2 (by decide) rfl (pc2 := 622) rfl okX11_build dL_law_619 rfl rfl (Nat.le_of_ble_eq_true rfl) (Nat.le_of_ble_eq_true rfl) (d' := 2) (by decide) (b1 := 0) (Nat.zero_add _) (Or.inl rfl) (EW_mono (fun _ _ hr => ?_) (sX11_build s1 s2 (xs (Int32.toNatClampNeg (v4 + 3))) (xs (Int32.toNatClampNeg (v4 + 4)))  x _ _ 0 0 (Nat.le_refl _) h))
  obtain ⟨r426, x427, rfl, rfl, h⟩ := hr
  replace h : (vp_in (v4 + 1) L ∧ vp_in (v4 + 2) L ∧ (((xs (Int32.toNatClampNeg (v4 + 2))) = 0 → wL_law_643 v4 r426 (xs (Int32.toNatClampNeg (v4 + 1))) 0 x427 L xs L23) ∧ (¬ (xs (Int32.toNatClampNeg (v4 + 2))) = 0 → wL_law_643 v4 r426 (xs (Int32.toNatClampNeg (v4 + 1))) 1 x427 L xs L23))) := ⟨g1, g2, fun q => by unfold wL_law_643; refine ⟨g3, g4, ?_⟩; have h' := h; rw [e1, e2 q] at h'; exact h', fun q => by unfold wL_law_643; refine ⟨g3, g4, ?_⟩; have h' := h; rw [e1, e3 q] at h'; exact h'⟩
  refine EL_aload_n (pc2 := 623) rfl dL_law_622 1 rfl ?_
  obtain ⟨b428, h⟩ := h
  refine EL_scrk (v := 1) (pc2 := 629) rfl dL_law_623 dL_law_624 dL_law_626 dL_law_627 dL_law_628 (by decide) 3 rfl b428 ?_
  obtain ⟨b429, h⟩ := h
  refine EL_scrk (v := 2) (pc2 := 635) rfl dL_law_629 dL_law_630 dL_law_632 dL_law_633 dL_law_634 (by decide) 3 rfl b429 ?_
  refine EL_if_eq (tgt := 642) (pc2 := 638) rfl dL_law_635 (by decide) (fun q => ?_) (fun q => ?_)
  · replace h := h.1 q
    refine EL_iconst (pc2 := 643) (v := 0) rfl dL_law_642 (by decide) ?_
    exact sL_law_643 v4 r426 (xs (Int32.toNatClampNeg (v4 + 1))) 0 x427 L xs L23 hLL hab bu hbu hL23 h
  · replace h := h.2 q
    refine EL_iconst (pc2 := 639) (v := 1) rfl dL_law_638 (by decide) ?_
    refine EL_goto (tgt := 643) dL_law_639 (by decide) ?_
    exact sL_law_643 v4 r426 (xs (Int32.toNatClampNeg (v4 + 1))) 1 x427 L xs L23 hLL hab bu hbu hL23 h
set_option maxHeartbeats 8000000 in
set_option maxRecDepth 100000 in
def wL_law_1064 (v4 : Int32) (s0 : Int32) (s2 : Int32) (s3 : Int32) (s4 : Int32) (x : ab_X) (L : Nat) (xs : Nat → Int32) (L23 : Int32 → ab_X → Prop) : Prop := (vp_in (v4 + 4) L ∧ vp_in (v4 + 5) L ∧ wX12_crew s2 s3 s4 (xs (Int32.toNatClampNeg (v4 + 4))) (xs (Int32.toNatClampNeg (v4 + 5))) x (fun r443 x444 => (s0 = r443 ∧ L23 (v4 + 6) x444)))
set_option maxHeartbeats 8000000 in
set_option maxRecDepth 100000 in
theorem sL_law_1064 (v4 : Int32) (s0 : Int32) (s2 : Int32) (s3 : Int32) (s4 : Int32) (x : ab_X) (L : Nat) (xs : Nat → Int32) (L23 : Int32 → ab_X → Prop) (hLL : L ≤ 3072) (hab : el_aboutRule) (bu : Nat) (hbu : nb (v4 + 6) + 1 ≤ bu) (hL23 : ∀ (v4 : Int32) (x : ab_X), L23 v4 x → ∀ bu, nb v4 ≤ bu → EL L xs 23 [(1, .ref 0), (2, .ref 246), (3, .ref 337), (4, .int v4)] [] (aS x) bu) (h : wL_law_1064 v4 s0 s2 s3 s4 x L xs L23) : EL L xs 1064 [(1, .ref 0), (2, .ref 246), (3, .ref 337), (4, .int v4)] [.int s4, .int s3, .int s2, .ref 246, .int s0] (aS x) bu := by
  unfold wL_law_1064 at h
  obtain ⟨b441, h⟩ := h
  refine EL_scrk (v := 4) (pc2 := 1070) rfl dL_law_1064 dL_law_1065 dL_law_1067 dL_law_1068 dL_law_1069 (by decide) 3 rfl b441 ?_
  obtain ⟨b442, h⟩ := h
  refine EL_scrk (v := 5) (pc2 := 1076) rfl dL_law_1070 dL_law_1071 dL_law_1073 dL_law_1074 dL_law_1075 (by decide) 3 rfl b442 ?_
  refine EL_invV (M' := MX12_crew) [.int s2, .int s3, .int s4, .int (xs (Int32.toNatClampNeg (v4 + 4))), .int (xs (Int32.toNatClampNeg (v4 + 5)))] (rest := [.int s0]) mlRL_92.1 mlRL_92.2.1 mlRL_92.2.2 q246.1 q246.2 (by decide) rfl (pc2 := 1079) rfl okX12_crew dL_law_1076 rfl rfl (Nat.le_of_ble_eq_true rfl) (Nat.le_of_ble_eq_true rfl) (d' := 1) (by decide) (b1 := 0) (Nat.zero_add _) (Or.inl rfl) (EW_mono (fun _ _ hr => ?_) (sX12_crew s2 s3 s4 (xs (Int32.toNatClampNeg (v4 + 4))) (xs (Int32.toNatClampNeg (v4 + 5)))  x _ _ 0 0 (Nat.le_refl _) h))
  obtain ⟨r443, x444, rfl, rfl, h⟩ := hr
  replace h := law_leaf h
  refine EL_icmp_eq (tgt := 2539) (pc2 := 1082) rfl dL_law_1079 (by decide) (fun q => ?_) (fun q => ?_)
  · replace h := h.1 q
    refine EL_iinc (v4 + 6) (pc2 := 2542) rfl dL_law_2539 (by decide) 3 rfl rfl (by decide) [1, 2, 3, 0] [(1, .ref 0), (2, .ref 246), (3, .ref 337), (4, .int (v4 + 6))] rfl ?_
    refine EL_goto (tgt := 23) dL_law_2542 (by decide) ?_
    exact hL23 (v4 + 6) x444 h bu (by omega)
  · replace h := h.2 q
    refine EL_iconst (pc2 := 1083) (v := 0) rfl dL_law_1082 (by decide) ?_
    exact False.elim h
set_option maxHeartbeats 8000000 in
set_option maxRecDepth 100000 in
def wL_law_1022 (v4 : Int32) (s1 : Int32) (s2 : Int32) (s3 : Int32) (x : ab_X) (L : Nat) (xs : Nat → Int32) (L23 : Int32 → ab_X → Prop) : Prop := (vp_in (v4 + 1) L ∧ vp_in (v4 + 2) L ∧ vp_in (v4 + 3) L ∧ vp_in (v4 + 4) L ∧ vp_in (v4 + 5) L ∧ s1 = (xs (Int32.toNatClampNeg (v4 + 1))) ∧ s2 = (xs (Int32.toNatClampNeg (v4 + 2))) ∧ ((xs (Int32.toNatClampNeg (v4 + 3))) = 0 → s3 = 0) ∧ (¬ (xs (Int32.toNatClampNeg (v4 + 3))) = 0 → s3 = 1)) ∧ wX11_crew s1 s2 s3 (xs (Int32.toNatClampNeg (v4 + 4))) (xs (Int32.toNatClampNeg (v4 + 5))) x (fun r y => wX12_crew s1 s2 s3 (xs (Int32.toNatClampNeg (v4 + 4))) (xs (Int32.toNatClampNeg (v4 + 5))) y (fun r' z => r = r' ∧ L23 (v4 + 6) z))
set_option maxHeartbeats 8000000 in
set_option maxRecDepth 100000 in
theorem sL_law_1022 (v4 : Int32) (s1 : Int32) (s2 : Int32) (s3 : Int32) (x : ab_X) (L : Nat) (xs : Nat → Int32) (L23 : Int32 → ab_X → Prop) (hLL : L ≤ 3072) (hab : el_aboutRule) (bu : Nat) (hbu : nb (v4 + 6) + 1 ≤ bu) (hL23 : ∀ (v4 : Int32) (x : ab_X), L23 v4 x → ∀ bu, nb v4 ≤ bu → EL L xs 23 [(1, .ref 0), (2, .ref 246), (3, .ref 337), (4, .int v4)] [] (aS x) bu) (h : wL_law_1022 v4 s1 s2 s3 x L xs L23) : EL L xs 1022 [(1, .ref 0), (2, .ref 246), (3, .ref 337), (4, .int v4)] [.int s3, .int s2, .int s1, .ref 0] (aS x) bu := by
  unfold wL_law_1022 at h
  obtain ⟨⟨g1, g2, g3, g4, g5, e1, e0, e2, e3⟩, h⟩ := h
  replace h := And.intro g4 (And.intro g5 h)
  obtain ⟨b434, h⟩ := h
  refine EL_scrk (v := 4) (pc2 := 1028) rfl dL_law_1022 dL_law_1023 dL_law_1025 dL_law_1026 dL_law_1027 (by decide) 3 rfl b434 ?_
  obtain ⟨b435, h⟩ := h
  refine EL_scrk (v := 5) (pc2 := 1034) rfl dL_law_1028 dL_law_1029 dL_law_1031 dL_law_1032 dL_law_1033 (by decide) 3 rfl b435 ?_
  refine EL_invV (M' := MX11_crew) [.int s1, .int s2, .int s3, .int (xs (Int32.toNatClampNeg (v4 + 4))), .int (xs (Int32.toNatClampNeg (v4 + 5)))] (rest := []) mlRL_88.1 mlRL_88.2.1 mlRL_88.2.2 q0.1 q0.2 (by decide) rfl (pc2 := 1037) rfl okX11_crew dL_law_1034 rfl rfl (Nat.le_of_ble_eq_true rfl) (Nat.le_of_ble_eq_true rfl) (d' := 3) (by decide) (b1 := 0) (Nat.zero_add _) (Or.inl rfl) (EW_mono (fun _ _ hr => ?_) (sX11_crew s1 s2 s3 (xs (Int32.toNatClampNeg (v4 + 4))) (xs (Int32.toNatClampNeg (v4 + 5)))  x _ _ 0 0 (Nat.le_refl _) h))
  obtain ⟨r436, x437, rfl, rfl, h⟩ := hr
  replace h : (vp_in (v4 + 1) L ∧ vp_in (v4 + 2) L ∧ vp_in (v4 + 3) L ∧ (((xs (Int32.toNatClampNeg (v4 + 3))) = 0 → wL_law_1064 v4 r436 (xs (Int32.toNatClampNeg (v4 + 1))) (xs (Int32.toNatClampNeg (v4 + 2))) 0 x437 L xs L23) ∧ (¬ (xs (Int32.toNatClampNeg (v4 + 3))) = 0 → wL_law_1064 v4 r436 (xs (Int32.toNatClampNeg (v4 + 1))) (xs (Int32.toNatClampNeg (v4 + 2))) 1 x437 L xs L23))) := ⟨g1, g2, g3, fun q => by unfold wL_law_1064; refine ⟨g4, g5, ?_⟩; have h' := h; rw [e1, e0, e2 q] at h'; exact h', fun q => by unfold wL_law_1064; refine ⟨g4, g5, ?_⟩; have h' := h; rw [e1, e0, e3 q] at h'; exact h'⟩
  refine EL_aload_n (pc2 := 1038) rfl dL_law_1037 1 rfl ?_
  obtain ⟨b438, h⟩ := h
  refine EL_scrk (v := 1) (pc2 := 1044) rfl dL_law_1038 dL_law_1039 dL_law_1041 dL_law_1042 dL_law_1043 (by decide) 3 rfl b438 ?_
  obtain ⟨b439, h⟩ := h
  refine EL_scrk (v := 2) (pc2 := 1050) rfl dL_law_1044 dL_law_1045 dL_law_1047 dL_law_1048 dL_law_1049 (by decide) 3 rfl b439 ?_
  obtain ⟨b440, h⟩ := h
  refine EL_scrk (v := 3) (pc2 := 1056) rfl dL_law_1050 dL_law_1051 dL_law_1053 dL_law_1054 dL_law_1055 (by decide) 3 rfl b440 ?_
  refine EL_if_eq (tgt := 1063) (pc2 := 1059) rfl dL_law_1056 (by decide) (fun q => ?_) (fun q => ?_)
  · replace h := h.1 q
    refine EL_iconst (pc2 := 1064) (v := 0) rfl dL_law_1063 (by decide) ?_
    exact sL_law_1064 v4 r436 (xs (Int32.toNatClampNeg (v4 + 1))) (xs (Int32.toNatClampNeg (v4 + 2))) 0 x437 L xs L23 hLL hab bu hbu hL23 h
  · replace h := h.2 q
    refine EL_iconst (pc2 := 1060) (v := 1) rfl dL_law_1059 (by decide) ?_
    refine EL_goto (tgt := 1064) dL_law_1060 (by decide) ?_
    exact sL_law_1064 v4 r436 (xs (Int32.toNatClampNeg (v4 + 1))) (xs (Int32.toNatClampNeg (v4 + 2))) 1 x437 L xs L23 hLL hab bu hbu hL23 h
set_option maxHeartbeats 8000000 in
set_option maxRecDepth 100000 in
def lL_law_23 (L : Nat) (xs : Nat → Int32) (L23 : Int32 → ab_X → Prop) (v4 : Int32) (x : ab_X) : Prop := ((((Int32.ofNat L) - 6) < v4 → True) ∧ (¬ ((Int32.ofNat L) - 6) < v4 → (vp_in v4 L ∧ (((Int32.toInt ((xs (Int32.toNatClampNeg v4)) &&& 63) < 0 ∨ 51 < Int32.toInt ((xs (Int32.toNatClampNeg v4)) &&& 63)) → L23 (v4 + 6) x) ∧ (((xs (Int32.toNatClampNeg v4)) &&& 63) = 0 → (vp_in (v4 + 1) L ∧ vp_in (v4 + 2) L ∧ vp_in (v4 + 3) L ∧ wX11_street (xs (Int32.toNatClampNeg (v4 + 1))) (xs (Int32.toNatClampNeg (v4 + 2))) (xs (Int32.toNatClampNeg (v4 + 3))) x (fun r5 x6 => (wX12_street (xs (Int32.toNatClampNeg (v4 + 1))) (xs (Int32.toNatClampNeg (v4 + 2))) (xs (Int32.toNatClampNeg (v4 + 3))) x6 (fun r10 x11 => (r5 = r10 ∧ L23 (v4 + 6) x11)))))) ∧ (((xs (Int32.toNatClampNeg v4)) &&& 63) = 1 → (vp_in (v4 + 1) L ∧ vp_in (v4 + 2) L ∧ vp_in (v4 + 3) L ∧ wX11_jam (xs (Int32.toNatClampNeg (v4 + 1))) (xs (Int32.toNatClampNeg (v4 + 2))) (xs (Int32.toNatClampNeg (v4 + 3))) x (fun r15 x16 => (wX12_jam (xs (Int32.toNatClampNeg (v4 + 1))) (xs (Int32.toNatClampNeg (v4 + 2))) (xs (Int32.toNatClampNeg (v4 + 3))) x16 (fun r20 x21 => (r15 = r20 ∧ L23 (v4 + 6) x21)))))) ∧ (((xs (Int32.toNatClampNeg v4)) &&& 63) = 2 → (vp_in (v4 + 1) L ∧ vp_in (v4 + 2) L ∧ (((xs (Int32.toNatClampNeg (v4 + 2))) = 0 → wL_law_383 v4 (xs (Int32.toNatClampNeg (v4 + 1))) 0 x L xs L23) ∧ (¬ (xs (Int32.toNatClampNeg (v4 + 2))) = 0 → wL_law_383 v4 (xs (Int32.toNatClampNeg (v4 + 1))) 1 x L xs L23)))) ∧ (((xs (Int32.toNatClampNeg v4)) &&& 63) = 3 → (vp_in (v4 + 1) L ∧ vp_in (v4 + 2) L ∧ vp_in (v4 + 3) L ∧ vp_in (v4 + 4) L ∧ wX11_come (xs (Int32.toNatClampNeg (v4 + 1))) (xs (Int32.toNatClampNeg (v4 + 2))) (xs (Int32.toNatClampNeg (v4 + 3))) (xs (Int32.toNatClampNeg (v4 + 4))) x (fun r28 x29 => (wX12_come (xs (Int32.toNatClampNeg (v4 + 1))) (xs (Int32.toNatClampNeg (v4 + 2))) (xs (Int32.toNatClampNeg (v4 + 3))) (xs (Int32.toNatClampNeg (v4 + 4))) x29 (fun r34 x35 => (r28 = r34 ∧ L23 (v4 + 6) x35)))))) ∧ (((xs (Int32.toNatClampNeg v4)) &&& 63) = 4 → (vp_in (v4 + 1) L ∧ vp_in (v4 + 2) L ∧ wX11_feet (xs (Int32.toNatClampNeg (v4 + 1))) (xs (Int32.toNatClampNeg (v4 + 2))) x (fun r38 => (wX12_feet (xs (Int32.toNatClampNeg (v4 + 1))) (xs (Int32.toNatClampNeg (v4 + 2))) x (fun r41 x42 => (r38 = r41 ∧ L23 (v4 + 6) x42)))))) ∧ (((xs (Int32.toNatClampNeg v4)) &&& 63) = 5 → (vp_in (v4 + 1) L ∧ vp_in (v4 + 2) L ∧ vp_in (v4 + 3) L ∧ vp_in (v4 + 4) L ∧ vp_in (v4 + 5) L ∧ wX11_house (xs (Int32.toNatClampNeg (v4 + 1))) (xs (Int32.toNatClampNeg (v4 + 2))) (xs (Int32.toNatClampNeg (v4 + 3))) (xs (Int32.toNatClampNeg (v4 + 4))) (xs (Int32.toNatClampNeg (v4 + 5))) x (fun r48 x49 => (wX12_house (xs (Int32.toNatClampNeg (v4 + 1))) (xs (Int32.toNatClampNeg (v4 + 2))) (xs (Int32.toNatClampNeg (v4 + 3))) (xs (Int32.toNatClampNeg (v4 + 4))) (xs (Int32.toNatClampNeg (v4 + 5))) x49 (fun r55 x56 => (r48 = r55 ∧ L23 (v4 + 6) x56)))))) ∧ (((xs (Int32.toNatClampNeg v4)) &&& 63) = 6 → (vp_in (v4 + 1) L ∧ vp_in (v4 + 2) L ∧ (((xs (Int32.toNatClampNeg (v4 + 2))) = 0 → wL_law_607 v4 (xs (Int32.toNatClampNeg (v4 + 1))) 0 x L xs L23) ∧ (¬ (xs (Int32.toNatClampNeg (v4 + 2))) = 0 → wL_law_607 v4 (xs (Int32.toNatClampNeg (v4 + 1))) 1 x L xs L23)))) ∧ (((xs (Int32.toNatClampNeg v4)) &&& 63) = 7 → (vp_in (v4 + 1) L ∧ vp_in (v4 + 2) L ∧ wX11_use (xs (Int32.toNatClampNeg (v4 + 1))) (xs (Int32.toNatClampNeg (v4 + 2))) x (fun r61 x62 => (wX12_use (xs (Int32.toNatClampNeg (v4 + 1))) (xs (Int32.toNatClampNeg (v4 + 2))) x62 (fun r65 x66 => (r61 = r65 ∧ L23 (v4 + 6) x66)))))) ∧ (((xs (Int32.toNatClampNeg v4)) &&& 63) = 8 → (vp_in (v4 + 1) L ∧ vp_in (v4 + 2) L ∧ vp_in (v4 + 3) L ∧ vp_in (v4 + 4) L ∧ wX11_floor (xs (Int32.toNatClampNeg (v4 + 1))) (xs (Int32.toNatClampNeg (v4 + 2))) (xs (Int32.toNatClampNeg (v4 + 3))) (xs (Int32.toNatClampNeg (v4 + 4))) x (fun r71 x72 => (wX12_floor (xs (Int32.toNatClampNeg (v4 + 1))) (xs (Int32.toNatClampNeg (v4 + 2))) (xs (Int32.toNatClampNeg (v4 + 3))) (xs (Int32.toNatClampNeg (v4 + 4))) x72 (fun r77 x78 => (r71 = r77 ∧ L23 (v4 + 6) x78)))))) ∧ (((xs (Int32.toNatClampNeg v4)) &&& 63) = 9 → (vp_in (v4 + 1) L ∧ vp_in (v4 + 2) L ∧ wX11_light (xs (Int32.toNatClampNeg (v4 + 1))) (xs (Int32.toNatClampNeg (v4 + 2))) x (fun r81 x82 => (wX12_light (xs (Int32.toNatClampNeg (v4 + 1))) (xs (Int32.toNatClampNeg (v4 + 2))) x82 (fun r85 x86 => (r81 = r85 ∧ L23 (v4 + 6) x86)))))) ∧ (((xs (Int32.toNatClampNeg v4)) &&& 63) = 10 → (vp_in (v4 + 1) L ∧ vp_in (v4 + 2) L ∧ vp_in (v4 + 3) L ∧ wX11_room (xs (Int32.toNatClampNeg (v4 + 1))) (xs (Int32.toNatClampNeg (v4 + 2))) (xs (Int32.toNatClampNeg (v4 + 3))) x (fun r90 => (wX12_room (xs (Int32.toNatClampNeg (v4 + 1))) (xs (Int32.toNatClampNeg (v4 + 2))) (xs (Int32.toNatClampNeg (v4 + 3))) x (fun r94 x95 => (r90 = r94 ∧ L23 (v4 + 6) x95)))))) ∧ (((xs (Int32.toNatClampNeg v4)) &&& 63) = 11 → (vp_in (v4 + 1) L ∧ vp_in (v4 + 2) L ∧ vp_in (v4 + 3) L ∧ wX11_floored (xs (Int32.toNatClampNeg (v4 + 1))) (xs (Int32.toNatClampNeg (v4 + 2))) (xs (Int32.toNatClampNeg (v4 + 3))) x (fun r99 => (wX12_floored (xs (Int32.toNatClampNeg (v4 + 1))) (xs (Int32.toNatClampNeg (v4 + 2))) (xs (Int32.toNatClampNeg (v4 + 3))) x (fun r103 x104 => (r99 = r103 ∧ L23 (v4 + 6) x104)))))) ∧ (((xs (Int32.toNatClampNeg v4)) &&& 63) = 12 → (vp_in (v4 + 1) L ∧ vp_in (v4 + 2) L ∧ wX11_housed (xs (Int32.toNatClampNeg (v4 + 1))) (xs (Int32.toNatClampNeg (v4 + 2))) x (fun r107 => (wX12_housed (xs (Int32.toNatClampNeg (v4 + 1))) (xs (Int32.toNatClampNeg (v4 + 2))) x (fun r110 x111 => (r107 = r110 ∧ L23 (v4 + 6) x111)))))) ∧ (((xs (Int32.toNatClampNeg v4)) &&& 63) = 13 → (vp_in (v4 + 1) L ∧ wX11_main (xs (Int32.toNatClampNeg (v4 + 1))) x (fun r113 x114 => (wX12_main (xs (Int32.toNatClampNeg (v4 + 1))) x114 (fun r116 x117 => (r113 = r116 ∧ L23 (v4 + 6) x117)))))) ∧ (((xs (Int32.toNatClampNeg v4)) &&& 63) = 14 → (vp_in (v4 + 1) L ∧ vp_in (v4 + 2) L ∧ wX11_head (xs (Int32.toNatClampNeg (v4 + 1))) (xs (Int32.toNatClampNeg (v4 + 2))) x (fun r120 x121 => (wX12_head (xs (Int32.toNatClampNeg (v4 + 1))) (xs (Int32.toNatClampNeg (v4 + 2))) x121 (fun r124 x125 => (r120 = r124 ∧ L23 (v4 + 6) x125)))))) ∧ (((xs (Int32.toNatClampNeg v4)) &&& 63) = 15 → (vp_in (v4 + 1) L ∧ vp_in (v4 + 2) L ∧ vp_in (v4 + 3) L ∧ (((xs (Int32.toNatClampNeg (v4 + 3))) = 0 → wL_law_1022 v4 (xs (Int32.toNatClampNeg (v4 + 1))) (xs (Int32.toNatClampNeg (v4 + 2))) 0 x L xs L23) ∧ (¬ (xs (Int32.toNatClampNeg (v4 + 3))) = 0 → wL_law_1022 v4 (xs (Int32.toNatClampNeg (v4 + 1))) (xs (Int32.toNatClampNeg (v4 + 2))) 1 x L xs L23)))) ∧ (((xs (Int32.toNatClampNeg v4)) &&& 63) = 16 → (vp_in (v4 + 1) L ∧ vp_in (v4 + 2) L ∧ vp_in (v4 + 3) L ∧ vp_in (v4 + 4) L ∧ wX11_gear (xs (Int32.toNatClampNeg (v4 + 1))) (xs (Int32.toNatClampNeg (v4 + 2))) (xs (Int32.toNatClampNeg (v4 + 3))) (xs (Int32.toNatClampNeg (v4 + 4))) x (fun r133 x134 => (wX12_gear (xs (Int32.toNatClampNeg (v4 + 1))) (xs (Int32.toNatClampNeg (v4 + 2))) (xs (Int32.toNatClampNeg (v4 + 3))) (xs (Int32.toNatClampNeg (v4 + 4))) x134 (fun r139 x140 => (r133 = r139 ∧ L23 (v4 + 6) x140)))))) ∧ (((xs (Int32.toNatClampNeg v4)) &&& 63) = 17 → (vp_in (v4 + 1) L ∧ wX11_heal (xs (Int32.toNatClampNeg (v4 + 1))) x (fun r142 x143 => (wX12_heal (xs (Int32.toNatClampNeg (v4 + 1))) x143 (fun r145 x146 => (r142 = r145 ∧ L23 (v4 + 6) x146)))))) ∧ (((xs (Int32.toNatClampNeg v4)) &&& 63) = 18 → (vp_in (v4 + 1) L ∧ wX11_recall (xs (Int32.toNatClampNeg (v4 + 1))) x (fun r148 x149 => (wX12_recall (xs (Int32.toNatClampNeg (v4 + 1))) x149 (fun r151 x152 => (r148 = r151 ∧ L23 (v4 + 6) x152)))))) ∧ (((xs (Int32.toNatClampNeg v4)) &&& 63) = 19 → (vp_in (v4 + 1) L ∧ vp_in (v4 + 2) L ∧ wL_about (xs (Int32.toNatClampNeg (v4 + 1))) (xs (Int32.toNatClampNeg (v4 + 2))) x (fun r155 x156 => (wX12_about (xs (Int32.toNatClampNeg (v4 + 1))) (xs (Int32.toNatClampNeg (v4 + 2))) x156 (fun r159 x160 => wX12_thrown x160 (fun r161 => ((r161 = r155 → ((¬ r155 = 0 → L23 (v4 + 6) x160) ∧ (r155 = 0 → (((lg_cmp (x160.2.2.1 337 (Int32.toNatClampNeg 0)) (Int32.toInt64 r159)) = 0 → L23 (v4 + 6) x160) ∧ (¬ (lg_cmp (x160.2.2.1 337 (Int32.toNatClampNeg 0)) (Int32.toInt64 r159)) = 0 → False))))) ∧ (¬ r161 = r155 → False)))))))) ∧ (((xs (Int32.toNatClampNeg v4)) &&& 63) = 20 → (vp_in (v4 + 1) L ∧ vp_in (v4 + 2) L ∧ wX11_reach (xs (Int32.toNatClampNeg (v4 + 1))) (xs (Int32.toNatClampNeg (v4 + 2))) x (fun r164 => (wX12_reach (xs (Int32.toNatClampNeg (v4 + 1))) (xs (Int32.toNatClampNeg (v4 + 2))) x (fun r167 x168 => (r164 = r167 ∧ L23 (v4 + 6) x168)))))) ∧ (((xs (Int32.toNatClampNeg v4)) &&& 63) = 21 → (vp_in (v4 + 1) L ∧ wX11_call (xs (Int32.toNatClampNeg (v4 + 1))) x (fun r170 x171 => (wX12_call (xs (Int32.toNatClampNeg (v4 + 1))) x171 (fun r173 x174 => (r170 = r173 ∧ L23 (v4 + 6) x174)))))) ∧ (((xs (Int32.toNatClampNeg v4)) &&& 63) = 22 → (vp_in (v4 + 1) L ∧ vp_in (v4 + 2) L ∧ wX11_called (xs (Int32.toNatClampNeg (v4 + 1))) (xs (Int32.toNatClampNeg (v4 + 2))) x (fun r177 => (wX12_called (xs (Int32.toNatClampNeg (v4 + 1))) (xs (Int32.toNatClampNeg (v4 + 2))) x (fun r180 x181 => (r177 = r180 ∧ L23 (v4 + 6) x181)))))) ∧ (((xs (Int32.toNatClampNeg v4)) &&& 63) = 23 → (vp_in (v4 + 1) L ∧ vp_in (v4 + 2) L ∧ wX11_falses (xs (Int32.toNatClampNeg (v4 + 1))) (xs (Int32.toNatClampNeg (v4 + 2))) x (fun r184 => (wX12_falses (xs (Int32.toNatClampNeg (v4 + 1))) (xs (Int32.toNatClampNeg (v4 + 2))) x (fun r187 x188 => (r184 = r187 ∧ L23 (v4 + 6) x188)))))) ∧ (((xs (Int32.toNatClampNeg v4)) &&& 63) = 24 → (vp_in (v4 + 1) L ∧ vp_in (v4 + 2) L ∧ vp_in (v4 + 3) L ∧ vp_in (v4 + 4) L ∧ vp_in (v4 + 5) L ∧ wX11_feed (xs (Int32.toNatClampNeg (v4 + 1))) (xs (Int32.toNatClampNeg (v4 + 2))) (xs (Int32.toNatClampNeg (v4 + 3))) (xs (Int32.toNatClampNeg (v4 + 4))) (xs (Int32.toNatClampNeg (v4 + 5))) x (fun r194 x195 => (wX12_feed (xs (Int32.toNatClampNeg (v4 + 1))) (xs (Int32.toNatClampNeg (v4 + 2))) (xs (Int32.toNatClampNeg (v4 + 3))) (xs (Int32.toNatClampNeg (v4 + 4))) (xs (Int32.toNatClampNeg (v4 + 5))) x195 (fun r201 x202 => (r194 = r201 ∧ L23 (v4 + 6) x202)))))) ∧ (((xs (Int32.toNatClampNeg v4)) &&& 63) = 25 → (vp_in (v4 + 1) L ∧ wX11_end (xs (Int32.toNatClampNeg (v4 + 1))) x (fun r204 x205 => (wX12_end (xs (Int32.toNatClampNeg (v4 + 1))) x205 (fun r207 x208 => (r204 = r207 ∧ L23 (v4 + 6) x208)))))) ∧ (((xs (Int32.toNatClampNeg v4)) &&& 63) = 26 → (vp_in (v4 + 1) L ∧ wX11_fault (xs (Int32.toNatClampNeg (v4 + 1))) x (fun r210 x211 => (wX12_fault (xs (Int32.toNatClampNeg (v4 + 1))) x211 (fun r213 x214 => (r210 = r213 ∧ L23 (v4 + 6) x214)))))) ∧ (((xs (Int32.toNatClampNeg v4)) &&& 63) = 27 → wX11_orders x (fun r215 x216 => wX12_orders x216 (fun r217 x218 => (r215 = r217 ∧ L23 (v4 + 6) x218)))) ∧ (((xs (Int32.toNatClampNeg v4)) &&& 63) = 28 → wX11_leaving x (fun r219 x220 => wX12_leaving x220 (fun r221 x222 => (r219 = r221 ∧ L23 (v4 + 6) x222)))) ∧ (((xs (Int32.toNatClampNeg v4)) &&& 63) = 29 → (vp_in (v4 + 1) L ∧ vp_in (v4 + 2) L ∧ vp_in (v4 + 3) L ∧ wX11_asks (xs (Int32.toNatClampNeg (v4 + 1))) (xs (Int32.toNatClampNeg (v4 + 2))) (xs (Int32.toNatClampNeg (v4 + 3))) x (fun r226 x227 => (wX12_asks (xs (Int32.toNatClampNeg (v4 + 1))) (xs (Int32.toNatClampNeg (v4 + 2))) (xs (Int32.toNatClampNeg (v4 + 3))) x227 (fun r231 x232 => (r226 = r231 ∧ L23 (v4 + 6) x232)))))) ∧ (((xs (Int32.toNatClampNeg v4)) &&& 63) = 30 → (vp_in (v4 + 1) L ∧ vp_in (v4 + 2) L ∧ wX11_why (xs (Int32.toNatClampNeg (v4 + 1))) (xs (Int32.toNatClampNeg (v4 + 2))) x (fun r235 x236 => (wX12_why (xs (Int32.toNatClampNeg (v4 + 1))) (xs (Int32.toNatClampNeg (v4 + 2))) x236 (fun r239 x240 => (r235 = r239 ∧ L23 (v4 + 6) x240)))))) ∧ (((xs (Int32.toNatClampNeg v4)) &&& 63) = 31 → (vp_in (v4 + 1) L ∧ wX11_tick (xs (Int32.toNatClampNeg (v4 + 1))) x (fun r242 x243 => (wX12_tick (xs (Int32.toNatClampNeg (v4 + 1))) x243 (fun r245 x246 => (r242 = r245 ∧ L23 (v4 + 6) x246)))))) ∧ (((xs (Int32.toNatClampNeg v4)) &&& 63) = 32 → (vp_in (v4 + 1) L ∧ wX11_act (xs (Int32.toNatClampNeg (v4 + 1))) x (fun r248 x249 => (wX12_act (xs (Int32.toNatClampNeg (v4 + 1))) x249 (fun r251 x252 => (r248 = r251 ∧ L23 (v4 + 6) x252)))))) ∧ (((xs (Int32.toNatClampNeg v4)) &&& 63) = 33 → (vp_in (v4 + 1) L ∧ vp_in (v4 + 2) L ∧ wX11_force (xs (Int32.toNatClampNeg (v4 + 1))) (xs (Int32.toNatClampNeg (v4 + 2))) x (fun r255 => (wX12_force (xs (Int32.toNatClampNeg (v4 + 1))) (xs (Int32.toNatClampNeg (v4 + 2))) x (fun r258 x259 => (r255 = r258 ∧ L23 (v4 + 6) x259)))))) ∧ (((xs (Int32.toNatClampNeg v4)) &&& 63) = 34 → (vp_in (v4 + 1) L ∧ vp_in (v4 + 2) L ∧ vp_in (v4 + 3) L ∧ wX11_change (xs (Int32.toNatClampNeg (v4 + 1))) (xs (Int32.toNatClampNeg (v4 + 2))) (xs (Int32.toNatClampNeg (v4 + 3))) x (fun r263 x264 => (wX12_change (xs (Int32.toNatClampNeg (v4 + 1))) (xs (Int32.toNatClampNeg (v4 + 2))) (xs (Int32.toNatClampNeg (v4 + 3))) x264 (fun r268 x269 => (r263 = r268 ∧ L23 (v4 + 6) x269)))))) ∧ (((xs (Int32.toNatClampNeg v4)) &&& 63) = 35 → (vp_in (v4 + 1) L ∧ vp_in (v4 + 2) L ∧ wX11_used (xs (Int32.toNatClampNeg (v4 + 1))) (xs (Int32.toNatClampNeg (v4 + 2))) x (fun r272 => (wX12_used (xs (Int32.toNatClampNeg (v4 + 1))) (xs (Int32.toNatClampNeg (v4 + 2))) x (fun r275 x276 => (r272 = r275 ∧ L23 (v4 + 6) x276)))))) ∧ (((xs (Int32.toNatClampNeg v4)) &&& 63) = 36 → (vp_in (v4 + 1) L ∧ wX11_look (xs (Int32.toNatClampNeg (v4 + 1))) x (fun r278 x279 => (wX12_look_ (xs (Int32.toNatClampNeg (v4 + 1))) x279 (fun r281 x282 => (r278 = r281 ∧ L23 (v4 + 6) x282)))))) ∧ (((xs (Int32.toNatClampNeg v4)) &&& 63) = 37 → (vp_in (v4 + 1) L ∧ vp_in (v4 + 2) L ∧ wX11_fails (xs (Int32.toNatClampNeg (v4 + 1))) (xs (Int32.toNatClampNeg (v4 + 2))) x (fun r285 x286 => (wX12_fails (xs (Int32.toNatClampNeg (v4 + 1))) (xs (Int32.toNatClampNeg (v4 + 2))) x286 (fun r289 x290 => (r285 = r289 ∧ L23 (v4 + 6) x290)))))) ∧ (((xs (Int32.toNatClampNeg v4)) &&& 63) = 38 → (vp_in (v4 + 1) L ∧ vp_in (v4 + 2) L ∧ vp_in (v4 + 3) L ∧ wX11_code (xs (Int32.toNatClampNeg (v4 + 1))) (xs (Int32.toNatClampNeg (v4 + 2))) (xs (Int32.toNatClampNeg (v4 + 3))) x (fun r294 x295 => (wX12_code (xs (Int32.toNatClampNeg (v4 + 1))) (xs (Int32.toNatClampNeg (v4 + 2))) (xs (Int32.toNatClampNeg (v4 + 3))) x295 (fun r299 x300 => (r294 = r299 ∧ L23 (v4 + 6) x300)))))) ∧ (((xs (Int32.toNatClampNeg v4)) &&& 63) = 39 → wX11_failing x (fun r301 x302 => wX12_failing x302 (fun r303 x304 => (r301 = r303 ∧ L23 (v4 + 6) x304)))) ∧ (((xs (Int32.toNatClampNeg v4)) &&& 63) = 40 → (vp_in (v4 + 1) L ∧ vp_in (v4 + 2) L ∧ vp_in (v4 + 3) L ∧ wX11_round (xs (Int32.toNatClampNeg (v4 + 1))) (xs (Int32.toNatClampNeg (v4 + 2))) (xs (Int32.toNatClampNeg (v4 + 3))) x (fun r308 x309 => (wX12_round (xs (Int32.toNatClampNeg (v4 + 1))) (xs (Int32.toNatClampNeg (v4 + 2))) (xs (Int32.toNatClampNeg (v4 + 3))) x309 (fun r313 x314 => (r308 = r313 ∧ L23 (v4 + 6) x314)))))) ∧ (((xs (Int32.toNatClampNeg v4)) &&& 63) = 41 → (vp_in (v4 + 1) L ∧ vp_in (v4 + 2) L ∧ vp_in (v4 + 3) L ∧ wX11_rounded (xs (Int32.toNatClampNeg (v4 + 1))) (xs (Int32.toNatClampNeg (v4 + 2))) (xs (Int32.toNatClampNeg (v4 + 3))) x (fun r318 x319 => (wX12_rounded (xs (Int32.toNatClampNeg (v4 + 1))) (xs (Int32.toNatClampNeg (v4 + 2))) (xs (Int32.toNatClampNeg (v4 + 3))) x319 (fun r323 x324 => (r318 = r323 ∧ L23 (v4 + 6) x324)))))) ∧ (((xs (Int32.toNatClampNeg v4)) &&& 63) = 42 → (vp_in (v4 + 1) L ∧ vp_in (v4 + 2) L ∧ wX11_plan (xs (Int32.toNatClampNeg (v4 + 1))) (xs (Int32.toNatClampNeg (v4 + 2))) x (fun r327 x328 => (wX12_plan (xs (Int32.toNatClampNeg (v4 + 1))) (xs (Int32.toNatClampNeg (v4 + 2))) x328 (fun r331 x332 => (r327 = r331 ∧ L23 (v4 + 6) x332)))))) ∧ (((xs (Int32.toNatClampNeg v4)) &&& 63) = 43 → (vp_in (v4 + 1) L ∧ vp_in (v4 + 2) L ∧ vp_in (v4 + 3) L ∧ wX11_planned (xs (Int32.toNatClampNeg (v4 + 1))) (xs (Int32.toNatClampNeg (v4 + 2))) (xs (Int32.toNatClampNeg (v4 + 3))) x (fun r336 x337 => (wX12_planned (xs (Int32.toNatClampNeg (v4 + 1))) (xs (Int32.toNatClampNeg (v4 + 2))) (xs (Int32.toNatClampNeg (v4 + 3))) x337 (fun r341 x342 => (r336 = r341 ∧ L23 (v4 + 6) x342)))))) ∧ (((xs (Int32.toNatClampNeg v4)) &&& 63) = 44 → (vp_in (v4 + 1) L ∧ wX11_row (xs (Int32.toNatClampNeg (v4 + 1))) x (fun r344 x345 => (wX12_row (xs (Int32.toNatClampNeg (v4 + 1))) x345 (fun r347 x348 => (r344 = r347 ∧ L23 (v4 + 6) x348)))))) ∧ (((xs (Int32.toNatClampNeg v4)) &&& 63) = 45 → (vp_in (v4 + 1) L ∧ vp_in (v4 + 2) L ∧ vp_in (v4 + 3) L ∧ wX11_put (xs (Int32.toNatClampNeg (v4 + 1))) (xs (Int32.toNatClampNeg (v4 + 2))) (xs (Int32.toNatClampNeg (v4 + 3))) x (fun r352 x353 => (wX12_put (xs (Int32.toNatClampNeg (v4 + 1))) (xs (Int32.toNatClampNeg (v4 + 2))) (xs (Int32.toNatClampNeg (v4 + 3))) x353 (fun r357 x358 => (r352 = r357 ∧ L23 (v4 + 6) x358)))))) ∧ (((xs (Int32.toNatClampNeg v4)) &&& 63) = 46 → (vp_in (v4 + 1) L ∧ wX11_lose (xs (Int32.toNatClampNeg (v4 + 1))) x (fun r360 x361 => (wX12_lose (xs (Int32.toNatClampNeg (v4 + 1))) x361 (fun r363 x364 => (r360 = r363 ∧ L23 (v4 + 6) x364)))))) ∧ (((xs (Int32.toNatClampNeg v4)) &&& 63) = 47 → (vp_in (v4 + 1) L ∧ vp_in (v4 + 2) L ∧ vp_in (v4 + 3) L ∧ vp_in (v4 + 4) L ∧ vp_in (v4 + 5) L ∧ wX11_copy (xs (Int32.toNatClampNeg (v4 + 1))) (xs (Int32.toNatClampNeg (v4 + 2))) (xs (Int32.toNatClampNeg (v4 + 3))) (xs (Int32.toNatClampNeg (v4 + 4))) (xs (Int32.toNatClampNeg (v4 + 5))) x (fun r370 x371 => (wX12_copy (xs (Int32.toNatClampNeg (v4 + 1))) (xs (Int32.toNatClampNeg (v4 + 2))) (xs (Int32.toNatClampNeg (v4 + 3))) (xs (Int32.toNatClampNeg (v4 + 4))) (xs (Int32.toNatClampNeg (v4 + 5))) x371 (fun r377 x378 => (r370 = r377 ∧ L23 (v4 + 6) x378)))))) ∧ (((xs (Int32.toNatClampNeg v4)) &&& 63) = 48 → (vp_in (v4 + 1) L ∧ vp_in (v4 + 2) L ∧ vp_in (v4 + 3) L ∧ wX11_judge (xs (Int32.toNatClampNeg (v4 + 1))) (xs (Int32.toNatClampNeg (v4 + 2))) (xs (Int32.toNatClampNeg (v4 + 3))) x (fun r382 x383 => (wX12_judge (xs (Int32.toNatClampNeg (v4 + 1))) (xs (Int32.toNatClampNeg (v4 + 2))) (xs (Int32.toNatClampNeg (v4 + 3))) x383 (fun r387 x388 => (dD r382 = dD r387 ∧ L23 (v4 + 6) x388)))))) ∧ (((xs (Int32.toNatClampNeg v4)) &&& 63) = 49 → (vp_in (v4 + 1) L ∧ vp_in (v4 + 2) L ∧ vp_in (v4 + 3) L ∧ vp_in (v4 + 4) L ∧ wX11_loss (xs (Int32.toNatClampNeg (v4 + 1))) (xs (Int32.toNatClampNeg (v4 + 2))) (xs (Int32.toNatClampNeg (v4 + 3))) (xs (Int32.toNatClampNeg (v4 + 4))) x (fun r393 x394 => (wX12_loss (xs (Int32.toNatClampNeg (v4 + 1))) (xs (Int32.toNatClampNeg (v4 + 2))) (xs (Int32.toNatClampNeg (v4 + 3))) (xs (Int32.toNatClampNeg (v4 + 4))) x394 (fun r399 x400 => (dD r393 = dD r399 ∧ L23 (v4 + 6) x400)))))) ∧ (((xs (Int32.toNatClampNeg v4)) &&& 63) = 50 → (vp_in (v4 + 1) L ∧ vp_in (v4 + 2) L ∧ vp_in (v4 + 3) L ∧ vp_in (v4 + 4) L ∧ wX11_what (xs (Int32.toNatClampNeg (v4 + 1))) (xs (Int32.toNatClampNeg (v4 + 2))) (xs (Int32.toNatClampNeg (v4 + 3))) (xs (Int32.toNatClampNeg (v4 + 4))) x (fun r405 x406 => (wX12_what (xs (Int32.toNatClampNeg (v4 + 1))) (xs (Int32.toNatClampNeg (v4 + 2))) (xs (Int32.toNatClampNeg (v4 + 3))) (xs (Int32.toNatClampNeg (v4 + 4))) x406 (fun r411 x412 => (r405 = r411 ∧ L23 (v4 + 6) x412)))))) ∧ (((xs (Int32.toNatClampNeg v4)) &&& 63) = 51 → (vp_in (v4 + 1) L ∧ wX11_count (xs (Int32.toNatClampNeg (v4 + 1))) x (fun r414 => (wX12_count (xs (Int32.toNatClampNeg (v4 + 1))) x (fun r416 x417 => (r414 = r416 ∧ L23 (v4 + 6) x417))))))))))
set_option maxHeartbeats 8000000 in
set_option maxRecDepth 100000 in
theorem sL_law_23 (v4 : Int32) (x : ab_X) (L : Nat) (xs : Nat → Int32) (hLL : L ≤ 3072) (hab : el_aboutRule) (bu : Nat) (hbu : nb v4 ≤ bu) (h : Lp2 (lL_law_23 L xs) v4 x) : EL L xs 23 [(1, .ref 0), (2, .ref 246), (3, .ref 337), (4, .int v4)] [] (aS x) bu := by
  refine Lp2.use (P := fun v4 x => ∀ bu, nb v4 ≤ bu → EL L xs 23 [(1, .ref 0), (2, .ref 246), (3, .ref 337), (4, .int v4)] [] (aS x) bu) (fun L23 v4 x hL23 h bu hbu => ?_) v4 x h bu hbu
  unfold lL_law_23 at h
  refine EL_iload (pc2 := 25) rfl dL_law_23 3 rfl ?_
  refine EL_len (pc2 := 27) rfl dL_law_25 dL_law_26 ?_
  refine EL_bipush (pc2 := 29) (v := 6) rfl dL_law_27 (by decide) ?_
  refine EL_isub (pc2 := 30) rfl dL_law_29 ?_
  refine EL_icmp_gt (tgt := 2545) (pc2 := 33) rfl dL_law_30 (by decide) (fun q => ?_) (fun q => ?_)
  · replace h := h.1 q
    refine EL_iconst (pc2 := 2546) (v := 1) rfl dL_law_2545 (by decide) ?_
    exact EL_ret1 dL_law_2546
  · replace h := h.2 q
    obtain ⟨b1, h⟩ := h
    replace hbu := Nat.le_trans (nb_step hLL b1) hbu
    refine EL_scr0 (pc2 := 37) rfl dL_law_33 dL_law_34 dL_law_36 3 rfl b1 ?_
    refine EL_bipush (pc2 := 39) (v := 63) rfl dL_law_37 (by decide) ?_
    refine EL_iand (pc2 := 40) rfl dL_law_39 ?_
    by_cases qo : Int32.toInt ((xs (Int32.toNatClampNeg v4)) &&& 63) < 0 ∨ 51 < Int32.toInt ((xs (Int32.toNatClampNeg v4)) &&& 63)
    · replace h := h.1 qo
      refine EL_tabOut (tgt := 2539) dL_law_40 qo (by decide) ?_
      refine EL_iinc (v4 + 6) (pc2 := 2542) rfl dL_law_2539 (by decide) 3 rfl rfl (by decide) [1, 2, 3, 0] [(1, .ref 0), (2, .ref 246), (3, .ref 337), (4, .int (v4 + 6))] rfl ?_
      refine EL_goto (tgt := 23) dL_law_2542 (by decide) ?_
      exact hL23 (v4 + 6) x h bu (by omega)
    · obtain ⟨kk, hkk, qk⟩ := sw_in 0 51 (by decide) qo
      match kk, hkk, qk with
      | 0, _, qk =>
        replace h := h.2.1 qk
        refine EL_tabIn (off := 224) (tgt := 264) dL_law_40 (by rw [qk]; decide) (by rw [qk]; decide) (by rw [qk]; decide) (by decide) ?_
        refine EL_aload_n (pc2 := 265) rfl dL_law_264 0 rfl ?_
        obtain ⟨b2, h⟩ := h
        refine EL_scrk (v := 1) (pc2 := 271) rfl dL_law_265 dL_law_266 dL_law_268 dL_law_269 dL_law_270 (by decide) 3 rfl b2 ?_
        obtain ⟨b3, h⟩ := h
        refine EL_scrk (v := 2) (pc2 := 277) rfl dL_law_271 dL_law_272 dL_law_274 dL_law_275 dL_law_276 (by decide) 3 rfl b3 ?_
        obtain ⟨b4, h⟩ := h
        refine EL_scrk (v := 3) (pc2 := 283) rfl dL_law_277 dL_law_278 dL_law_280 dL_law_281 dL_law_282 (by decide) 3 rfl b4 ?_
        refine EL_invV (M' := MX11_street) [.int (xs (Int32.toNatClampNeg (v4 + 1))), .int (xs (Int32.toNatClampNeg (v4 + 2))), .int (xs (Int32.toNatClampNeg (v4 + 3)))] (rest := []) mlRL_19.1 mlRL_19.2.1 mlRL_19.2.2 q0.1 q0.2 (by decide) rfl (pc2 := 286) rfl okX11_street dL_law_283 rfl rfl (Nat.le_of_ble_eq_true rfl) (Nat.le_of_ble_eq_true rfl) (d' := 4) (by decide) (b1 := 0) (Nat.zero_add _) (Or.inl rfl) (EW_mono (fun _ _ hr => ?_) (sX11_street (xs (Int32.toNatClampNeg (v4 + 1))) (xs (Int32.toNatClampNeg (v4 + 2))) (xs (Int32.toNatClampNeg (v4 + 3)))  x _ _ 0 0 (Nat.le_refl _) h))
        obtain ⟨r5, x6, rfl, rfl, h⟩ := hr
        replace h := And.intro b2 (And.intro b3 (And.intro b4 h))
        refine EL_aload_n (pc2 := 287) rfl dL_law_286 1 rfl ?_
        obtain ⟨b7, h⟩ := h
        refine EL_scrk (v := 1) (pc2 := 293) rfl dL_law_287 dL_law_288 dL_law_290 dL_law_291 dL_law_292 (by decide) 3 rfl b7 ?_
        obtain ⟨b8, h⟩ := h
        refine EL_scrk (v := 2) (pc2 := 299) rfl dL_law_293 dL_law_294 dL_law_296 dL_law_297 dL_law_298 (by decide) 3 rfl b8 ?_
        obtain ⟨b9, h⟩ := h
        refine EL_scrk (v := 3) (pc2 := 305) rfl dL_law_299 dL_law_300 dL_law_302 dL_law_303 dL_law_304 (by decide) 3 rfl b9 ?_
        refine EL_invV (M' := MX12_street) [.int (xs (Int32.toNatClampNeg (v4 + 1))), .int (xs (Int32.toNatClampNeg (v4 + 2))), .int (xs (Int32.toNatClampNeg (v4 + 3)))] (rest := [.int r5]) mlRL_23.1 mlRL_23.2.1 mlRL_23.2.2 q246.1 q246.2 (by decide) rfl (pc2 := 308) rfl okX12_street dL_law_305 rfl rfl (Nat.le_of_ble_eq_true rfl) (Nat.le_of_ble_eq_true rfl) (d' := 1) (by decide) (b1 := 0) (Nat.zero_add _) (Or.inl rfl) (EW_mono (fun _ _ hr => ?_) (sX12_street (xs (Int32.toNatClampNeg (v4 + 1))) (xs (Int32.toNatClampNeg (v4 + 2))) (xs (Int32.toNatClampNeg (v4 + 3)))  x6 _ _ 0 0 (Nat.le_refl _) h))
        obtain ⟨r10, x11, rfl, rfl, h⟩ := hr
        replace h := law_leaf h
        refine EL_icmp_eq (tgt := 2539) (pc2 := 311) rfl dL_law_308 (by decide) (fun q => ?_) (fun q => ?_)
        · replace h := h.1 q
          refine EL_iinc (v4 + 6) (pc2 := 2542) rfl dL_law_2539 (by decide) 3 rfl rfl (by decide) [1, 2, 3, 0] [(1, .ref 0), (2, .ref 246), (3, .ref 337), (4, .int (v4 + 6))] rfl ?_
          refine EL_goto (tgt := 23) dL_law_2542 (by decide) ?_
          exact hL23 (v4 + 6) x11 h bu (by omega)
        · replace h := h.2 q
          refine EL_iconst (pc2 := 312) (v := 0) rfl dL_law_311 (by decide) ?_
          exact False.elim h
      | 1, _, qk =>
        replace h := h.2.2.1 qk
        refine EL_tabIn (off := 273) (tgt := 313) dL_law_40 (by rw [qk]; decide) (by rw [qk]; decide) (by rw [qk]; decide) (by decide) ?_
        refine EL_aload_n (pc2 := 314) rfl dL_law_313 0 rfl ?_
        obtain ⟨b12, h⟩ := h
        refine EL_scrk (v := 1) (pc2 := 320) rfl dL_law_314 dL_law_315 dL_law_317 dL_law_318 dL_law_319 (by decide) 3 rfl b12 ?_
        obtain ⟨b13, h⟩ := h
        refine EL_scrk (v := 2) (pc2 := 326) rfl dL_law_320 dL_law_321 dL_law_323 dL_law_324 dL_law_325 (by decide) 3 rfl b13 ?_
        obtain ⟨b14, h⟩ := h
        refine EL_scrk (v := 3) (pc2 := 332) rfl dL_law_326 dL_law_327 dL_law_329 dL_law_330 dL_law_331 (by decide) 3 rfl b14 ?_
        refine EL_invV (M' := MX11_jam) [.int (xs (Int32.toNatClampNeg (v4 + 1))), .int (xs (Int32.toNatClampNeg (v4 + 2))), .int (xs (Int32.toNatClampNeg (v4 + 3)))] (rest := []) mlRL_24.1 mlRL_24.2.1 mlRL_24.2.2 q0.1 q0.2 (by decide) rfl (pc2 := 335) rfl okX11_jam dL_law_332 rfl rfl (Nat.le_of_ble_eq_true rfl) (Nat.le_of_ble_eq_true rfl) (d' := 1) (by decide) (b1 := 0) (Nat.zero_add _) (Or.inl rfl) (EW_mono (fun _ _ hr => ?_) (sX11_jam (xs (Int32.toNatClampNeg (v4 + 1))) (xs (Int32.toNatClampNeg (v4 + 2))) (xs (Int32.toNatClampNeg (v4 + 3)))  x _ _ 0 0 (Nat.le_refl _) h))
        obtain ⟨r15, x16, rfl, rfl, h⟩ := hr
        replace h := And.intro b12 (And.intro b13 (And.intro b14 h))
        refine EL_aload_n (pc2 := 336) rfl dL_law_335 1 rfl ?_
        obtain ⟨b17, h⟩ := h
        refine EL_scrk (v := 1) (pc2 := 342) rfl dL_law_336 dL_law_337 dL_law_339 dL_law_340 dL_law_341 (by decide) 3 rfl b17 ?_
        obtain ⟨b18, h⟩ := h
        refine EL_scrk (v := 2) (pc2 := 348) rfl dL_law_342 dL_law_343 dL_law_345 dL_law_346 dL_law_347 (by decide) 3 rfl b18 ?_
        obtain ⟨b19, h⟩ := h
        refine EL_scrk (v := 3) (pc2 := 354) rfl dL_law_348 dL_law_349 dL_law_351 dL_law_352 dL_law_353 (by decide) 3 rfl b19 ?_
        refine EL_invV (M' := MX12_jam) [.int (xs (Int32.toNatClampNeg (v4 + 1))), .int (xs (Int32.toNatClampNeg (v4 + 2))), .int (xs (Int32.toNatClampNeg (v4 + 3)))] (rest := [.int r15]) mlRL_28.1 mlRL_28.2.1 mlRL_28.2.2 q246.1 q246.2 (by decide) rfl (pc2 := 357) rfl okX12_jam dL_law_354 rfl rfl (Nat.le_of_ble_eq_true rfl) (Nat.le_of_ble_eq_true rfl) (d' := 1) (by decide) (b1 := 0) (Nat.zero_add _) (Or.inl rfl) (EW_mono (fun _ _ hr => ?_) (sX12_jam (xs (Int32.toNatClampNeg (v4 + 1))) (xs (Int32.toNatClampNeg (v4 + 2))) (xs (Int32.toNatClampNeg (v4 + 3)))  x16 _ _ 0 0 (Nat.le_refl _) h))
        obtain ⟨r20, x21, rfl, rfl, h⟩ := hr
        replace h := law_leaf h
        refine EL_icmp_eq (tgt := 2539) (pc2 := 360) rfl dL_law_357 (by decide) (fun q => ?_) (fun q => ?_)
        · replace h := h.1 q
          refine EL_iinc (v4 + 6) (pc2 := 2542) rfl dL_law_2539 (by decide) 3 rfl rfl (by decide) [1, 2, 3, 0] [(1, .ref 0), (2, .ref 246), (3, .ref 337), (4, .int (v4 + 6))] rfl ?_
          refine EL_goto (tgt := 23) dL_law_2542 (by decide) ?_
          exact hL23 (v4 + 6) x21 h bu (by omega)
        · replace h := h.2 q
          refine EL_iconst (pc2 := 361) (v := 0) rfl dL_law_360 (by decide) ?_
          exact False.elim h
      | 2, _, qk =>
        replace h := h.2.2.2.1 qk
        refine EL_tabIn (off := 322) (tgt := 362) dL_law_40 (by rw [qk]; decide) (by rw [qk]; decide) (by rw [qk]; decide) (by decide) ?_
        refine EL_aload_n (pc2 := 363) rfl dL_law_362 0 rfl ?_
        obtain ⟨b22, h⟩ := h
        refine EL_scrk (v := 1) (pc2 := 369) rfl dL_law_363 dL_law_364 dL_law_366 dL_law_367 dL_law_368 (by decide) 3 rfl b22 ?_
        obtain ⟨b23, h⟩ := h
        refine EL_scrk (v := 2) (pc2 := 375) rfl dL_law_369 dL_law_370 dL_law_372 dL_law_373 dL_law_374 (by decide) 3 rfl b23 ?_
        refine EL_if_eq (tgt := 382) (pc2 := 378) rfl dL_law_375 (by decide) (fun q => ?_) (fun q => ?_)
        · replace h := h.1 q
          refine EL_iconst (pc2 := 383) (v := 0) rfl dL_law_382 (by decide) ?_
          exact sL_law_383 v4 (xs (Int32.toNatClampNeg (v4 + 1))) 0 x L xs L23 hLL hab bu hbu hL23 h
        · replace h := h.2 q
          refine EL_iconst (pc2 := 379) (v := 1) rfl dL_law_378 (by decide) ?_
          refine EL_goto (tgt := 383) dL_law_379 (by decide) ?_
          exact sL_law_383 v4 (xs (Int32.toNatClampNeg (v4 + 1))) 1 x L xs L23 hLL hab bu hbu hL23 h
      | 3, _, qk =>
        replace h := h.2.2.2.2.1 qk
        refine EL_tabIn (off := 375) (tgt := 415) dL_law_40 (by rw [qk]; decide) (by rw [qk]; decide) (by rw [qk]; decide) (by decide) ?_
        refine EL_aload_n (pc2 := 416) rfl dL_law_415 0 rfl ?_
        obtain ⟨b24, h⟩ := h
        refine EL_scrk (v := 1) (pc2 := 422) rfl dL_law_416 dL_law_417 dL_law_419 dL_law_420 dL_law_421 (by decide) 3 rfl b24 ?_
        obtain ⟨b25, h⟩ := h
        refine EL_scrk (v := 2) (pc2 := 428) rfl dL_law_422 dL_law_423 dL_law_425 dL_law_426 dL_law_427 (by decide) 3 rfl b25 ?_
        obtain ⟨b26, h⟩ := h
        refine EL_scrk (v := 3) (pc2 := 434) rfl dL_law_428 dL_law_429 dL_law_431 dL_law_432 dL_law_433 (by decide) 3 rfl b26 ?_
        obtain ⟨b27, h⟩ := h
        refine EL_scrk (v := 4) (pc2 := 440) rfl dL_law_434 dL_law_435 dL_law_437 dL_law_438 dL_law_439 (by decide) 3 rfl b27 ?_
        refine EL_invV (M' := MX11_come) [.int (xs (Int32.toNatClampNeg (v4 + 1))), .int (xs (Int32.toNatClampNeg (v4 + 2))), .int (xs (Int32.toNatClampNeg (v4 + 3))), .int (xs (Int32.toNatClampNeg (v4 + 4)))] (rest := []) mlRL_34.1 mlRL_34.2.1 mlRL_34.2.2 q0.1 q0.2 (by decide) rfl (pc2 := 443) rfl okX11_come dL_law_440 rfl rfl (Nat.le_of_ble_eq_true rfl) (Nat.le_of_ble_eq_true rfl) (d' := 2) (by decide) (b1 := 0) (Nat.zero_add _) (Or.inl rfl) (EW_mono (fun _ _ hr => ?_) (sX11_come (xs (Int32.toNatClampNeg (v4 + 1))) (xs (Int32.toNatClampNeg (v4 + 2))) (xs (Int32.toNatClampNeg (v4 + 3))) (xs (Int32.toNatClampNeg (v4 + 4)))  x _ _ 0 0 (Nat.le_refl _) h))
        obtain ⟨r28, x29, rfl, rfl, h⟩ := hr
        replace h := And.intro b24 (And.intro b25 (And.intro b26 (And.intro b27 h)))
        refine EL_aload_n (pc2 := 444) rfl dL_law_443 1 rfl ?_
        obtain ⟨b30, h⟩ := h
        refine EL_scrk (v := 1) (pc2 := 450) rfl dL_law_444 dL_law_445 dL_law_447 dL_law_448 dL_law_449 (by decide) 3 rfl b30 ?_
        obtain ⟨b31, h⟩ := h
        refine EL_scrk (v := 2) (pc2 := 456) rfl dL_law_450 dL_law_451 dL_law_453 dL_law_454 dL_law_455 (by decide) 3 rfl b31 ?_
        obtain ⟨b32, h⟩ := h
        refine EL_scrk (v := 3) (pc2 := 462) rfl dL_law_456 dL_law_457 dL_law_459 dL_law_460 dL_law_461 (by decide) 3 rfl b32 ?_
        obtain ⟨b33, h⟩ := h
        refine EL_scrk (v := 4) (pc2 := 468) rfl dL_law_462 dL_law_463 dL_law_465 dL_law_466 dL_law_467 (by decide) 3 rfl b33 ?_
        refine EL_invV (M' := MX12_come) [.int (xs (Int32.toNatClampNeg (v4 + 1))), .int (xs (Int32.toNatClampNeg (v4 + 2))), .int (xs (Int32.toNatClampNeg (v4 + 3))), .int (xs (Int32.toNatClampNeg (v4 + 4)))] (rest := [.int r28]) mlRL_38.1 mlRL_38.2.1 mlRL_38.2.2 q246.1 q246.2 (by decide) rfl (pc2 := 471) rfl okX12_come dL_law_468 rfl rfl (Nat.le_of_ble_eq_true rfl) (Nat.le_of_ble_eq_true rfl) (d' := 2) (by decide) (b1 := 0) (Nat.zero_add _) (Or.inl rfl) (EW_mono (fun _ _ hr => ?_) (sX12_come (xs (Int32.toNatClampNeg (v4 + 1))) (xs (Int32.toNatClampNeg (v4 + 2))) (xs (Int32.toNatClampNeg (v4 + 3))) (xs (Int32.toNatClampNeg (v4 + 4)))  x29 _ _ 0 0 (Nat.le_refl _) h))
        obtain ⟨r34, x35, rfl, rfl, h⟩ := hr
        replace h := law_leaf h
        refine EL_icmp_eq (tgt := 2539) (pc2 := 474) rfl dL_law_471 (by decide) (fun q => ?_) (fun q => ?_)
        · replace h := h.1 q
          refine EL_iinc (v4 + 6) (pc2 := 2542) rfl dL_law_2539 (by decide) 3 rfl rfl (by decide) [1, 2, 3, 0] [(1, .ref 0), (2, .ref 246), (3, .ref 337), (4, .int (v4 + 6))] rfl ?_
          refine EL_goto (tgt := 23) dL_law_2542 (by decide) ?_
          exact hL23 (v4 + 6) x35 h bu (by omega)
        · replace h := h.2 q
          refine EL_iconst (pc2 := 475) (v := 0) rfl dL_law_474 (by decide) ?_
          exact False.elim h
      | 4, _, qk =>
        replace h := h.2.2.2.2.2.1 qk
        refine EL_tabIn (off := 436) (tgt := 476) dL_law_40 (by rw [qk]; decide) (by rw [qk]; decide) (by rw [qk]; decide) (by decide) ?_
        refine EL_aload_n (pc2 := 477) rfl dL_law_476 0 rfl ?_
        obtain ⟨b36, h⟩ := h
        refine EL_scrk (v := 1) (pc2 := 483) rfl dL_law_477 dL_law_478 dL_law_480 dL_law_481 dL_law_482 (by decide) 3 rfl b36 ?_
        obtain ⟨b37, h⟩ := h
        refine EL_scrk (v := 2) (pc2 := 489) rfl dL_law_483 dL_law_484 dL_law_486 dL_law_487 dL_law_488 (by decide) 3 rfl b37 ?_
        refine EL_invV (M' := MX11_feet) [.int (xs (Int32.toNatClampNeg (v4 + 1))), .int (xs (Int32.toNatClampNeg (v4 + 2)))] (rest := []) mlRL_39.1 mlRL_39.2.1 mlRL_39.2.2 q0.1 q0.2 (by decide) rfl (pc2 := 492) rfl okX11_feet dL_law_489 rfl rfl (Nat.le_of_ble_eq_true rfl) (Nat.le_of_ble_eq_true rfl) (d' := 2) (by decide) (b1 := 0) (Nat.zero_add _) (Or.inl rfl) (EW_mono (fun _ _ hr => ?_) (sX11_feet (xs (Int32.toNatClampNeg (v4 + 1))) (xs (Int32.toNatClampNeg (v4 + 2)))  x _ _ 0 0 (Nat.le_refl _) h))
        obtain ⟨r38, rfl, rfl, h⟩ := hr
        replace h := And.intro b36 (And.intro b37 h)
        refine EL_aload_n (pc2 := 493) rfl dL_law_492 1 rfl ?_
        obtain ⟨b39, h⟩ := h
        refine EL_scrk (v := 1) (pc2 := 499) rfl dL_law_493 dL_law_494 dL_law_496 dL_law_497 dL_law_498 (by decide) 3 rfl b39 ?_
        obtain ⟨b40, h⟩ := h
        refine EL_scrk (v := 2) (pc2 := 505) rfl dL_law_499 dL_law_500 dL_law_502 dL_law_503 dL_law_504 (by decide) 3 rfl b40 ?_
        refine EL_invV (M' := MX12_feet) [.int (xs (Int32.toNatClampNeg (v4 + 1))), .int (xs (Int32.toNatClampNeg (v4 + 2)))] (rest := [.int r38]) mlRL_42.1 mlRL_42.2.1 mlRL_42.2.2 q246.1 q246.2 (by decide) rfl (pc2 := 508) rfl okX12_feet dL_law_505 rfl rfl (Nat.le_of_ble_eq_true rfl) (Nat.le_of_ble_eq_true rfl) (d' := 1) (by decide) (b1 := 0) (Nat.zero_add _) (Or.inl rfl) (EW_mono (fun _ _ hr => ?_) (sX12_feet (xs (Int32.toNatClampNeg (v4 + 1))) (xs (Int32.toNatClampNeg (v4 + 2)))  x _ _ 0 0 (Nat.le_refl _) h))
        obtain ⟨r41, x42, rfl, rfl, h⟩ := hr
        replace h := law_leaf h
        refine EL_icmp_eq (tgt := 2539) (pc2 := 511) rfl dL_law_508 (by decide) (fun q => ?_) (fun q => ?_)
        · replace h := h.1 q
          refine EL_iinc (v4 + 6) (pc2 := 2542) rfl dL_law_2539 (by decide) 3 rfl rfl (by decide) [1, 2, 3, 0] [(1, .ref 0), (2, .ref 246), (3, .ref 337), (4, .int (v4 + 6))] rfl ?_
          refine EL_goto (tgt := 23) dL_law_2542 (by decide) ?_
          exact hL23 (v4 + 6) x42 h bu (by omega)
        · replace h := h.2 q
          refine EL_iconst (pc2 := 512) (v := 0) rfl dL_law_511 (by decide) ?_
          exact False.elim h
      | 5, _, qk =>
        replace h := h.2.2.2.2.2.2.1 qk
        refine EL_tabIn (off := 473) (tgt := 513) dL_law_40 (by rw [qk]; decide) (by rw [qk]; decide) (by rw [qk]; decide) (by decide) ?_
        refine EL_aload_n (pc2 := 514) rfl dL_law_513 0 rfl ?_
        obtain ⟨b43, h⟩ := h
        refine EL_scrk (v := 1) (pc2 := 520) rfl dL_law_514 dL_law_515 dL_law_517 dL_law_518 dL_law_519 (by decide) 3 rfl b43 ?_
        obtain ⟨b44, h⟩ := h
        refine EL_scrk (v := 2) (pc2 := 526) rfl dL_law_520 dL_law_521 dL_law_523 dL_law_524 dL_law_525 (by decide) 3 rfl b44 ?_
        obtain ⟨b45, h⟩ := h
        refine EL_scrk (v := 3) (pc2 := 532) rfl dL_law_526 dL_law_527 dL_law_529 dL_law_530 dL_law_531 (by decide) 3 rfl b45 ?_
        obtain ⟨b46, h⟩ := h
        refine EL_scrk (v := 4) (pc2 := 538) rfl dL_law_532 dL_law_533 dL_law_535 dL_law_536 dL_law_537 (by decide) 3 rfl b46 ?_
        obtain ⟨b47, h⟩ := h
        refine EL_scrk (v := 5) (pc2 := 544) rfl dL_law_538 dL_law_539 dL_law_541 dL_law_542 dL_law_543 (by decide) 3 rfl b47 ?_
        refine EL_invV (M' := MX11_house) [.int (xs (Int32.toNatClampNeg (v4 + 1))), .int (xs (Int32.toNatClampNeg (v4 + 2))), .int (xs (Int32.toNatClampNeg (v4 + 3))), .int (xs (Int32.toNatClampNeg (v4 + 4))), .int (xs (Int32.toNatClampNeg (v4 + 5)))] (rest := []) mlRL_43.1 mlRL_43.2.1 mlRL_43.2.2 q0.1 q0.2 (by decide) rfl (pc2 := 547) rfl okX11_house dL_law_544 rfl rfl (Nat.le_of_ble_eq_true rfl) (Nat.le_of_ble_eq_true rfl) (d' := 3) (by decide) (b1 := 0) (Nat.zero_add _) (Or.inl rfl) (EW_mono (fun _ _ hr => ?_) (sX11_house (xs (Int32.toNatClampNeg (v4 + 1))) (xs (Int32.toNatClampNeg (v4 + 2))) (xs (Int32.toNatClampNeg (v4 + 3))) (xs (Int32.toNatClampNeg (v4 + 4))) (xs (Int32.toNatClampNeg (v4 + 5)))  x _ _ 0 0 (Nat.le_refl _) h))
        obtain ⟨r48, x49, rfl, rfl, h⟩ := hr
        replace h := And.intro b43 (And.intro b44 (And.intro b45 (And.intro b46 (And.intro b47 h))))
        refine EL_aload_n (pc2 := 548) rfl dL_law_547 1 rfl ?_
        obtain ⟨b50, h⟩ := h
        refine EL_scrk (v := 1) (pc2 := 554) rfl dL_law_548 dL_law_549 dL_law_551 dL_law_552 dL_law_553 (by decide) 3 rfl b50 ?_
        obtain ⟨b51, h⟩ := h
        refine EL_scrk (v := 2) (pc2 := 560) rfl dL_law_554 dL_law_555 dL_law_557 dL_law_558 dL_law_559 (by decide) 3 rfl b51 ?_
        obtain ⟨b52, h⟩ := h
        refine EL_scrk (v := 3) (pc2 := 566) rfl dL_law_560 dL_law_561 dL_law_563 dL_law_564 dL_law_565 (by decide) 3 rfl b52 ?_
        obtain ⟨b53, h⟩ := h
        refine EL_scrk (v := 4) (pc2 := 572) rfl dL_law_566 dL_law_567 dL_law_569 dL_law_570 dL_law_571 (by decide) 3 rfl b53 ?_
        obtain ⟨b54, h⟩ := h
        refine EL_scrk (v := 5) (pc2 := 578) rfl dL_law_572 dL_law_573 dL_law_575 dL_law_576 dL_law_577 (by decide) 3 rfl b54 ?_
        refine EL_invV (M' := MX12_house) [.int (xs (Int32.toNatClampNeg (v4 + 1))), .int (xs (Int32.toNatClampNeg (v4 + 2))), .int (xs (Int32.toNatClampNeg (v4 + 3))), .int (xs (Int32.toNatClampNeg (v4 + 4))), .int (xs (Int32.toNatClampNeg (v4 + 5)))] (rest := [.int r48]) mlRL_47.1 mlRL_47.2.1 mlRL_47.2.2 q246.1 q246.2 (by decide) rfl (pc2 := 581) rfl okX12_house dL_law_578 rfl rfl (Nat.le_of_ble_eq_true rfl) (Nat.le_of_ble_eq_true rfl) (d' := 1) (by decide) (b1 := 0) (Nat.zero_add _) (Or.inl rfl) (EW_mono (fun _ _ hr => ?_) (sX12_house (xs (Int32.toNatClampNeg (v4 + 1))) (xs (Int32.toNatClampNeg (v4 + 2))) (xs (Int32.toNatClampNeg (v4 + 3))) (xs (Int32.toNatClampNeg (v4 + 4))) (xs (Int32.toNatClampNeg (v4 + 5)))  x49 _ _ 0 0 (Nat.le_refl _) h))
        obtain ⟨r55, x56, rfl, rfl, h⟩ := hr
        replace h := law_leaf h
        refine EL_icmp_eq (tgt := 2539) (pc2 := 584) rfl dL_law_581 (by decide) (fun q => ?_) (fun q => ?_)
        · replace h := h.1 q
          refine EL_iinc (v4 + 6) (pc2 := 2542) rfl dL_law_2539 (by decide) 3 rfl rfl (by decide) [1, 2, 3, 0] [(1, .ref 0), (2, .ref 246), (3, .ref 337), (4, .int (v4 + 6))] rfl ?_
          refine EL_goto (tgt := 23) dL_law_2542 (by decide) ?_
          exact hL23 (v4 + 6) x56 h bu (by omega)
        · replace h := h.2 q
          refine EL_iconst (pc2 := 585) (v := 0) rfl dL_law_584 (by decide) ?_
          exact False.elim h
      | 6, _, qk =>
        replace h := h.2.2.2.2.2.2.2.1 qk
        refine EL_tabIn (off := 546) (tgt := 586) dL_law_40 (by rw [qk]; decide) (by rw [qk]; decide) (by rw [qk]; decide) (by decide) ?_
        refine EL_aload_n (pc2 := 587) rfl dL_law_586 0 rfl ?_
        obtain ⟨b57, h⟩ := h
        refine EL_scrk (v := 1) (pc2 := 593) rfl dL_law_587 dL_law_588 dL_law_590 dL_law_591 dL_law_592 (by decide) 3 rfl b57 ?_
        obtain ⟨b58, h⟩ := h
        refine EL_scrk (v := 2) (pc2 := 599) rfl dL_law_593 dL_law_594 dL_law_596 dL_law_597 dL_law_598 (by decide) 3 rfl b58 ?_
        refine EL_if_eq (tgt := 606) (pc2 := 602) rfl dL_law_599 (by decide) (fun q => ?_) (fun q => ?_)
        · replace h := h.1 q
          refine EL_iconst (pc2 := 607) (v := 0) rfl dL_law_606 (by decide) ?_
          exact sL_law_607 v4 (xs (Int32.toNatClampNeg (v4 + 1))) 0 x L xs L23 hLL hab bu hbu hL23 h
        · replace h := h.2 q
          refine EL_iconst (pc2 := 603) (v := 1) rfl dL_law_602 (by decide) ?_
          refine EL_goto (tgt := 607) dL_law_603 (by decide) ?_
          exact sL_law_607 v4 (xs (Int32.toNatClampNeg (v4 + 1))) 1 x L xs L23 hLL hab bu hbu hL23 h
      | 7, _, qk =>
        replace h := h.2.2.2.2.2.2.2.2.1 qk
        refine EL_tabIn (off := 623) (tgt := 663) dL_law_40 (by rw [qk]; decide) (by rw [qk]; decide) (by rw [qk]; decide) (by decide) ?_
        refine EL_aload_n (pc2 := 664) rfl dL_law_663 0 rfl ?_
        obtain ⟨b59, h⟩ := h
        refine EL_scrk (v := 1) (pc2 := 670) rfl dL_law_664 dL_law_665 dL_law_667 dL_law_668 dL_law_669 (by decide) 3 rfl b59 ?_
        obtain ⟨b60, h⟩ := h
        refine EL_scrk (v := 2) (pc2 := 676) rfl dL_law_670 dL_law_671 dL_law_673 dL_law_674 dL_law_675 (by decide) 3 rfl b60 ?_
        refine EL_invV (M' := MX11_use) [.int (xs (Int32.toNatClampNeg (v4 + 1))), .int (xs (Int32.toNatClampNeg (v4 + 2)))] (rest := []) mlRL_53.1 mlRL_53.2.1 mlRL_53.2.2 q0.1 q0.2 (by decide) rfl (pc2 := 679) rfl okX11_use dL_law_676 rfl rfl (Nat.le_of_ble_eq_true rfl) (Nat.le_of_ble_eq_true rfl) (d' := 2) (by decide) (b1 := 0) (Nat.zero_add _) (Or.inl rfl) (EW_mono (fun _ _ hr => ?_) (sX11_use (xs (Int32.toNatClampNeg (v4 + 1))) (xs (Int32.toNatClampNeg (v4 + 2)))  x _ _ 0 0 (Nat.le_refl _) h))
        obtain ⟨r61, x62, rfl, rfl, h⟩ := hr
        replace h := And.intro b59 (And.intro b60 h)
        refine EL_aload_n (pc2 := 680) rfl dL_law_679 1 rfl ?_
        obtain ⟨b63, h⟩ := h
        refine EL_scrk (v := 1) (pc2 := 686) rfl dL_law_680 dL_law_681 dL_law_683 dL_law_684 dL_law_685 (by decide) 3 rfl b63 ?_
        obtain ⟨b64, h⟩ := h
        refine EL_scrk (v := 2) (pc2 := 692) rfl dL_law_686 dL_law_687 dL_law_689 dL_law_690 dL_law_691 (by decide) 3 rfl b64 ?_
        refine EL_invV (M' := MX12_use) [.int (xs (Int32.toNatClampNeg (v4 + 1))), .int (xs (Int32.toNatClampNeg (v4 + 2)))] (rest := [.int r61]) mlRL_57.1 mlRL_57.2.1 mlRL_57.2.2 q246.1 q246.2 (by decide) rfl (pc2 := 695) rfl okX12_use dL_law_692 rfl rfl (Nat.le_of_ble_eq_true rfl) (Nat.le_of_ble_eq_true rfl) (d' := 1) (by decide) (b1 := 0) (Nat.zero_add _) (Or.inl rfl) (EW_mono (fun _ _ hr => ?_) (sX12_use (xs (Int32.toNatClampNeg (v4 + 1))) (xs (Int32.toNatClampNeg (v4 + 2)))  x62 _ _ 0 0 (Nat.le_refl _) h))
        obtain ⟨r65, x66, rfl, rfl, h⟩ := hr
        replace h := law_leaf h
        refine EL_icmp_eq (tgt := 2539) (pc2 := 698) rfl dL_law_695 (by decide) (fun q => ?_) (fun q => ?_)
        · replace h := h.1 q
          refine EL_iinc (v4 + 6) (pc2 := 2542) rfl dL_law_2539 (by decide) 3 rfl rfl (by decide) [1, 2, 3, 0] [(1, .ref 0), (2, .ref 246), (3, .ref 337), (4, .int (v4 + 6))] rfl ?_
          refine EL_goto (tgt := 23) dL_law_2542 (by decide) ?_
          exact hL23 (v4 + 6) x66 h bu (by omega)
        · replace h := h.2 q
          refine EL_iconst (pc2 := 699) (v := 0) rfl dL_law_698 (by decide) ?_
          exact False.elim h
      | 8, _, qk =>
        replace h := h.2.2.2.2.2.2.2.2.2.1 qk
        refine EL_tabIn (off := 660) (tgt := 700) dL_law_40 (by rw [qk]; decide) (by rw [qk]; decide) (by rw [qk]; decide) (by decide) ?_
        refine EL_aload_n (pc2 := 701) rfl dL_law_700 0 rfl ?_
        obtain ⟨b67, h⟩ := h
        refine EL_scrk (v := 1) (pc2 := 707) rfl dL_law_701 dL_law_702 dL_law_704 dL_law_705 dL_law_706 (by decide) 3 rfl b67 ?_
        obtain ⟨b68, h⟩ := h
        refine EL_scrk (v := 2) (pc2 := 713) rfl dL_law_707 dL_law_708 dL_law_710 dL_law_711 dL_law_712 (by decide) 3 rfl b68 ?_
        obtain ⟨b69, h⟩ := h
        refine EL_scrk (v := 3) (pc2 := 719) rfl dL_law_713 dL_law_714 dL_law_716 dL_law_717 dL_law_718 (by decide) 3 rfl b69 ?_
        obtain ⟨b70, h⟩ := h
        refine EL_scrk (v := 4) (pc2 := 725) rfl dL_law_719 dL_law_720 dL_law_722 dL_law_723 dL_law_724 (by decide) 3 rfl b70 ?_
        refine EL_invV (M' := MX11_floor) [.int (xs (Int32.toNatClampNeg (v4 + 1))), .int (xs (Int32.toNatClampNeg (v4 + 2))), .int (xs (Int32.toNatClampNeg (v4 + 3))), .int (xs (Int32.toNatClampNeg (v4 + 4)))] (rest := []) mlRL_58.1 mlRL_58.2.1 mlRL_58.2.2 q0.1 q0.2 (by decide) rfl (pc2 := 728) rfl okX11_floor dL_law_725 rfl rfl (Nat.le_of_ble_eq_true rfl) (Nat.le_of_ble_eq_true rfl) (d' := 4) (by decide) (b1 := 0) (Nat.zero_add _) (Or.inl rfl) (EW_mono (fun _ _ hr => ?_) (sX11_floor (xs (Int32.toNatClampNeg (v4 + 1))) (xs (Int32.toNatClampNeg (v4 + 2))) (xs (Int32.toNatClampNeg (v4 + 3))) (xs (Int32.toNatClampNeg (v4 + 4)))  x _ _ 0 0 (Nat.le_refl _) h))
        obtain ⟨r71, x72, rfl, rfl, h⟩ := hr
        replace h := And.intro b67 (And.intro b68 (And.intro b69 (And.intro b70 h)))
        refine EL_aload_n (pc2 := 729) rfl dL_law_728 1 rfl ?_
        obtain ⟨b73, h⟩ := h
        refine EL_scrk (v := 1) (pc2 := 735) rfl dL_law_729 dL_law_730 dL_law_732 dL_law_733 dL_law_734 (by decide) 3 rfl b73 ?_
        obtain ⟨b74, h⟩ := h
        refine EL_scrk (v := 2) (pc2 := 741) rfl dL_law_735 dL_law_736 dL_law_738 dL_law_739 dL_law_740 (by decide) 3 rfl b74 ?_
        obtain ⟨b75, h⟩ := h
        refine EL_scrk (v := 3) (pc2 := 747) rfl dL_law_741 dL_law_742 dL_law_744 dL_law_745 dL_law_746 (by decide) 3 rfl b75 ?_
        obtain ⟨b76, h⟩ := h
        refine EL_scrk (v := 4) (pc2 := 753) rfl dL_law_747 dL_law_748 dL_law_750 dL_law_751 dL_law_752 (by decide) 3 rfl b76 ?_
        refine EL_invV (M' := MX12_floor) [.int (xs (Int32.toNatClampNeg (v4 + 1))), .int (xs (Int32.toNatClampNeg (v4 + 2))), .int (xs (Int32.toNatClampNeg (v4 + 3))), .int (xs (Int32.toNatClampNeg (v4 + 4)))] (rest := [.int r71]) mlRL_62.1 mlRL_62.2.1 mlRL_62.2.2 q246.1 q246.2 (by decide) rfl (pc2 := 756) rfl okX12_floor dL_law_753 rfl rfl (Nat.le_of_ble_eq_true rfl) (Nat.le_of_ble_eq_true rfl) (d' := 5) (by decide) (b1 := 0) (Nat.zero_add _) (Or.inl rfl) (EW_mono (fun _ _ hr => ?_) (sX12_floor (xs (Int32.toNatClampNeg (v4 + 1))) (xs (Int32.toNatClampNeg (v4 + 2))) (xs (Int32.toNatClampNeg (v4 + 3))) (xs (Int32.toNatClampNeg (v4 + 4)))  x72 _ _ 0 0 (Nat.le_refl _) h))
        obtain ⟨r77, x78, rfl, rfl, h⟩ := hr
        replace h := law_leaf h
        refine EL_icmp_eq (tgt := 2539) (pc2 := 759) rfl dL_law_756 (by decide) (fun q => ?_) (fun q => ?_)
        · replace h := h.1 q
          refine EL_iinc (v4 + 6) (pc2 := 2542) rfl dL_law_2539 (by decide) 3 rfl rfl (by decide) [1, 2, 3, 0] [(1, .ref 0), (2, .ref 246), (3, .ref 337), (4, .int (v4 + 6))] rfl ?_
          refine EL_goto (tgt := 23) dL_law_2542 (by decide) ?_
          exact hL23 (v4 + 6) x78 h bu (by omega)
        · replace h := h.2 q
          refine EL_iconst (pc2 := 760) (v := 0) rfl dL_law_759 (by decide) ?_
          exact False.elim h
      | 9, _, qk =>
        replace h := h.2.2.2.2.2.2.2.2.2.2.1 qk
        refine EL_tabIn (off := 721) (tgt := 761) dL_law_40 (by rw [qk]; decide) (by rw [qk]; decide) (by rw [qk]; decide) (by decide) ?_
        refine EL_aload_n (pc2 := 762) rfl dL_law_761 0 rfl ?_
        obtain ⟨b79, h⟩ := h
        refine EL_scrk (v := 1) (pc2 := 768) rfl dL_law_762 dL_law_763 dL_law_765 dL_law_766 dL_law_767 (by decide) 3 rfl b79 ?_
        obtain ⟨b80, h⟩ := h
        refine EL_scrk (v := 2) (pc2 := 774) rfl dL_law_768 dL_law_769 dL_law_771 dL_law_772 dL_law_773 (by decide) 3 rfl b80 ?_
        refine EL_invV (M' := MX11_light) [.int (xs (Int32.toNatClampNeg (v4 + 1))), .int (xs (Int32.toNatClampNeg (v4 + 2)))] (rest := []) mlRL_63.1 mlRL_63.2.1 mlRL_63.2.2 q0.1 q0.2 (by decide) rfl (pc2 := 777) rfl okX11_light dL_law_774 rfl rfl (Nat.le_of_ble_eq_true rfl) (Nat.le_of_ble_eq_true rfl) (d' := 4) (by decide) (b1 := 0) (Nat.zero_add _) (Or.inl rfl) (EW_mono (fun _ _ hr => ?_) (sX11_light (xs (Int32.toNatClampNeg (v4 + 1))) (xs (Int32.toNatClampNeg (v4 + 2)))  x _ _ 0 0 (Nat.le_refl _) h))
        obtain ⟨r81, x82, rfl, rfl, h⟩ := hr
        replace h := And.intro b79 (And.intro b80 h)
        refine EL_aload_n (pc2 := 778) rfl dL_law_777 1 rfl ?_
        obtain ⟨b83, h⟩ := h
        refine EL_scrk (v := 1) (pc2 := 784) rfl dL_law_778 dL_law_779 dL_law_781 dL_law_782 dL_law_783 (by decide) 3 rfl b83 ?_
        obtain ⟨b84, h⟩ := h
        refine EL_scrk (v := 2) (pc2 := 790) rfl dL_law_784 dL_law_785 dL_law_787 dL_law_788 dL_law_789 (by decide) 3 rfl b84 ?_
        refine EL_invV (M' := MX12_light) [.int (xs (Int32.toNatClampNeg (v4 + 1))), .int (xs (Int32.toNatClampNeg (v4 + 2)))] (rest := [.int r81]) mlRL_66.1 mlRL_66.2.1 mlRL_66.2.2 q246.1 q246.2 (by decide) rfl (pc2 := 793) rfl okX12_light dL_law_790 rfl rfl (Nat.le_of_ble_eq_true rfl) (Nat.le_of_ble_eq_true rfl) (d' := 5) (by decide) (b1 := 0) (Nat.zero_add _) (Or.inl rfl) (EW_mono (fun _ _ hr => ?_) (sX12_light (xs (Int32.toNatClampNeg (v4 + 1))) (xs (Int32.toNatClampNeg (v4 + 2)))  x82 _ _ 0 0 (Nat.le_refl _) h))
        obtain ⟨r85, x86, rfl, rfl, h⟩ := hr
        replace h := law_leaf h
        refine EL_icmp_eq (tgt := 2539) (pc2 := 796) rfl dL_law_793 (by decide) (fun q => ?_) (fun q => ?_)
        · replace h := h.1 q
          refine EL_iinc (v4 + 6) (pc2 := 2542) rfl dL_law_2539 (by decide) 3 rfl rfl (by decide) [1, 2, 3, 0] [(1, .ref 0), (2, .ref 246), (3, .ref 337), (4, .int (v4 + 6))] rfl ?_
          refine EL_goto (tgt := 23) dL_law_2542 (by decide) ?_
          exact hL23 (v4 + 6) x86 h bu (by omega)
        · replace h := h.2 q
          refine EL_iconst (pc2 := 797) (v := 0) rfl dL_law_796 (by decide) ?_
          exact False.elim h
      | 10, _, qk =>
        replace h := h.2.2.2.2.2.2.2.2.2.2.2.1 qk
        refine EL_tabIn (off := 758) (tgt := 798) dL_law_40 (by rw [qk]; decide) (by rw [qk]; decide) (by rw [qk]; decide) (by decide) ?_
        refine EL_aload_n (pc2 := 799) rfl dL_law_798 0 rfl ?_
        obtain ⟨b87, h⟩ := h
        refine EL_scrk (v := 1) (pc2 := 805) rfl dL_law_799 dL_law_800 dL_law_802 dL_law_803 dL_law_804 (by decide) 3 rfl b87 ?_
        obtain ⟨b88, h⟩ := h
        refine EL_scrk (v := 2) (pc2 := 811) rfl dL_law_805 dL_law_806 dL_law_808 dL_law_809 dL_law_810 (by decide) 3 rfl b88 ?_
        obtain ⟨b89, h⟩ := h
        refine EL_scrk (v := 3) (pc2 := 817) rfl dL_law_811 dL_law_812 dL_law_814 dL_law_815 dL_law_816 (by decide) 3 rfl b89 ?_
        refine EL_invV (M' := MX11_room) [.int (xs (Int32.toNatClampNeg (v4 + 1))), .int (xs (Int32.toNatClampNeg (v4 + 2))), .int (xs (Int32.toNatClampNeg (v4 + 3)))] (rest := []) mlRL_67.1 mlRL_67.2.1 mlRL_67.2.2 q0.1 q0.2 (by decide) rfl (pc2 := 820) rfl okX11_room dL_law_817 rfl rfl (Nat.le_of_ble_eq_true rfl) (Nat.le_of_ble_eq_true rfl) (d' := 3) (by decide) (b1 := 0) (Nat.zero_add _) (Or.inl rfl) (EW_mono (fun _ _ hr => ?_) (sX11_room (xs (Int32.toNatClampNeg (v4 + 1))) (xs (Int32.toNatClampNeg (v4 + 2))) (xs (Int32.toNatClampNeg (v4 + 3)))  x _ _ 0 0 (Nat.le_refl _) h))
        obtain ⟨r90, rfl, rfl, h⟩ := hr
        replace h := And.intro b87 (And.intro b88 (And.intro b89 h))
        refine EL_aload_n (pc2 := 821) rfl dL_law_820 1 rfl ?_
        obtain ⟨b91, h⟩ := h
        refine EL_scrk (v := 1) (pc2 := 827) rfl dL_law_821 dL_law_822 dL_law_824 dL_law_825 dL_law_826 (by decide) 3 rfl b91 ?_
        obtain ⟨b92, h⟩ := h
        refine EL_scrk (v := 2) (pc2 := 833) rfl dL_law_827 dL_law_828 dL_law_830 dL_law_831 dL_law_832 (by decide) 3 rfl b92 ?_
        obtain ⟨b93, h⟩ := h
        refine EL_scrk (v := 3) (pc2 := 839) rfl dL_law_833 dL_law_834 dL_law_836 dL_law_837 dL_law_838 (by decide) 3 rfl b93 ?_
        refine EL_invV (M' := MX12_room) [.int (xs (Int32.toNatClampNeg (v4 + 1))), .int (xs (Int32.toNatClampNeg (v4 + 2))), .int (xs (Int32.toNatClampNeg (v4 + 3)))] (rest := [.int r90]) mlRL_70.1 mlRL_70.2.1 mlRL_70.2.2 q246.1 q246.2 (by decide) rfl (pc2 := 842) rfl okX12_room dL_law_839 rfl rfl (Nat.le_of_ble_eq_true rfl) (Nat.le_of_ble_eq_true rfl) (d' := 2) (by decide) (b1 := 0) (Nat.zero_add _) (Or.inl rfl) (EW_mono (fun _ _ hr => ?_) (sX12_room (xs (Int32.toNatClampNeg (v4 + 1))) (xs (Int32.toNatClampNeg (v4 + 2))) (xs (Int32.toNatClampNeg (v4 + 3)))  x _ _ 0 0 (Nat.le_refl _) h))
        obtain ⟨r94, x95, rfl, rfl, h⟩ := hr
        replace h := law_leaf h
        refine EL_icmp_eq (tgt := 2539) (pc2 := 845) rfl dL_law_842 (by decide) (fun q => ?_) (fun q => ?_)
        · replace h := h.1 q
          refine EL_iinc (v4 + 6) (pc2 := 2542) rfl dL_law_2539 (by decide) 3 rfl rfl (by decide) [1, 2, 3, 0] [(1, .ref 0), (2, .ref 246), (3, .ref 337), (4, .int (v4 + 6))] rfl ?_
          refine EL_goto (tgt := 23) dL_law_2542 (by decide) ?_
          exact hL23 (v4 + 6) x95 h bu (by omega)
        · replace h := h.2 q
          refine EL_iconst (pc2 := 846) (v := 0) rfl dL_law_845 (by decide) ?_
          exact False.elim h
      | 11, _, qk =>
        replace h := h.2.2.2.2.2.2.2.2.2.2.2.2.1 qk
        refine EL_tabIn (off := 807) (tgt := 847) dL_law_40 (by rw [qk]; decide) (by rw [qk]; decide) (by rw [qk]; decide) (by decide) ?_
        refine EL_aload_n (pc2 := 848) rfl dL_law_847 0 rfl ?_
        obtain ⟨b96, h⟩ := h
        refine EL_scrk (v := 1) (pc2 := 854) rfl dL_law_848 dL_law_849 dL_law_851 dL_law_852 dL_law_853 (by decide) 3 rfl b96 ?_
        obtain ⟨b97, h⟩ := h
        refine EL_scrk (v := 2) (pc2 := 860) rfl dL_law_854 dL_law_855 dL_law_857 dL_law_858 dL_law_859 (by decide) 3 rfl b97 ?_
        obtain ⟨b98, h⟩ := h
        refine EL_scrk (v := 3) (pc2 := 866) rfl dL_law_860 dL_law_861 dL_law_863 dL_law_864 dL_law_865 (by decide) 3 rfl b98 ?_
        refine EL_invV (M' := MX11_floored) [.int (xs (Int32.toNatClampNeg (v4 + 1))), .int (xs (Int32.toNatClampNeg (v4 + 2))), .int (xs (Int32.toNatClampNeg (v4 + 3)))] (rest := []) mlRL_71.1 mlRL_71.2.1 mlRL_71.2.2 q0.1 q0.2 (by decide) rfl (pc2 := 869) rfl okX11_floored dL_law_866 rfl rfl (Nat.le_of_ble_eq_true rfl) (Nat.le_of_ble_eq_true rfl) (d' := 3) (by decide) (b1 := 0) (Nat.zero_add _) (Or.inl rfl) (EW_mono (fun _ _ hr => ?_) (sX11_floored (xs (Int32.toNatClampNeg (v4 + 1))) (xs (Int32.toNatClampNeg (v4 + 2))) (xs (Int32.toNatClampNeg (v4 + 3)))  x _ _ 0 0 (Nat.le_refl _) h))
        obtain ⟨r99, rfl, rfl, h⟩ := hr
        replace h := And.intro b96 (And.intro b97 (And.intro b98 h))
        refine EL_aload_n (pc2 := 870) rfl dL_law_869 1 rfl ?_
        obtain ⟨b100, h⟩ := h
        refine EL_scrk (v := 1) (pc2 := 876) rfl dL_law_870 dL_law_871 dL_law_873 dL_law_874 dL_law_875 (by decide) 3 rfl b100 ?_
        obtain ⟨b101, h⟩ := h
        refine EL_scrk (v := 2) (pc2 := 882) rfl dL_law_876 dL_law_877 dL_law_879 dL_law_880 dL_law_881 (by decide) 3 rfl b101 ?_
        obtain ⟨b102, h⟩ := h
        refine EL_scrk (v := 3) (pc2 := 888) rfl dL_law_882 dL_law_883 dL_law_885 dL_law_886 dL_law_887 (by decide) 3 rfl b102 ?_
        refine EL_invV (M' := MX12_floored) [.int (xs (Int32.toNatClampNeg (v4 + 1))), .int (xs (Int32.toNatClampNeg (v4 + 2))), .int (xs (Int32.toNatClampNeg (v4 + 3)))] (rest := [.int r99]) mlRL_74.1 mlRL_74.2.1 mlRL_74.2.2 q246.1 q246.2 (by decide) rfl (pc2 := 891) rfl okX12_floored dL_law_888 rfl rfl (Nat.le_of_ble_eq_true rfl) (Nat.le_of_ble_eq_true rfl) (d' := 2) (by decide) (b1 := 0) (Nat.zero_add _) (Or.inl rfl) (EW_mono (fun _ _ hr => ?_) (sX12_floored (xs (Int32.toNatClampNeg (v4 + 1))) (xs (Int32.toNatClampNeg (v4 + 2))) (xs (Int32.toNatClampNeg (v4 + 3)))  x _ _ 0 0 (Nat.le_refl _) h))
        obtain ⟨r103, x104, rfl, rfl, h⟩ := hr
        replace h := law_leaf h
        refine EL_icmp_eq (tgt := 2539) (pc2 := 894) rfl dL_law_891 (by decide) (fun q => ?_) (fun q => ?_)
        · replace h := h.1 q
          refine EL_iinc (v4 + 6) (pc2 := 2542) rfl dL_law_2539 (by decide) 3 rfl rfl (by decide) [1, 2, 3, 0] [(1, .ref 0), (2, .ref 246), (3, .ref 337), (4, .int (v4 + 6))] rfl ?_
          refine EL_goto (tgt := 23) dL_law_2542 (by decide) ?_
          exact hL23 (v4 + 6) x104 h bu (by omega)
        · replace h := h.2 q
          refine EL_iconst (pc2 := 895) (v := 0) rfl dL_law_894 (by decide) ?_
          exact False.elim h
      | 12, _, qk =>
        replace h := h.2.2.2.2.2.2.2.2.2.2.2.2.2.1 qk
        refine EL_tabIn (off := 856) (tgt := 896) dL_law_40 (by rw [qk]; decide) (by rw [qk]; decide) (by rw [qk]; decide) (by decide) ?_
        refine EL_aload_n (pc2 := 897) rfl dL_law_896 0 rfl ?_
        obtain ⟨b105, h⟩ := h
        refine EL_scrk (v := 1) (pc2 := 903) rfl dL_law_897 dL_law_898 dL_law_900 dL_law_901 dL_law_902 (by decide) 3 rfl b105 ?_
        obtain ⟨b106, h⟩ := h
        refine EL_scrk (v := 2) (pc2 := 909) rfl dL_law_903 dL_law_904 dL_law_906 dL_law_907 dL_law_908 (by decide) 3 rfl b106 ?_
        refine EL_invV (M' := MX11_housed) [.int (xs (Int32.toNatClampNeg (v4 + 1))), .int (xs (Int32.toNatClampNeg (v4 + 2)))] (rest := []) mlRL_75.1 mlRL_75.2.1 mlRL_75.2.2 q0.1 q0.2 (by decide) rfl (pc2 := 912) rfl okX11_housed dL_law_909 rfl rfl (Nat.le_of_ble_eq_true rfl) (Nat.le_of_ble_eq_true rfl) (d' := 3) (by decide) (b1 := 0) (Nat.zero_add _) (Or.inl rfl) (EW_mono (fun _ _ hr => ?_) (sX11_housed (xs (Int32.toNatClampNeg (v4 + 1))) (xs (Int32.toNatClampNeg (v4 + 2)))  x _ _ 0 0 (Nat.le_refl _) h))
        obtain ⟨r107, rfl, rfl, h⟩ := hr
        replace h := And.intro b105 (And.intro b106 h)
        refine EL_aload_n (pc2 := 913) rfl dL_law_912 1 rfl ?_
        obtain ⟨b108, h⟩ := h
        refine EL_scrk (v := 1) (pc2 := 919) rfl dL_law_913 dL_law_914 dL_law_916 dL_law_917 dL_law_918 (by decide) 3 rfl b108 ?_
        obtain ⟨b109, h⟩ := h
        refine EL_scrk (v := 2) (pc2 := 925) rfl dL_law_919 dL_law_920 dL_law_922 dL_law_923 dL_law_924 (by decide) 3 rfl b109 ?_
        refine EL_invV (M' := MX12_housed) [.int (xs (Int32.toNatClampNeg (v4 + 1))), .int (xs (Int32.toNatClampNeg (v4 + 2)))] (rest := [.int r107]) mlRL_78.1 mlRL_78.2.1 mlRL_78.2.2 q246.1 q246.2 (by decide) rfl (pc2 := 928) rfl okX12_housed dL_law_925 rfl rfl (Nat.le_of_ble_eq_true rfl) (Nat.le_of_ble_eq_true rfl) (d' := 3) (by decide) (b1 := 0) (Nat.zero_add _) (Or.inl rfl) (EW_mono (fun _ _ hr => ?_) (sX12_housed (xs (Int32.toNatClampNeg (v4 + 1))) (xs (Int32.toNatClampNeg (v4 + 2)))  x _ _ 0 0 (Nat.le_refl _) h))
        obtain ⟨r110, x111, rfl, rfl, h⟩ := hr
        replace h := law_leaf h
        refine EL_icmp_eq (tgt := 2539) (pc2 := 931) rfl dL_law_928 (by decide) (fun q => ?_) (fun q => ?_)
        · replace h := h.1 q
          refine EL_iinc (v4 + 6) (pc2 := 2542) rfl dL_law_2539 (by decide) 3 rfl rfl (by decide) [1, 2, 3, 0] [(1, .ref 0), (2, .ref 246), (3, .ref 337), (4, .int (v4 + 6))] rfl ?_
          refine EL_goto (tgt := 23) dL_law_2542 (by decide) ?_
          exact hL23 (v4 + 6) x111 h bu (by omega)
        · replace h := h.2 q
          refine EL_iconst (pc2 := 932) (v := 0) rfl dL_law_931 (by decide) ?_
          exact False.elim h
      | 13, _, qk =>
        replace h := h.2.2.2.2.2.2.2.2.2.2.2.2.2.2.1 qk
        refine EL_tabIn (off := 893) (tgt := 933) dL_law_40 (by rw [qk]; decide) (by rw [qk]; decide) (by rw [qk]; decide) (by decide) ?_
        refine EL_aload_n (pc2 := 934) rfl dL_law_933 0 rfl ?_
        obtain ⟨b112, h⟩ := h
        refine EL_scrk (v := 1) (pc2 := 940) rfl dL_law_934 dL_law_935 dL_law_937 dL_law_938 dL_law_939 (by decide) 3 rfl b112 ?_
        refine EL_invV (M' := MX11_main) [.int (xs (Int32.toNatClampNeg (v4 + 1)))] (rest := []) mlRL_79.1 mlRL_79.2.1 mlRL_79.2.2 q0.1 q0.2 (by decide) rfl (pc2 := 943) rfl okX11_main dL_law_940 rfl rfl (Nat.le_of_ble_eq_true rfl) (Nat.le_of_ble_eq_true rfl) (d' := 1) (by decide) (b1 := 0) (Nat.zero_add _) (Or.inl rfl) (EW_mono (fun _ _ hr => ?_) (sX11_main (xs (Int32.toNatClampNeg (v4 + 1)))  x _ _ 0 0 (Nat.le_refl _) h))
        obtain ⟨r113, x114, rfl, rfl, h⟩ := hr
        replace h := And.intro b112 h
        refine EL_aload_n (pc2 := 944) rfl dL_law_943 1 rfl ?_
        obtain ⟨b115, h⟩ := h
        refine EL_scrk (v := 1) (pc2 := 950) rfl dL_law_944 dL_law_945 dL_law_947 dL_law_948 dL_law_949 (by decide) 3 rfl b115 ?_
        refine EL_invV (M' := MX12_main) [.int (xs (Int32.toNatClampNeg (v4 + 1)))] (rest := [.int r113]) mlRL_83.1 mlRL_83.2.1 mlRL_83.2.2 q246.1 q246.2 (by decide) rfl (pc2 := 953) rfl okX12_main dL_law_950 rfl rfl (Nat.le_of_ble_eq_true rfl) (Nat.le_of_ble_eq_true rfl) (d' := 1) (by decide) (b1 := 0) (Nat.zero_add _) (Or.inl rfl) (EW_mono (fun _ _ hr => ?_) (sX12_main (xs (Int32.toNatClampNeg (v4 + 1)))  x114 _ _ 0 0 (Nat.le_refl _) h))
        obtain ⟨r116, x117, rfl, rfl, h⟩ := hr
        replace h := law_leaf h
        refine EL_icmp_eq (tgt := 2539) (pc2 := 956) rfl dL_law_953 (by decide) (fun q => ?_) (fun q => ?_)
        · replace h := h.1 q
          refine EL_iinc (v4 + 6) (pc2 := 2542) rfl dL_law_2539 (by decide) 3 rfl rfl (by decide) [1, 2, 3, 0] [(1, .ref 0), (2, .ref 246), (3, .ref 337), (4, .int (v4 + 6))] rfl ?_
          refine EL_goto (tgt := 23) dL_law_2542 (by decide) ?_
          exact hL23 (v4 + 6) x117 h bu (by omega)
        · replace h := h.2 q
          refine EL_iconst (pc2 := 957) (v := 0) rfl dL_law_956 (by decide) ?_
          exact False.elim h
      | 14, _, qk =>
        replace h := h.2.2.2.2.2.2.2.2.2.2.2.2.2.2.2.1 qk
        refine EL_tabIn (off := 918) (tgt := 958) dL_law_40 (by rw [qk]; decide) (by rw [qk]; decide) (by rw [qk]; decide) (by decide) ?_
        refine EL_aload_n (pc2 := 959) rfl dL_law_958 0 rfl ?_
        obtain ⟨b118, h⟩ := h
        refine EL_scrk (v := 1) (pc2 := 965) rfl dL_law_959 dL_law_960 dL_law_962 dL_law_963 dL_law_964 (by decide) 3 rfl b118 ?_
        obtain ⟨b119, h⟩ := h
        refine EL_scrk (v := 2) (pc2 := 971) rfl dL_law_965 dL_law_966 dL_law_968 dL_law_969 dL_law_970 (by decide) 3 rfl b119 ?_
        refine EL_invV (M' := MX11_head) [.int (xs (Int32.toNatClampNeg (v4 + 1))), .int (xs (Int32.toNatClampNeg (v4 + 2)))] (rest := []) mlRL_84.1 mlRL_84.2.1 mlRL_84.2.2 q0.1 q0.2 (by decide) rfl (pc2 := 974) rfl okX11_head dL_law_971 rfl rfl (Nat.le_of_ble_eq_true rfl) (Nat.le_of_ble_eq_true rfl) (d' := 1) (by decide) (b1 := 0) (Nat.zero_add _) (Or.inl rfl) (EW_mono (fun _ _ hr => ?_) (sX11_head (xs (Int32.toNatClampNeg (v4 + 1))) (xs (Int32.toNatClampNeg (v4 + 2)))  x _ _ 0 0 (Nat.le_refl _) h))
        obtain ⟨r120, x121, rfl, rfl, h⟩ := hr
        replace h := And.intro b118 (And.intro b119 h)
        refine EL_aload_n (pc2 := 975) rfl dL_law_974 1 rfl ?_
        obtain ⟨b122, h⟩ := h
        refine EL_scrk (v := 1) (pc2 := 981) rfl dL_law_975 dL_law_976 dL_law_978 dL_law_979 dL_law_980 (by decide) 3 rfl b122 ?_
        obtain ⟨b123, h⟩ := h
        refine EL_scrk (v := 2) (pc2 := 987) rfl dL_law_981 dL_law_982 dL_law_984 dL_law_985 dL_law_986 (by decide) 3 rfl b123 ?_
        refine EL_invV (M' := MX12_head) [.int (xs (Int32.toNatClampNeg (v4 + 1))), .int (xs (Int32.toNatClampNeg (v4 + 2)))] (rest := [.int r120]) mlRL_87.1 mlRL_87.2.1 mlRL_87.2.2 q246.1 q246.2 (by decide) rfl (pc2 := 990) rfl okX12_head dL_law_987 rfl rfl (Nat.le_of_ble_eq_true rfl) (Nat.le_of_ble_eq_true rfl) (d' := 1) (by decide) (b1 := 0) (Nat.zero_add _) (Or.inl rfl) (EW_mono (fun _ _ hr => ?_) (sX12_head (xs (Int32.toNatClampNeg (v4 + 1))) (xs (Int32.toNatClampNeg (v4 + 2)))  x121 _ _ 0 0 (Nat.le_refl _) h))
        obtain ⟨r124, x125, rfl, rfl, h⟩ := hr
        replace h := law_leaf h
        refine EL_icmp_eq (tgt := 2539) (pc2 := 993) rfl dL_law_990 (by decide) (fun q => ?_) (fun q => ?_)
        · replace h := h.1 q
          refine EL_iinc (v4 + 6) (pc2 := 2542) rfl dL_law_2539 (by decide) 3 rfl rfl (by decide) [1, 2, 3, 0] [(1, .ref 0), (2, .ref 246), (3, .ref 337), (4, .int (v4 + 6))] rfl ?_
          refine EL_goto (tgt := 23) dL_law_2542 (by decide) ?_
          exact hL23 (v4 + 6) x125 h bu (by omega)
        · replace h := h.2 q
          refine EL_iconst (pc2 := 994) (v := 0) rfl dL_law_993 (by decide) ?_
          exact False.elim h
      | 15, _, qk =>
        replace h := h.2.2.2.2.2.2.2.2.2.2.2.2.2.2.2.2.1 qk
        refine EL_tabIn (off := 955) (tgt := 995) dL_law_40 (by rw [qk]; decide) (by rw [qk]; decide) (by rw [qk]; decide) (by decide) ?_
        refine EL_aload_n (pc2 := 996) rfl dL_law_995 0 rfl ?_
        obtain ⟨b126, h⟩ := h
        refine EL_scrk (v := 1) (pc2 := 1002) rfl dL_law_996 dL_law_997 dL_law_999 dL_law_1000 dL_law_1001 (by decide) 3 rfl b126 ?_
        obtain ⟨b127, h⟩ := h
        refine EL_scrk (v := 2) (pc2 := 1008) rfl dL_law_1002 dL_law_1003 dL_law_1005 dL_law_1006 dL_law_1007 (by decide) 3 rfl b127 ?_
        obtain ⟨b128, h⟩ := h
        refine EL_scrk (v := 3) (pc2 := 1014) rfl dL_law_1008 dL_law_1009 dL_law_1011 dL_law_1012 dL_law_1013 (by decide) 3 rfl b128 ?_
        refine EL_if_eq (tgt := 1021) (pc2 := 1017) rfl dL_law_1014 (by decide) (fun q => ?_) (fun q => ?_)
        · replace h := h.1 q
          refine EL_iconst (pc2 := 1022) (v := 0) rfl dL_law_1021 (by decide) ?_
          exact sL_law_1022 v4 (xs (Int32.toNatClampNeg (v4 + 1))) (xs (Int32.toNatClampNeg (v4 + 2))) 0 x L xs L23 hLL hab bu hbu hL23 h
        · replace h := h.2 q
          refine EL_iconst (pc2 := 1018) (v := 1) rfl dL_law_1017 (by decide) ?_
          refine EL_goto (tgt := 1022) dL_law_1018 (by decide) ?_
          exact sL_law_1022 v4 (xs (Int32.toNatClampNeg (v4 + 1))) (xs (Int32.toNatClampNeg (v4 + 2))) 1 x L xs L23 hLL hab bu hbu hL23 h
      | 16, _, qk =>
        replace h := h.2.2.2.2.2.2.2.2.2.2.2.2.2.2.2.2.2.1 qk
        refine EL_tabIn (off := 1044) (tgt := 1084) dL_law_40 (by rw [qk]; decide) (by rw [qk]; decide) (by rw [qk]; decide) (by decide) ?_
        refine EL_aload_n (pc2 := 1085) rfl dL_law_1084 0 rfl ?_
        obtain ⟨b129, h⟩ := h
        refine EL_scrk (v := 1) (pc2 := 1091) rfl dL_law_1085 dL_law_1086 dL_law_1088 dL_law_1089 dL_law_1090 (by decide) 3 rfl b129 ?_
        obtain ⟨b130, h⟩ := h
        refine EL_scrk (v := 2) (pc2 := 1097) rfl dL_law_1091 dL_law_1092 dL_law_1094 dL_law_1095 dL_law_1096 (by decide) 3 rfl b130 ?_
        obtain ⟨b131, h⟩ := h
        refine EL_scrk (v := 3) (pc2 := 1103) rfl dL_law_1097 dL_law_1098 dL_law_1100 dL_law_1101 dL_law_1102 (by decide) 3 rfl b131 ?_
        obtain ⟨b132, h⟩ := h
        refine EL_scrk (v := 4) (pc2 := 1109) rfl dL_law_1103 dL_law_1104 dL_law_1106 dL_law_1107 dL_law_1108 (by decide) 3 rfl b132 ?_
        refine EL_invV (M' := MX11_gear) [.int (xs (Int32.toNatClampNeg (v4 + 1))), .int (xs (Int32.toNatClampNeg (v4 + 2))), .int (xs (Int32.toNatClampNeg (v4 + 3))), .int (xs (Int32.toNatClampNeg (v4 + 4)))] (rest := []) mlRL_93.1 mlRL_93.2.1 mlRL_93.2.2 q0.1 q0.2 (by decide) rfl (pc2 := 1112) rfl okX11_gear dL_law_1109 rfl rfl (Nat.le_of_ble_eq_true rfl) (Nat.le_of_ble_eq_true rfl) (d' := 2) (by decide) (b1 := 0) (Nat.zero_add _) (Or.inl rfl) (EW_mono (fun _ _ hr => ?_) (sX11_gear (xs (Int32.toNatClampNeg (v4 + 1))) (xs (Int32.toNatClampNeg (v4 + 2))) (xs (Int32.toNatClampNeg (v4 + 3))) (xs (Int32.toNatClampNeg (v4 + 4)))  x _ _ 0 0 (Nat.le_refl _) h))
        obtain ⟨r133, x134, rfl, rfl, h⟩ := hr
        replace h := And.intro b129 (And.intro b130 (And.intro b131 (And.intro b132 h)))
        refine EL_aload_n (pc2 := 1113) rfl dL_law_1112 1 rfl ?_
        obtain ⟨b135, h⟩ := h
        refine EL_scrk (v := 1) (pc2 := 1119) rfl dL_law_1113 dL_law_1114 dL_law_1116 dL_law_1117 dL_law_1118 (by decide) 3 rfl b135 ?_
        obtain ⟨b136, h⟩ := h
        refine EL_scrk (v := 2) (pc2 := 1125) rfl dL_law_1119 dL_law_1120 dL_law_1122 dL_law_1123 dL_law_1124 (by decide) 3 rfl b136 ?_
        obtain ⟨b137, h⟩ := h
        refine EL_scrk (v := 3) (pc2 := 1131) rfl dL_law_1125 dL_law_1126 dL_law_1128 dL_law_1129 dL_law_1130 (by decide) 3 rfl b137 ?_
        obtain ⟨b138, h⟩ := h
        refine EL_scrk (v := 4) (pc2 := 1137) rfl dL_law_1131 dL_law_1132 dL_law_1134 dL_law_1135 dL_law_1136 (by decide) 3 rfl b138 ?_
        refine EL_invV (M' := MX12_gear) [.int (xs (Int32.toNatClampNeg (v4 + 1))), .int (xs (Int32.toNatClampNeg (v4 + 2))), .int (xs (Int32.toNatClampNeg (v4 + 3))), .int (xs (Int32.toNatClampNeg (v4 + 4)))] (rest := [.int r133]) mlRL_96.1 mlRL_96.2.1 mlRL_96.2.2 q246.1 q246.2 (by decide) rfl (pc2 := 1140) rfl okX12_gear dL_law_1137 rfl rfl (Nat.le_of_ble_eq_true rfl) (Nat.le_of_ble_eq_true rfl) (d' := 1) (by decide) (b1 := 0) (Nat.zero_add _) (Or.inl rfl) (EW_mono (fun _ _ hr => ?_) (sX12_gear (xs (Int32.toNatClampNeg (v4 + 1))) (xs (Int32.toNatClampNeg (v4 + 2))) (xs (Int32.toNatClampNeg (v4 + 3))) (xs (Int32.toNatClampNeg (v4 + 4)))  x134 _ _ 0 0 (Nat.le_refl _) h))
        obtain ⟨r139, x140, rfl, rfl, h⟩ := hr
        replace h := law_leaf h
        refine EL_icmp_eq (tgt := 2539) (pc2 := 1143) rfl dL_law_1140 (by decide) (fun q => ?_) (fun q => ?_)
        · replace h := h.1 q
          refine EL_iinc (v4 + 6) (pc2 := 2542) rfl dL_law_2539 (by decide) 3 rfl rfl (by decide) [1, 2, 3, 0] [(1, .ref 0), (2, .ref 246), (3, .ref 337), (4, .int (v4 + 6))] rfl ?_
          refine EL_goto (tgt := 23) dL_law_2542 (by decide) ?_
          exact hL23 (v4 + 6) x140 h bu (by omega)
        · replace h := h.2 q
          refine EL_iconst (pc2 := 1144) (v := 0) rfl dL_law_1143 (by decide) ?_
          exact False.elim h
      | 17, _, qk =>
        replace h := h.2.2.2.2.2.2.2.2.2.2.2.2.2.2.2.2.2.2.1 qk
        refine EL_tabIn (off := 1105) (tgt := 1145) dL_law_40 (by rw [qk]; decide) (by rw [qk]; decide) (by rw [qk]; decide) (by decide) ?_
        refine EL_aload_n (pc2 := 1146) rfl dL_law_1145 0 rfl ?_
        obtain ⟨b141, h⟩ := h
        refine EL_scrk (v := 1) (pc2 := 1152) rfl dL_law_1146 dL_law_1147 dL_law_1149 dL_law_1150 dL_law_1151 (by decide) 3 rfl b141 ?_
        refine EL_invV (M' := MX11_heal) [.int (xs (Int32.toNatClampNeg (v4 + 1)))] (rest := []) mlRL_97.1 mlRL_97.2.1 mlRL_97.2.2 q0.1 q0.2 (by decide) rfl (pc2 := 1155) rfl okX11_heal dL_law_1152 rfl rfl (Nat.le_of_ble_eq_true rfl) (Nat.le_of_ble_eq_true rfl) (d' := 2) (by decide) (b1 := 0) (Nat.zero_add _) (Or.inl rfl) (EW_mono (fun _ _ hr => ?_) (sX11_heal (xs (Int32.toNatClampNeg (v4 + 1)))  x _ _ 0 0 (Nat.le_refl _) h))
        obtain ⟨r142, x143, rfl, rfl, h⟩ := hr
        replace h := And.intro b141 h
        refine EL_aload_n (pc2 := 1156) rfl dL_law_1155 1 rfl ?_
        obtain ⟨b144, h⟩ := h
        refine EL_scrk (v := 1) (pc2 := 1162) rfl dL_law_1156 dL_law_1157 dL_law_1159 dL_law_1160 dL_law_1161 (by decide) 3 rfl b144 ?_
        refine EL_invV (M' := MX12_heal) [.int (xs (Int32.toNatClampNeg (v4 + 1)))] (rest := [.int r142]) mlRL_101.1 mlRL_101.2.1 mlRL_101.2.2 q246.1 q246.2 (by decide) rfl (pc2 := 1165) rfl okX12_heal dL_law_1162 rfl rfl (Nat.le_of_ble_eq_true rfl) (Nat.le_of_ble_eq_true rfl) (d' := 1) (by decide) (b1 := 0) (Nat.zero_add _) (Or.inl rfl) (EW_mono (fun _ _ hr => ?_) (sX12_heal (xs (Int32.toNatClampNeg (v4 + 1)))  x143 _ _ 0 0 (Nat.le_refl _) h))
        obtain ⟨r145, x146, rfl, rfl, h⟩ := hr
        replace h := law_leaf h
        refine EL_icmp_eq (tgt := 2539) (pc2 := 1168) rfl dL_law_1165 (by decide) (fun q => ?_) (fun q => ?_)
        · replace h := h.1 q
          refine EL_iinc (v4 + 6) (pc2 := 2542) rfl dL_law_2539 (by decide) 3 rfl rfl (by decide) [1, 2, 3, 0] [(1, .ref 0), (2, .ref 246), (3, .ref 337), (4, .int (v4 + 6))] rfl ?_
          refine EL_goto (tgt := 23) dL_law_2542 (by decide) ?_
          exact hL23 (v4 + 6) x146 h bu (by omega)
        · replace h := h.2 q
          refine EL_iconst (pc2 := 1169) (v := 0) rfl dL_law_1168 (by decide) ?_
          exact False.elim h
      | 18, _, qk =>
        replace h := h.2.2.2.2.2.2.2.2.2.2.2.2.2.2.2.2.2.2.2.1 qk
        refine EL_tabIn (off := 1130) (tgt := 1170) dL_law_40 (by rw [qk]; decide) (by rw [qk]; decide) (by rw [qk]; decide) (by decide) ?_
        refine EL_aload_n (pc2 := 1171) rfl dL_law_1170 0 rfl ?_
        obtain ⟨b147, h⟩ := h
        refine EL_scrk (v := 1) (pc2 := 1177) rfl dL_law_1171 dL_law_1172 dL_law_1174 dL_law_1175 dL_law_1176 (by decide) 3 rfl b147 ?_
        refine EL_invV (M' := MX11_recall) [.int (xs (Int32.toNatClampNeg (v4 + 1)))] (rest := []) mlRL_102.1 mlRL_102.2.1 mlRL_102.2.2 q0.1 q0.2 (by decide) rfl (pc2 := 1180) rfl okX11_recall dL_law_1177 rfl rfl (Nat.le_of_ble_eq_true rfl) (Nat.le_of_ble_eq_true rfl) (d' := 4) (by decide) (b1 := 0) (Nat.zero_add _) (Or.inl rfl) (EW_mono (fun _ _ hr => ?_) (sX11_recall (xs (Int32.toNatClampNeg (v4 + 1)))  x _ _ 0 0 (Nat.le_refl _) h))
        obtain ⟨r148, x149, rfl, rfl, h⟩ := hr
        replace h := And.intro b147 h
        refine EL_aload_n (pc2 := 1181) rfl dL_law_1180 1 rfl ?_
        obtain ⟨b150, h⟩ := h
        refine EL_scrk (v := 1) (pc2 := 1187) rfl dL_law_1181 dL_law_1182 dL_law_1184 dL_law_1185 dL_law_1186 (by decide) 3 rfl b150 ?_
        refine EL_invV (M' := MX12_recall) [.int (xs (Int32.toNatClampNeg (v4 + 1)))] (rest := [.int r148]) mlRL_105.1 mlRL_105.2.1 mlRL_105.2.2 q246.1 q246.2 (by decide) rfl (pc2 := 1190) rfl okX12_recall dL_law_1187 rfl rfl (Nat.le_of_ble_eq_true rfl) (Nat.le_of_ble_eq_true rfl) (d' := 3) (by decide) (b1 := 0) (Nat.zero_add _) (Or.inl rfl) (EW_mono (fun _ _ hr => ?_) (sX12_recall (xs (Int32.toNatClampNeg (v4 + 1)))  x149 _ _ 0 0 (Nat.le_refl _) h))
        obtain ⟨r151, x152, rfl, rfl, h⟩ := hr
        replace h := law_leaf h
        refine EL_icmp_eq (tgt := 2539) (pc2 := 1193) rfl dL_law_1190 (by decide) (fun q => ?_) (fun q => ?_)
        · replace h := h.1 q
          refine EL_iinc (v4 + 6) (pc2 := 2542) rfl dL_law_2539 (by decide) 3 rfl rfl (by decide) [1, 2, 3, 0] [(1, .ref 0), (2, .ref 246), (3, .ref 337), (4, .int (v4 + 6))] rfl ?_
          refine EL_goto (tgt := 23) dL_law_2542 (by decide) ?_
          exact hL23 (v4 + 6) x152 h bu (by omega)
        · replace h := h.2 q
          refine EL_iconst (pc2 := 1194) (v := 0) rfl dL_law_1193 (by decide) ?_
          exact False.elim h
      | 19, _, qk =>
        replace h := h.2.2.2.2.2.2.2.2.2.2.2.2.2.2.2.2.2.2.2.2.1 qk
        refine EL_tabIn (off := 1155) (tgt := 1195) dL_law_40 (by rw [qk]; decide) (by rw [qk]; decide) (by rw [qk]; decide) (by decide) ?_
        refine EL_aload_n (pc2 := 1196) rfl dL_law_1195 0 rfl ?_
        obtain ⟨b153, h⟩ := h
        refine EL_scrk (v := 1) (pc2 := 1202) rfl dL_law_1196 dL_law_1197 dL_law_1199 dL_law_1200 dL_law_1201 (by decide) 3 rfl b153 ?_
        obtain ⟨b154, h⟩ := h
        refine EL_scrk (v := 2) (pc2 := 1208) rfl dL_law_1202 dL_law_1203 dL_law_1205 dL_law_1206 dL_law_1207 (by decide) 3 rfl b154 ?_
        refine EL_aload_n (pc2 := 1209) rfl dL_law_1208 2 rfl ?_
        obtain ⟨bu1, rfl⟩ : ∃ k, bu = k + 1 := ⟨bu - 1, by omega⟩
        refine hab (pc2 := 1212) rfl dL_law_1209 h (fun r155 x156 h => ?_)
        replace h := And.intro b153 (And.intro b154 h)
        refine EL_istore (pc2 := 1214) rfl dL_law_1212 (by decide) (by decide) [1, 2, 3, 4, 0] [(1, .ref 0), (2, .ref 246), (3, .ref 337), (4, .int v4), (5, .int r155)] rfl ?_
        refine EL_aload_n (pc2 := 1215) rfl dL_law_1214 1 rfl ?_
        obtain ⟨b157, h⟩ := h
        refine EL_scrk (v := 1) (pc2 := 1221) rfl dL_law_1215 dL_law_1216 dL_law_1218 dL_law_1219 dL_law_1220 (by decide) 3 rfl b157 ?_
        obtain ⟨b158, h⟩ := h
        refine EL_scrk (v := 2) (pc2 := 1227) rfl dL_law_1221 dL_law_1222 dL_law_1224 dL_law_1225 dL_law_1226 (by decide) 3 rfl b158 ?_
        refine EL_invV (M' := MX12_about) [.int (xs (Int32.toNatClampNeg (v4 + 1))), .int (xs (Int32.toNatClampNeg (v4 + 2)))] (rest := []) mlRL_111.1 mlRL_111.2.1 mlRL_111.2.2 q246.1 q246.2 (by decide) rfl (pc2 := 1230) rfl okX12_about dL_law_1227 rfl rfl (Nat.le_of_ble_eq_true rfl) (Nat.le_of_ble_eq_true rfl) (d' := 1) (by decide) (b1 := 0) (Nat.zero_add _) (Or.inl rfl) (EW_mono (fun _ _ hr => ?_) (sX12_about (xs (Int32.toNatClampNeg (v4 + 1))) (xs (Int32.toNatClampNeg (v4 + 2)))  x156 _ _ 0 0 (Nat.le_refl _) h))
        obtain ⟨r159, x160, rfl, rfl, h⟩ := hr
        refine EL_istore (pc2 := 1232) rfl dL_law_1230 (by decide) (by decide) [1, 2, 3, 4, 5, 0] [(1, .ref 0), (2, .ref 246), (3, .ref 337), (4, .int v4), (5, .int r155), (6, .int r159)] rfl ?_
        refine EL_aload_n (pc2 := 1233) rfl dL_law_1232 1 rfl ?_
        refine EL_invV (M' := MX12_thrown) [] (rest := []) mlRL_112.1 mlRL_112.2.1 mlRL_112.2.2 q246.1 q246.2 (by decide) rfl (pc2 := 1236) rfl okX12_thrown dL_law_1233 rfl rfl (Nat.le_of_ble_eq_true rfl) (Nat.le_of_ble_eq_true rfl) (d' := 0) (by decide) (b1 := 0) (Nat.zero_add _) (Or.inl rfl) (EW_mono (fun _ _ hr => ?_) (sX12_thrown   x160 _ _ 0 0 (Nat.le_refl _) h))
        obtain ⟨r161, rfl, rfl, h⟩ := hr
        refine EL_iload (pc2 := 1238) rfl dL_law_1236 4 rfl ?_
        refine EL_icmp_eq (tgt := 1243) (pc2 := 1241) rfl dL_law_1238 (by decide) (fun q => ?_) (fun q => ?_)
        · replace h := h.1 q
          refine EL_iload (pc2 := 1245) rfl dL_law_1243 4 rfl ?_
          refine EL_if_ne (tgt := 1260) (pc2 := 1248) rfl dL_law_1245 (by decide) (fun q => ?_) (fun q => ?_)
          · replace h := h.1 q
            refine EL_goto (tgt := 2539) dL_law_1260 (by decide) ?_
            refine EL_iinc (v4 + 6) (pc2 := 2542) rfl dL_law_2539 (by decide) 3 rfl rfl (by decide) [1, 2, 3, 0, 4, 5] [(1, .ref 0), (2, .ref 246), (3, .ref 337), (4, .int (v4 + 6)), (5, .int r155), (6, .int r159)] rfl ?_
            refine EL_goto (tgt := 23) dL_law_2542 (by decide) ?_
            refine EL_ls [0, 1, 2, 3] rfl ?_
            exact hL23 (v4 + 6) x160 h bu1 (by omega)
          · replace h := h.2 q
            refine EL_aload_n (pc2 := 1249) rfl dL_law_1248 2 rfl ?_
            refine EL_iconst (pc2 := 1250) (v := 0) rfl dL_law_1249 (by decide) ?_
            refine EL_lald (pc2 := 1251) rfl dL_law_1250 q337.1 q337.2 (by unfold vp_in; decide) ?_
            refine EL_iload (pc2 := 1253) rfl dL_law_1251 5 rfl ?_
            refine EL_i2l (pc2 := 1254) (v := (Int32.toInt64 r159)) rfl dL_law_1253 rfl ?_
            refine EL_lcmp (pc2 := 1255) rfl dL_law_1254 ?_
            refine EL_if_eq (tgt := 1260) (pc2 := 1258) rfl dL_law_1255 (by decide) (fun q => ?_) (fun q => ?_)
            · replace h := h.1 q
              refine EL_goto (tgt := 2539) dL_law_1260 (by decide) ?_
              refine EL_iinc (v4 + 6) (pc2 := 2542) rfl dL_law_2539 (by decide) 3 rfl rfl (by decide) [1, 2, 3, 0, 4, 5] [(1, .ref 0), (2, .ref 246), (3, .ref 337), (4, .int (v4 + 6)), (5, .int r155), (6, .int r159)] rfl ?_
              refine EL_goto (tgt := 23) dL_law_2542 (by decide) ?_
              refine EL_ls [0, 1, 2, 3] rfl ?_
              exact hL23 (v4 + 6) x160 h bu1 (by omega)
            · replace h := h.2 q
              refine EL_iconst (pc2 := 1259) (v := 0) rfl dL_law_1258 (by decide) ?_
              exact False.elim h
        · replace h := h.2 q
          refine EL_iconst (pc2 := 1242) (v := 0) rfl dL_law_1241 (by decide) ?_
          exact False.elim h
      | 20, _, qk =>
        replace h := h.2.2.2.2.2.2.2.2.2.2.2.2.2.2.2.2.2.2.2.2.2.1 qk
        refine EL_tabIn (off := 1223) (tgt := 1263) dL_law_40 (by rw [qk]; decide) (by rw [qk]; decide) (by rw [qk]; decide) (by decide) ?_
        refine EL_aload_n (pc2 := 1264) rfl dL_law_1263 0 rfl ?_
        obtain ⟨b162, h⟩ := h
        refine EL_scrk (v := 1) (pc2 := 1270) rfl dL_law_1264 dL_law_1265 dL_law_1267 dL_law_1268 dL_law_1269 (by decide) 3 rfl b162 ?_
        obtain ⟨b163, h⟩ := h
        refine EL_scrk (v := 2) (pc2 := 1276) rfl dL_law_1270 dL_law_1271 dL_law_1273 dL_law_1274 dL_law_1275 (by decide) 3 rfl b163 ?_
        refine EL_invV (M' := MX11_reach) [.int (xs (Int32.toNatClampNeg (v4 + 1))), .int (xs (Int32.toNatClampNeg (v4 + 2)))] (rest := []) mlRL_116.1 mlRL_116.2.1 mlRL_116.2.2 q0.1 q0.2 (by decide) rfl (pc2 := 1279) rfl okX11_reach dL_law_1276 rfl rfl (Nat.le_of_ble_eq_true rfl) (Nat.le_of_ble_eq_true rfl) (d' := 3) (by decide) (b1 := 0) (Nat.zero_add _) (Or.inl rfl) (EW_mono (fun _ _ hr => ?_) (sX11_reach (xs (Int32.toNatClampNeg (v4 + 1))) (xs (Int32.toNatClampNeg (v4 + 2)))  x _ _ 0 0 (Nat.le_refl _) h))
        obtain ⟨r164, rfl, rfl, h⟩ := hr
        replace h := And.intro b162 (And.intro b163 h)
        refine EL_aload_n (pc2 := 1280) rfl dL_law_1279 1 rfl ?_
        obtain ⟨b165, h⟩ := h
        refine EL_scrk (v := 1) (pc2 := 1286) rfl dL_law_1280 dL_law_1281 dL_law_1283 dL_law_1284 dL_law_1285 (by decide) 3 rfl b165 ?_
        obtain ⟨b166, h⟩ := h
        refine EL_scrk (v := 2) (pc2 := 1292) rfl dL_law_1286 dL_law_1287 dL_law_1289 dL_law_1290 dL_law_1291 (by decide) 3 rfl b166 ?_
        refine EL_invV (M' := MX12_reach) [.int (xs (Int32.toNatClampNeg (v4 + 1))), .int (xs (Int32.toNatClampNeg (v4 + 2)))] (rest := [.int r164]) mlRL_119.1 mlRL_119.2.1 mlRL_119.2.2 q246.1 q246.2 (by decide) rfl (pc2 := 1295) rfl okX12_reach dL_law_1292 rfl rfl (Nat.le_of_ble_eq_true rfl) (Nat.le_of_ble_eq_true rfl) (d' := 3) (by decide) (b1 := 0) (Nat.zero_add _) (Or.inl rfl) (EW_mono (fun _ _ hr => ?_) (sX12_reach (xs (Int32.toNatClampNeg (v4 + 1))) (xs (Int32.toNatClampNeg (v4 + 2)))  x _ _ 0 0 (Nat.le_refl _) h))
        obtain ⟨r167, x168, rfl, rfl, h⟩ := hr
        replace h := law_leaf h
        refine EL_icmp_eq (tgt := 2539) (pc2 := 1298) rfl dL_law_1295 (by decide) (fun q => ?_) (fun q => ?_)
        · replace h := h.1 q
          refine EL_iinc (v4 + 6) (pc2 := 2542) rfl dL_law_2539 (by decide) 3 rfl rfl (by decide) [1, 2, 3, 0] [(1, .ref 0), (2, .ref 246), (3, .ref 337), (4, .int (v4 + 6))] rfl ?_
          refine EL_goto (tgt := 23) dL_law_2542 (by decide) ?_
          exact hL23 (v4 + 6) x168 h bu (by omega)
        · replace h := h.2 q
          refine EL_iconst (pc2 := 1299) (v := 0) rfl dL_law_1298 (by decide) ?_
          exact False.elim h
      | 21, _, qk =>
        replace h := h.2.2.2.2.2.2.2.2.2.2.2.2.2.2.2.2.2.2.2.2.2.2.1 qk
        refine EL_tabIn (off := 1260) (tgt := 1300) dL_law_40 (by rw [qk]; decide) (by rw [qk]; decide) (by rw [qk]; decide) (by decide) ?_
        refine EL_aload_n (pc2 := 1301) rfl dL_law_1300 0 rfl ?_
        obtain ⟨b169, h⟩ := h
        refine EL_scrk (v := 1) (pc2 := 1307) rfl dL_law_1301 dL_law_1302 dL_law_1304 dL_law_1305 dL_law_1306 (by decide) 3 rfl b169 ?_
        refine EL_invV (M' := MX11_call) [.int (xs (Int32.toNatClampNeg (v4 + 1)))] (rest := []) mlRL_120.1 mlRL_120.2.1 mlRL_120.2.2 q0.1 q0.2 (by decide) rfl (pc2 := 1310) rfl okX11_call dL_law_1307 rfl rfl (Nat.le_of_ble_eq_true rfl) (Nat.le_of_ble_eq_true rfl) (d' := 6) (by decide) (b1 := 0) (Nat.zero_add _) (Or.inl rfl) (EW_mono (fun _ _ hr => ?_) (sX11_call (xs (Int32.toNatClampNeg (v4 + 1)))  x _ _ 0 0 (Nat.le_refl _) h))
        obtain ⟨r170, x171, rfl, rfl, h⟩ := hr
        replace h := And.intro b169 h
        refine EL_aload_n (pc2 := 1311) rfl dL_law_1310 1 rfl ?_
        obtain ⟨b172, h⟩ := h
        refine EL_scrk (v := 1) (pc2 := 1317) rfl dL_law_1311 dL_law_1312 dL_law_1314 dL_law_1315 dL_law_1316 (by decide) 3 rfl b172 ?_
        refine EL_invV (M' := MX12_call) [.int (xs (Int32.toNatClampNeg (v4 + 1)))] (rest := [.int r170]) mlRL_123.1 mlRL_123.2.1 mlRL_123.2.2 q246.1 q246.2 (by decide) rfl (pc2 := 1320) rfl okX12_call dL_law_1317 rfl rfl (Nat.le_of_ble_eq_true rfl) (Nat.le_of_ble_eq_true rfl) (d' := 212) (by decide) (b1 := 0) (Nat.zero_add _) (Or.inl rfl) (EW_mono (fun _ _ hr => ?_) (sX12_call (xs (Int32.toNatClampNeg (v4 + 1)))  x171 _ _ 0 0 (Nat.le_refl _) h))
        obtain ⟨r173, x174, rfl, rfl, h⟩ := hr
        replace h := law_leaf h
        refine EL_icmp_eq (tgt := 2539) (pc2 := 1323) rfl dL_law_1320 (by decide) (fun q => ?_) (fun q => ?_)
        · replace h := h.1 q
          refine EL_iinc (v4 + 6) (pc2 := 2542) rfl dL_law_2539 (by decide) 3 rfl rfl (by decide) [1, 2, 3, 0] [(1, .ref 0), (2, .ref 246), (3, .ref 337), (4, .int (v4 + 6))] rfl ?_
          refine EL_goto (tgt := 23) dL_law_2542 (by decide) ?_
          exact hL23 (v4 + 6) x174 h bu (by omega)
        · replace h := h.2 q
          refine EL_iconst (pc2 := 1324) (v := 0) rfl dL_law_1323 (by decide) ?_
          exact False.elim h
      | 22, _, qk =>
        replace h := h.2.2.2.2.2.2.2.2.2.2.2.2.2.2.2.2.2.2.2.2.2.2.2.1 qk
        refine EL_tabIn (off := 1285) (tgt := 1325) dL_law_40 (by rw [qk]; decide) (by rw [qk]; decide) (by rw [qk]; decide) (by decide) ?_
        refine EL_aload_n (pc2 := 1326) rfl dL_law_1325 0 rfl ?_
        obtain ⟨b175, h⟩ := h
        refine EL_scrk (v := 1) (pc2 := 1332) rfl dL_law_1326 dL_law_1327 dL_law_1329 dL_law_1330 dL_law_1331 (by decide) 3 rfl b175 ?_
        obtain ⟨b176, h⟩ := h
        refine EL_scrk (v := 2) (pc2 := 1338) rfl dL_law_1332 dL_law_1333 dL_law_1335 dL_law_1336 dL_law_1337 (by decide) 3 rfl b176 ?_
        refine EL_invV (M' := MX11_called) [.int (xs (Int32.toNatClampNeg (v4 + 1))), .int (xs (Int32.toNatClampNeg (v4 + 2)))] (rest := []) mlRL_124.1 mlRL_124.2.1 mlRL_124.2.2 q0.1 q0.2 (by decide) rfl (pc2 := 1341) rfl okX11_called dL_law_1338 rfl rfl (Nat.le_of_ble_eq_true rfl) (Nat.le_of_ble_eq_true rfl) (d' := 1) (by decide) (b1 := 0) (Nat.zero_add _) (Or.inl rfl) (EW_mono (fun _ _ hr => ?_) (sX11_called (xs (Int32.toNatClampNeg (v4 + 1))) (xs (Int32.toNatClampNeg (v4 + 2)))  x _ _ 0 0 (Nat.le_refl _) h))
        obtain ⟨r177, rfl, rfl, h⟩ := hr
        replace h := And.intro b175 (And.intro b176 h)
        refine EL_aload_n (pc2 := 1342) rfl dL_law_1341 1 rfl ?_
        obtain ⟨b178, h⟩ := h
        refine EL_scrk (v := 1) (pc2 := 1348) rfl dL_law_1342 dL_law_1343 dL_law_1345 dL_law_1346 dL_law_1347 (by decide) 3 rfl b178 ?_
        obtain ⟨b179, h⟩ := h
        refine EL_scrk (v := 2) (pc2 := 1354) rfl dL_law_1348 dL_law_1349 dL_law_1351 dL_law_1352 dL_law_1353 (by decide) 3 rfl b179 ?_
        refine EL_invV (M' := MX12_called) [.int (xs (Int32.toNatClampNeg (v4 + 1))), .int (xs (Int32.toNatClampNeg (v4 + 2)))] (rest := [.int r177]) mlRL_127.1 mlRL_127.2.1 mlRL_127.2.2 q246.1 q246.2 (by decide) rfl (pc2 := 1357) rfl okX12_called dL_law_1354 rfl rfl (Nat.le_of_ble_eq_true rfl) (Nat.le_of_ble_eq_true rfl) (d' := 0) (by decide) (b1 := 0) (Nat.zero_add _) (Or.inl rfl) (EW_mono (fun _ _ hr => ?_) (sX12_called (xs (Int32.toNatClampNeg (v4 + 1))) (xs (Int32.toNatClampNeg (v4 + 2)))  x _ _ 0 0 (Nat.le_refl _) h))
        obtain ⟨r180, x181, rfl, rfl, h⟩ := hr
        replace h := law_leaf h
        refine EL_icmp_eq (tgt := 2539) (pc2 := 1360) rfl dL_law_1357 (by decide) (fun q => ?_) (fun q => ?_)
        · replace h := h.1 q
          refine EL_iinc (v4 + 6) (pc2 := 2542) rfl dL_law_2539 (by decide) 3 rfl rfl (by decide) [1, 2, 3, 0] [(1, .ref 0), (2, .ref 246), (3, .ref 337), (4, .int (v4 + 6))] rfl ?_
          refine EL_goto (tgt := 23) dL_law_2542 (by decide) ?_
          exact hL23 (v4 + 6) x181 h bu (by omega)
        · replace h := h.2 q
          refine EL_iconst (pc2 := 1361) (v := 0) rfl dL_law_1360 (by decide) ?_
          exact False.elim h
      | 23, _, qk =>
        replace h := h.2.2.2.2.2.2.2.2.2.2.2.2.2.2.2.2.2.2.2.2.2.2.2.2.1 qk
        refine EL_tabIn (off := 1322) (tgt := 1362) dL_law_40 (by rw [qk]; decide) (by rw [qk]; decide) (by rw [qk]; decide) (by decide) ?_
        refine EL_aload_n (pc2 := 1363) rfl dL_law_1362 0 rfl ?_
        obtain ⟨b182, h⟩ := h
        refine EL_scrk (v := 1) (pc2 := 1369) rfl dL_law_1363 dL_law_1364 dL_law_1366 dL_law_1367 dL_law_1368 (by decide) 3 rfl b182 ?_
        obtain ⟨b183, h⟩ := h
        refine EL_scrk (v := 2) (pc2 := 1375) rfl dL_law_1369 dL_law_1370 dL_law_1372 dL_law_1373 dL_law_1374 (by decide) 3 rfl b183 ?_
        refine EL_invV (M' := MX11_falses) [.int (xs (Int32.toNatClampNeg (v4 + 1))), .int (xs (Int32.toNatClampNeg (v4 + 2)))] (rest := []) mlRL_128.1 mlRL_128.2.1 mlRL_128.2.2 q0.1 q0.2 (by decide) rfl (pc2 := 1378) rfl okX11_falses dL_law_1375 rfl rfl (Nat.le_of_ble_eq_true rfl) (Nat.le_of_ble_eq_true rfl) (d' := 2) (by decide) (b1 := 0) (Nat.zero_add _) (Or.inl rfl) (EW_mono (fun _ _ hr => ?_) (sX11_falses (xs (Int32.toNatClampNeg (v4 + 1))) (xs (Int32.toNatClampNeg (v4 + 2)))  x _ _ 0 0 (Nat.le_refl _) h))
        obtain ⟨r184, rfl, rfl, h⟩ := hr
        replace h := And.intro b182 (And.intro b183 h)
        refine EL_aload_n (pc2 := 1379) rfl dL_law_1378 1 rfl ?_
        obtain ⟨b185, h⟩ := h
        refine EL_scrk (v := 1) (pc2 := 1385) rfl dL_law_1379 dL_law_1380 dL_law_1382 dL_law_1383 dL_law_1384 (by decide) 3 rfl b185 ?_
        obtain ⟨b186, h⟩ := h
        refine EL_scrk (v := 2) (pc2 := 1391) rfl dL_law_1385 dL_law_1386 dL_law_1388 dL_law_1389 dL_law_1390 (by decide) 3 rfl b186 ?_
        refine EL_invV (M' := MX12_falses) [.int (xs (Int32.toNatClampNeg (v4 + 1))), .int (xs (Int32.toNatClampNeg (v4 + 2)))] (rest := [.int r184]) mlRL_131.1 mlRL_131.2.1 mlRL_131.2.2 q246.1 q246.2 (by decide) rfl (pc2 := 1394) rfl okX12_falses dL_law_1391 rfl rfl (Nat.le_of_ble_eq_true rfl) (Nat.le_of_ble_eq_true rfl) (d' := 2) (by decide) (b1 := 0) (Nat.zero_add _) (Or.inl rfl) (EW_mono (fun _ _ hr => ?_) (sX12_falses (xs (Int32.toNatClampNeg (v4 + 1))) (xs (Int32.toNatClampNeg (v4 + 2)))  x _ _ 0 0 (Nat.le_refl _) h))
        obtain ⟨r187, x188, rfl, rfl, h⟩ := hr
        replace h := law_leaf h
        refine EL_icmp_eq (tgt := 2539) (pc2 := 1397) rfl dL_law_1394 (by decide) (fun q => ?_) (fun q => ?_)
        · replace h := h.1 q
          refine EL_iinc (v4 + 6) (pc2 := 2542) rfl dL_law_2539 (by decide) 3 rfl rfl (by decide) [1, 2, 3, 0] [(1, .ref 0), (2, .ref 246), (3, .ref 337), (4, .int (v4 + 6))] rfl ?_
          refine EL_goto (tgt := 23) dL_law_2542 (by decide) ?_
          exact hL23 (v4 + 6) x188 h bu (by omega)
        · replace h := h.2 q
          refine EL_iconst (pc2 := 1398) (v := 0) rfl dL_law_1397 (by decide) ?_
          exact False.elim h
      | 24, _, qk =>
        replace h := h.2.2.2.2.2.2.2.2.2.2.2.2.2.2.2.2.2.2.2.2.2.2.2.2.2.1 qk
        refine EL_tabIn (off := 1359) (tgt := 1399) dL_law_40 (by rw [qk]; decide) (by rw [qk]; decide) (by rw [qk]; decide) (by decide) ?_
        refine EL_aload_n (pc2 := 1400) rfl dL_law_1399 0 rfl ?_
        obtain ⟨b189, h⟩ := h
        refine EL_scrk (v := 1) (pc2 := 1406) rfl dL_law_1400 dL_law_1401 dL_law_1403 dL_law_1404 dL_law_1405 (by decide) 3 rfl b189 ?_
        obtain ⟨b190, h⟩ := h
        refine EL_scrk (v := 2) (pc2 := 1412) rfl dL_law_1406 dL_law_1407 dL_law_1409 dL_law_1410 dL_law_1411 (by decide) 3 rfl b190 ?_
        obtain ⟨b191, h⟩ := h
        refine EL_scrk (v := 3) (pc2 := 1418) rfl dL_law_1412 dL_law_1413 dL_law_1415 dL_law_1416 dL_law_1417 (by decide) 3 rfl b191 ?_
        obtain ⟨b192, h⟩ := h
        refine EL_scrk (v := 4) (pc2 := 1424) rfl dL_law_1418 dL_law_1419 dL_law_1421 dL_law_1422 dL_law_1423 (by decide) 3 rfl b192 ?_
        obtain ⟨b193, h⟩ := h
        refine EL_scrk (v := 5) (pc2 := 1430) rfl dL_law_1424 dL_law_1425 dL_law_1427 dL_law_1428 dL_law_1429 (by decide) 3 rfl b193 ?_
        refine EL_invV (M' := MX11_feed) [.int (xs (Int32.toNatClampNeg (v4 + 1))), .int (xs (Int32.toNatClampNeg (v4 + 2))), .int (xs (Int32.toNatClampNeg (v4 + 3))), .int (xs (Int32.toNatClampNeg (v4 + 4))), .int (xs (Int32.toNatClampNeg (v4 + 5)))] (rest := []) mlRL_132.1 mlRL_132.2.1 mlRL_132.2.2 q0.1 q0.2 (by decide) rfl (pc2 := 1433) rfl okX11_feed dL_law_1430 rfl rfl (Nat.le_of_ble_eq_true rfl) (Nat.le_of_ble_eq_true rfl) (d' := 1) (by decide) (b1 := 0) (Nat.zero_add _) (Or.inl rfl) (EW_mono (fun _ _ hr => ?_) (sX11_feed (xs (Int32.toNatClampNeg (v4 + 1))) (xs (Int32.toNatClampNeg (v4 + 2))) (xs (Int32.toNatClampNeg (v4 + 3))) (xs (Int32.toNatClampNeg (v4 + 4))) (xs (Int32.toNatClampNeg (v4 + 5)))  x _ _ 0 0 (Nat.le_refl _) h))
        obtain ⟨r194, x195, rfl, rfl, h⟩ := hr
        replace h := And.intro b189 (And.intro b190 (And.intro b191 (And.intro b192 (And.intro b193 h))))
        refine EL_aload_n (pc2 := 1434) rfl dL_law_1433 1 rfl ?_
        obtain ⟨b196, h⟩ := h
        refine EL_scrk (v := 1) (pc2 := 1440) rfl dL_law_1434 dL_law_1435 dL_law_1437 dL_law_1438 dL_law_1439 (by decide) 3 rfl b196 ?_
        obtain ⟨b197, h⟩ := h
        refine EL_scrk (v := 2) (pc2 := 1446) rfl dL_law_1440 dL_law_1441 dL_law_1443 dL_law_1444 dL_law_1445 (by decide) 3 rfl b197 ?_
        obtain ⟨b198, h⟩ := h
        refine EL_scrk (v := 3) (pc2 := 1452) rfl dL_law_1446 dL_law_1447 dL_law_1449 dL_law_1450 dL_law_1451 (by decide) 3 rfl b198 ?_
        obtain ⟨b199, h⟩ := h
        refine EL_scrk (v := 4) (pc2 := 1458) rfl dL_law_1452 dL_law_1453 dL_law_1455 dL_law_1456 dL_law_1457 (by decide) 3 rfl b199 ?_
        obtain ⟨b200, h⟩ := h
        refine EL_scrk (v := 5) (pc2 := 1464) rfl dL_law_1458 dL_law_1459 dL_law_1461 dL_law_1462 dL_law_1463 (by decide) 3 rfl b200 ?_
        refine EL_invV (M' := MX12_feed) [.int (xs (Int32.toNatClampNeg (v4 + 1))), .int (xs (Int32.toNatClampNeg (v4 + 2))), .int (xs (Int32.toNatClampNeg (v4 + 3))), .int (xs (Int32.toNatClampNeg (v4 + 4))), .int (xs (Int32.toNatClampNeg (v4 + 5)))] (rest := [.int r194]) mlRL_135.1 mlRL_135.2.1 mlRL_135.2.2 q246.1 q246.2 (by decide) rfl (pc2 := 1467) rfl okX12_feed dL_law_1464 rfl rfl (Nat.le_of_ble_eq_true rfl) (Nat.le_of_ble_eq_true rfl) (d' := 1) (by decide) (b1 := 0) (Nat.zero_add _) (Or.inl rfl) (EW_mono (fun _ _ hr => ?_) (sX12_feed (xs (Int32.toNatClampNeg (v4 + 1))) (xs (Int32.toNatClampNeg (v4 + 2))) (xs (Int32.toNatClampNeg (v4 + 3))) (xs (Int32.toNatClampNeg (v4 + 4))) (xs (Int32.toNatClampNeg (v4 + 5)))  x195 _ _ 0 0 (Nat.le_refl _) h))
        obtain ⟨r201, x202, rfl, rfl, h⟩ := hr
        replace h := law_leaf h
        refine EL_icmp_eq (tgt := 2539) (pc2 := 1470) rfl dL_law_1467 (by decide) (fun q => ?_) (fun q => ?_)
        · replace h := h.1 q
          refine EL_iinc (v4 + 6) (pc2 := 2542) rfl dL_law_2539 (by decide) 3 rfl rfl (by decide) [1, 2, 3, 0] [(1, .ref 0), (2, .ref 246), (3, .ref 337), (4, .int (v4 + 6))] rfl ?_
          refine EL_goto (tgt := 23) dL_law_2542 (by decide) ?_
          exact hL23 (v4 + 6) x202 h bu (by omega)
        · replace h := h.2 q
          refine EL_iconst (pc2 := 1471) (v := 0) rfl dL_law_1470 (by decide) ?_
          exact False.elim h
      | 25, _, qk =>
        replace h := h.2.2.2.2.2.2.2.2.2.2.2.2.2.2.2.2.2.2.2.2.2.2.2.2.2.2.1 qk
        refine EL_tabIn (off := 1432) (tgt := 1472) dL_law_40 (by rw [qk]; decide) (by rw [qk]; decide) (by rw [qk]; decide) (by decide) ?_
        refine EL_aload_n (pc2 := 1473) rfl dL_law_1472 0 rfl ?_
        obtain ⟨b203, h⟩ := h
        refine EL_scrk (v := 1) (pc2 := 1479) rfl dL_law_1473 dL_law_1474 dL_law_1476 dL_law_1477 dL_law_1478 (by decide) 3 rfl b203 ?_
        refine EL_invV (M' := MX11_end) [.int (xs (Int32.toNatClampNeg (v4 + 1)))] (rest := []) mlRL_136.1 mlRL_136.2.1 mlRL_136.2.2 q0.1 q0.2 (by decide) rfl (pc2 := 1482) rfl okX11_end dL_law_1479 rfl rfl (Nat.le_of_ble_eq_true rfl) (Nat.le_of_ble_eq_true rfl) (d' := 1) (by decide) (b1 := 0) (Nat.zero_add _) (Or.inl rfl) (EW_mono (fun _ _ hr => ?_) (sX11_end (xs (Int32.toNatClampNeg (v4 + 1)))  x _ _ 0 0 (Nat.le_refl _) h))
        obtain ⟨r204, x205, rfl, rfl, h⟩ := hr
        replace h := And.intro b203 h
        refine EL_aload_n (pc2 := 1483) rfl dL_law_1482 1 rfl ?_
        obtain ⟨b206, h⟩ := h
        refine EL_scrk (v := 1) (pc2 := 1489) rfl dL_law_1483 dL_law_1484 dL_law_1486 dL_law_1487 dL_law_1488 (by decide) 3 rfl b206 ?_
        refine EL_invV (M' := MX12_end) [.int (xs (Int32.toNatClampNeg (v4 + 1)))] (rest := [.int r204]) mlRL_139.1 mlRL_139.2.1 mlRL_139.2.2 q246.1 q246.2 (by decide) rfl (pc2 := 1492) rfl okX12_end dL_law_1489 rfl rfl (Nat.le_of_ble_eq_true rfl) (Nat.le_of_ble_eq_true rfl) (d' := 0) (by decide) (b1 := 0) (Nat.zero_add _) (Or.inl rfl) (EW_mono (fun _ _ hr => ?_) (sX12_end (xs (Int32.toNatClampNeg (v4 + 1)))  x205 _ _ 0 0 (Nat.le_refl _) h))
        obtain ⟨r207, x208, rfl, rfl, h⟩ := hr
        replace h := law_leaf h
        refine EL_icmp_eq (tgt := 2539) (pc2 := 1495) rfl dL_law_1492 (by decide) (fun q => ?_) (fun q => ?_)
        · replace h := h.1 q
          refine EL_iinc (v4 + 6) (pc2 := 2542) rfl dL_law_2539 (by decide) 3 rfl rfl (by decide) [1, 2, 3, 0] [(1, .ref 0), (2, .ref 246), (3, .ref 337), (4, .int (v4 + 6))] rfl ?_
          refine EL_goto (tgt := 23) dL_law_2542 (by decide) ?_
          exact hL23 (v4 + 6) x208 h bu (by omega)
        · replace h := h.2 q
          refine EL_iconst (pc2 := 1496) (v := 0) rfl dL_law_1495 (by decide) ?_
          exact False.elim h
      | 26, _, qk =>
        replace h := h.2.2.2.2.2.2.2.2.2.2.2.2.2.2.2.2.2.2.2.2.2.2.2.2.2.2.2.1 qk
        refine EL_tabIn (off := 1457) (tgt := 1497) dL_law_40 (by rw [qk]; decide) (by rw [qk]; decide) (by rw [qk]; decide) (by decide) ?_
        refine EL_aload_n (pc2 := 1498) rfl dL_law_1497 0 rfl ?_
        obtain ⟨b209, h⟩ := h
        refine EL_scrk (v := 1) (pc2 := 1504) rfl dL_law_1498 dL_law_1499 dL_law_1501 dL_law_1502 dL_law_1503 (by decide) 3 rfl b209 ?_
        refine EL_invV (M' := MX11_fault) [.int (xs (Int32.toNatClampNeg (v4 + 1)))] (rest := []) mlRL_140.1 mlRL_140.2.1 mlRL_140.2.2 q0.1 q0.2 (by decide) rfl (pc2 := 1507) rfl okX11_fault dL_law_1504 rfl rfl (Nat.le_of_ble_eq_true rfl) (Nat.le_of_ble_eq_true rfl) (d' := 212) (by decide) (b1 := 0) (Nat.zero_add _) (Or.inl rfl) (EW_mono (fun _ _ hr => ?_) (sX11_fault (xs (Int32.toNatClampNeg (v4 + 1)))  x _ _ 0 0 (Nat.le_refl _) h))
        obtain ⟨r210, x211, rfl, rfl, h⟩ := hr
        replace h := And.intro b209 h
        refine EL_aload_n (pc2 := 1508) rfl dL_law_1507 1 rfl ?_
        obtain ⟨b212, h⟩ := h
        refine EL_scrk (v := 1) (pc2 := 1514) rfl dL_law_1508 dL_law_1509 dL_law_1511 dL_law_1512 dL_law_1513 (by decide) 3 rfl b212 ?_
        refine EL_invV (M' := MX12_fault) [.int (xs (Int32.toNatClampNeg (v4 + 1)))] (rest := [.int r210]) mlRL_143.1 mlRL_143.2.1 mlRL_143.2.2 q246.1 q246.2 (by decide) rfl (pc2 := 1517) rfl okX12_fault dL_law_1514 rfl rfl (Nat.le_of_ble_eq_true rfl) (Nat.le_of_ble_eq_true rfl) (d' := 210) (by decide) (b1 := 0) (Nat.zero_add _) (Or.inl rfl) (EW_mono (fun _ _ hr => ?_) (sX12_fault (xs (Int32.toNatClampNeg (v4 + 1)))  x211 _ _ 0 0 (Nat.le_refl _) h))
        obtain ⟨r213, x214, rfl, rfl, h⟩ := hr
        replace h := law_leaf h
        refine EL_icmp_eq (tgt := 2539) (pc2 := 1520) rfl dL_law_1517 (by decide) (fun q => ?_) (fun q => ?_)
        · replace h := h.1 q
          refine EL_iinc (v4 + 6) (pc2 := 2542) rfl dL_law_2539 (by decide) 3 rfl rfl (by decide) [1, 2, 3, 0] [(1, .ref 0), (2, .ref 246), (3, .ref 337), (4, .int (v4 + 6))] rfl ?_
          refine EL_goto (tgt := 23) dL_law_2542 (by decide) ?_
          exact hL23 (v4 + 6) x214 h bu (by omega)
        · replace h := h.2 q
          refine EL_iconst (pc2 := 1521) (v := 0) rfl dL_law_1520 (by decide) ?_
          exact False.elim h
      | 27, _, qk =>
        replace h := h.2.2.2.2.2.2.2.2.2.2.2.2.2.2.2.2.2.2.2.2.2.2.2.2.2.2.2.2.1 qk
        refine EL_tabIn (off := 1482) (tgt := 1522) dL_law_40 (by rw [qk]; decide) (by rw [qk]; decide) (by rw [qk]; decide) (by decide) ?_
        refine EL_aload_n (pc2 := 1523) rfl dL_law_1522 0 rfl ?_
        refine EL_invV (M' := MX11_orders) [] (rest := []) mlRL_144.1 mlRL_144.2.1 mlRL_144.2.2 q0.1 q0.2 (by decide) rfl (pc2 := 1526) rfl okX11_orders dL_law_1523 rfl rfl (Nat.le_of_ble_eq_true rfl) (Nat.le_of_ble_eq_true rfl) (d' := 212) (by decide) (b1 := 0) (Nat.zero_add _) (Or.inl rfl) (EW_mono (fun _ _ hr => ?_) (sX11_orders   x _ _ 0 0 (Nat.le_refl _) h))
        obtain ⟨r215, x216, rfl, rfl, h⟩ := hr
        refine EL_aload_n (pc2 := 1527) rfl dL_law_1526 1 rfl ?_
        refine EL_invV (M' := MX12_orders) [] (rest := [.int r215]) mlRL_147.1 mlRL_147.2.1 mlRL_147.2.2 q246.1 q246.2 (by decide) rfl (pc2 := 1530) rfl okX12_orders dL_law_1527 rfl rfl (Nat.le_of_ble_eq_true rfl) (Nat.le_of_ble_eq_true rfl) (d' := 211) (by decide) (b1 := 0) (Nat.zero_add _) (Or.inl rfl) (EW_mono (fun _ _ hr => ?_) (sX12_orders   x216 _ _ 0 0 (Nat.le_refl _) h))
        obtain ⟨r217, x218, rfl, rfl, h⟩ := hr
        replace h := law_leaf h
        refine EL_icmp_eq (tgt := 2539) (pc2 := 1533) rfl dL_law_1530 (by decide) (fun q => ?_) (fun q => ?_)
        · replace h := h.1 q
          refine EL_iinc (v4 + 6) (pc2 := 2542) rfl dL_law_2539 (by decide) 3 rfl rfl (by decide) [1, 2, 3, 0] [(1, .ref 0), (2, .ref 246), (3, .ref 337), (4, .int (v4 + 6))] rfl ?_
          refine EL_goto (tgt := 23) dL_law_2542 (by decide) ?_
          exact hL23 (v4 + 6) x218 h bu (by omega)
        · replace h := h.2 q
          refine EL_iconst (pc2 := 1534) (v := 0) rfl dL_law_1533 (by decide) ?_
          exact False.elim h
      | 28, _, qk =>
        replace h := h.2.2.2.2.2.2.2.2.2.2.2.2.2.2.2.2.2.2.2.2.2.2.2.2.2.2.2.2.2.1 qk
        refine EL_tabIn (off := 1495) (tgt := 1535) dL_law_40 (by rw [qk]; decide) (by rw [qk]; decide) (by rw [qk]; decide) (by decide) ?_
        refine EL_aload_n (pc2 := 1536) rfl dL_law_1535 0 rfl ?_
        refine EL_invV (M' := MX11_leaving) [] (rest := []) mlRL_148.1 mlRL_148.2.1 mlRL_148.2.2 q0.1 q0.2 (by decide) rfl (pc2 := 1539) rfl okX11_leaving dL_law_1536 rfl rfl (Nat.le_of_ble_eq_true rfl) (Nat.le_of_ble_eq_true rfl) (d' := 212) (by decide) (b1 := 0) (Nat.zero_add _) (Or.inl rfl) (EW_mono (fun _ _ hr => ?_) (sX11_leaving   x _ _ 0 0 (Nat.le_refl _) h))
        obtain ⟨r219, x220, rfl, rfl, h⟩ := hr
        refine EL_aload_n (pc2 := 1540) rfl dL_law_1539 1 rfl ?_
        refine EL_invV (M' := MX12_leaving) [] (rest := [.int r219]) mlRL_152.1 mlRL_152.2.1 mlRL_152.2.2 q246.1 q246.2 (by decide) rfl (pc2 := 1543) rfl okX12_leaving dL_law_1540 rfl rfl (Nat.le_of_ble_eq_true rfl) (Nat.le_of_ble_eq_true rfl) (d' := 211) (by decide) (b1 := 0) (Nat.zero_add _) (Or.inl rfl) (EW_mono (fun _ _ hr => ?_) (sX12_leaving   x220 _ _ 0 0 (Nat.le_refl _) h))
        obtain ⟨r221, x222, rfl, rfl, h⟩ := hr
        replace h := law_leaf h
        refine EL_icmp_eq (tgt := 2539) (pc2 := 1546) rfl dL_law_1543 (by decide) (fun q => ?_) (fun q => ?_)
        · replace h := h.1 q
          refine EL_iinc (v4 + 6) (pc2 := 2542) rfl dL_law_2539 (by decide) 3 rfl rfl (by decide) [1, 2, 3, 0] [(1, .ref 0), (2, .ref 246), (3, .ref 337), (4, .int (v4 + 6))] rfl ?_
          refine EL_goto (tgt := 23) dL_law_2542 (by decide) ?_
          exact hL23 (v4 + 6) x222 h bu (by omega)
        · replace h := h.2 q
          refine EL_iconst (pc2 := 1547) (v := 0) rfl dL_law_1546 (by decide) ?_
          exact False.elim h
      | 29, _, qk =>
        replace h := h.2.2.2.2.2.2.2.2.2.2.2.2.2.2.2.2.2.2.2.2.2.2.2.2.2.2.2.2.2.2.1 qk
        refine EL_tabIn (off := 1508) (tgt := 1548) dL_law_40 (by rw [qk]; decide) (by rw [qk]; decide) (by rw [qk]; decide) (by decide) ?_
        refine EL_aload_n (pc2 := 1549) rfl dL_law_1548 0 rfl ?_
        obtain ⟨b223, h⟩ := h
        refine EL_scrk (v := 1) (pc2 := 1555) rfl dL_law_1549 dL_law_1550 dL_law_1552 dL_law_1553 dL_law_1554 (by decide) 3 rfl b223 ?_
        obtain ⟨b224, h⟩ := h
        refine EL_scrk (v := 2) (pc2 := 1561) rfl dL_law_1555 dL_law_1556 dL_law_1558 dL_law_1559 dL_law_1560 (by decide) 3 rfl b224 ?_
        obtain ⟨b225, h⟩ := h
        refine EL_scrk (v := 3) (pc2 := 1567) rfl dL_law_1561 dL_law_1562 dL_law_1564 dL_law_1565 dL_law_1566 (by decide) 3 rfl b225 ?_
        refine EL_invV (M' := MX11_asks) [.int (xs (Int32.toNatClampNeg (v4 + 1))), .int (xs (Int32.toNatClampNeg (v4 + 2))), .int (xs (Int32.toNatClampNeg (v4 + 3)))] (rest := []) mlRL_153.1 mlRL_153.2.1 mlRL_153.2.2 q0.1 q0.2 (by decide) rfl (pc2 := 1570) rfl okX11_asks dL_law_1567 rfl rfl (Nat.le_of_ble_eq_true rfl) (Nat.le_of_ble_eq_true rfl) (d' := 4) (by decide) (b1 := 0) (Nat.zero_add _) (Or.inl rfl) (EW_mono (fun _ _ hr => ?_) (sX11_asks (xs (Int32.toNatClampNeg (v4 + 1))) (xs (Int32.toNatClampNeg (v4 + 2))) (xs (Int32.toNatClampNeg (v4 + 3)))  x _ _ 0 0 (Nat.le_refl _) h))
        obtain ⟨r226, x227, rfl, rfl, h⟩ := hr
        replace h := And.intro b223 (And.intro b224 (And.intro b225 h))
        refine EL_aload_n (pc2 := 1571) rfl dL_law_1570 1 rfl ?_
        obtain ⟨b228, h⟩ := h
        refine EL_scrk (v := 1) (pc2 := 1577) rfl dL_law_1571 dL_law_1572 dL_law_1574 dL_law_1575 dL_law_1576 (by decide) 3 rfl b228 ?_
        obtain ⟨b229, h⟩ := h
        refine EL_scrk (v := 2) (pc2 := 1583) rfl dL_law_1577 dL_law_1578 dL_law_1580 dL_law_1581 dL_law_1582 (by decide) 3 rfl b229 ?_
        obtain ⟨b230, h⟩ := h
        refine EL_scrk (v := 3) (pc2 := 1589) rfl dL_law_1583 dL_law_1584 dL_law_1586 dL_law_1587 dL_law_1588 (by decide) 3 rfl b230 ?_
        refine EL_invV (M' := MX12_asks) [.int (xs (Int32.toNatClampNeg (v4 + 1))), .int (xs (Int32.toNatClampNeg (v4 + 2))), .int (xs (Int32.toNatClampNeg (v4 + 3)))] (rest := [.int r226]) mlRL_156.1 mlRL_156.2.1 mlRL_156.2.2 q246.1 q246.2 (by decide) rfl (pc2 := 1592) rfl okX12_asks dL_law_1589 rfl rfl (Nat.le_of_ble_eq_true rfl) (Nat.le_of_ble_eq_true rfl) (d' := 211) (by decide) (b1 := 0) (Nat.zero_add _) (Or.inl rfl) (EW_mono (fun _ _ hr => ?_) (sX12_asks (xs (Int32.toNatClampNeg (v4 + 1))) (xs (Int32.toNatClampNeg (v4 + 2))) (xs (Int32.toNatClampNeg (v4 + 3)))  x227 _ _ 0 0 (Nat.le_refl _) h))
        obtain ⟨r231, x232, rfl, rfl, h⟩ := hr
        replace h := law_leaf h
        refine EL_icmp_eq (tgt := 2539) (pc2 := 1595) rfl dL_law_1592 (by decide) (fun q => ?_) (fun q => ?_)
        · replace h := h.1 q
          refine EL_iinc (v4 + 6) (pc2 := 2542) rfl dL_law_2539 (by decide) 3 rfl rfl (by decide) [1, 2, 3, 0] [(1, .ref 0), (2, .ref 246), (3, .ref 337), (4, .int (v4 + 6))] rfl ?_
          refine EL_goto (tgt := 23) dL_law_2542 (by decide) ?_
          exact hL23 (v4 + 6) x232 h bu (by omega)
        · replace h := h.2 q
          refine EL_iconst (pc2 := 1596) (v := 0) rfl dL_law_1595 (by decide) ?_
          exact False.elim h
      | 30, _, qk =>
        replace h := h.2.2.2.2.2.2.2.2.2.2.2.2.2.2.2.2.2.2.2.2.2.2.2.2.2.2.2.2.2.2.2.1 qk
        refine EL_tabIn (off := 1557) (tgt := 1597) dL_law_40 (by rw [qk]; decide) (by rw [qk]; decide) (by rw [qk]; decide) (by decide) ?_
        refine EL_aload_n (pc2 := 1598) rfl dL_law_1597 0 rfl ?_
        obtain ⟨b233, h⟩ := h
        refine EL_scrk (v := 1) (pc2 := 1604) rfl dL_law_1598 dL_law_1599 dL_law_1601 dL_law_1602 dL_law_1603 (by decide) 3 rfl b233 ?_
        obtain ⟨b234, h⟩ := h
        refine EL_scrk (v := 2) (pc2 := 1610) rfl dL_law_1604 dL_law_1605 dL_law_1607 dL_law_1608 dL_law_1609 (by decide) 3 rfl b234 ?_
        refine EL_invV (M' := MX11_why) [.int (xs (Int32.toNatClampNeg (v4 + 1))), .int (xs (Int32.toNatClampNeg (v4 + 2)))] (rest := []) mlRL_157.1 mlRL_157.2.1 mlRL_157.2.2 q0.1 q0.2 (by decide) rfl (pc2 := 1613) rfl okX11_why dL_law_1610 rfl rfl (Nat.le_of_ble_eq_true rfl) (Nat.le_of_ble_eq_true rfl) (d' := 4) (by decide) (b1 := 0) (Nat.zero_add _) (Or.inl rfl) (EW_mono (fun _ _ hr => ?_) (sX11_why (xs (Int32.toNatClampNeg (v4 + 1))) (xs (Int32.toNatClampNeg (v4 + 2)))  x _ _ 0 0 (Nat.le_refl _) h))
        obtain ⟨r235, x236, rfl, rfl, h⟩ := hr
        replace h := And.intro b233 (And.intro b234 h)
        refine EL_aload_n (pc2 := 1614) rfl dL_law_1613 1 rfl ?_
        obtain ⟨b237, h⟩ := h
        refine EL_scrk (v := 1) (pc2 := 1620) rfl dL_law_1614 dL_law_1615 dL_law_1617 dL_law_1618 dL_law_1619 (by decide) 3 rfl b237 ?_
        obtain ⟨b238, h⟩ := h
        refine EL_scrk (v := 2) (pc2 := 1626) rfl dL_law_1620 dL_law_1621 dL_law_1623 dL_law_1624 dL_law_1625 (by decide) 3 rfl b238 ?_
        refine EL_invV (M' := MX12_why) [.int (xs (Int32.toNatClampNeg (v4 + 1))), .int (xs (Int32.toNatClampNeg (v4 + 2)))] (rest := [.int r235]) mlRL_160.1 mlRL_160.2.1 mlRL_160.2.2 q246.1 q246.2 (by decide) rfl (pc2 := 1629) rfl okX12_why dL_law_1626 rfl rfl (Nat.le_of_ble_eq_true rfl) (Nat.le_of_ble_eq_true rfl) (d' := 211) (by decide) (b1 := 0) (Nat.zero_add _) (Or.inl rfl) (EW_mono (fun _ _ hr => ?_) (sX12_why (xs (Int32.toNatClampNeg (v4 + 1))) (xs (Int32.toNatClampNeg (v4 + 2)))  x236 _ _ 0 0 (Nat.le_refl _) h))
        obtain ⟨r239, x240, rfl, rfl, h⟩ := hr
        replace h := law_leaf h
        refine EL_icmp_eq (tgt := 2539) (pc2 := 1632) rfl dL_law_1629 (by decide) (fun q => ?_) (fun q => ?_)
        · replace h := h.1 q
          refine EL_iinc (v4 + 6) (pc2 := 2542) rfl dL_law_2539 (by decide) 3 rfl rfl (by decide) [1, 2, 3, 0] [(1, .ref 0), (2, .ref 246), (3, .ref 337), (4, .int (v4 + 6))] rfl ?_
          refine EL_goto (tgt := 23) dL_law_2542 (by decide) ?_
          exact hL23 (v4 + 6) x240 h bu (by omega)
        · replace h := h.2 q
          refine EL_iconst (pc2 := 1633) (v := 0) rfl dL_law_1632 (by decide) ?_
          exact False.elim h
      | 31, _, qk =>
        replace h := h.2.2.2.2.2.2.2.2.2.2.2.2.2.2.2.2.2.2.2.2.2.2.2.2.2.2.2.2.2.2.2.2.1 qk
        refine EL_tabIn (off := 1594) (tgt := 1634) dL_law_40 (by rw [qk]; decide) (by rw [qk]; decide) (by rw [qk]; decide) (by decide) ?_
        refine EL_aload_n (pc2 := 1635) rfl dL_law_1634 0 rfl ?_
        obtain ⟨b241, h⟩ := h
        refine EL_scrk (v := 1) (pc2 := 1641) rfl dL_law_1635 dL_law_1636 dL_law_1638 dL_law_1639 dL_law_1640 (by decide) 3 rfl b241 ?_
        refine EL_invV (M' := MX11_tick) [.int (xs (Int32.toNatClampNeg (v4 + 1)))] (rest := []) mlRL_161.1 mlRL_161.2.1 mlRL_161.2.2 q0.1 q0.2 (by decide) rfl (pc2 := 1644) rfl okX11_tick dL_law_1641 rfl rfl (Nat.le_of_ble_eq_true rfl) (Nat.le_of_ble_eq_true rfl) (d' := 7) (by decide) (b1 := 0) (Nat.zero_add _) (Or.inl rfl) (EW_mono (fun _ _ hr => ?_) (sX11_tick (xs (Int32.toNatClampNeg (v4 + 1)))  x _ _ 0 0 (Nat.le_refl _) h))
        obtain ⟨r242, x243, rfl, rfl, h⟩ := hr
        replace h := And.intro b241 h
        refine EL_aload_n (pc2 := 1645) rfl dL_law_1644 1 rfl ?_
        obtain ⟨b244, h⟩ := h
        refine EL_scrk (v := 1) (pc2 := 1651) rfl dL_law_1645 dL_law_1646 dL_law_1648 dL_law_1649 dL_law_1650 (by decide) 3 rfl b244 ?_
        refine EL_invV (M' := MX12_tick) [.int (xs (Int32.toNatClampNeg (v4 + 1)))] (rest := [.int r242]) mlRL_164.1 mlRL_164.2.1 mlRL_164.2.2 q246.1 q246.2 (by decide) rfl (pc2 := 1654) rfl okX12_tick dL_law_1651 rfl rfl (Nat.le_of_ble_eq_true rfl) (Nat.le_of_ble_eq_true rfl) (d' := 213) (by decide) (b1 := 0) (Nat.zero_add _) (Or.inl rfl) (EW_mono (fun _ _ hr => ?_) (sX12_tick (xs (Int32.toNatClampNeg (v4 + 1)))  x243 _ _ 0 0 (Nat.le_refl _) h))
        obtain ⟨r245, x246, rfl, rfl, h⟩ := hr
        replace h := law_leaf h
        refine EL_icmp_eq (tgt := 2539) (pc2 := 1657) rfl dL_law_1654 (by decide) (fun q => ?_) (fun q => ?_)
        · replace h := h.1 q
          refine EL_iinc (v4 + 6) (pc2 := 2542) rfl dL_law_2539 (by decide) 3 rfl rfl (by decide) [1, 2, 3, 0] [(1, .ref 0), (2, .ref 246), (3, .ref 337), (4, .int (v4 + 6))] rfl ?_
          refine EL_goto (tgt := 23) dL_law_2542 (by decide) ?_
          exact hL23 (v4 + 6) x246 h bu (by omega)
        · replace h := h.2 q
          refine EL_iconst (pc2 := 1658) (v := 0) rfl dL_law_1657 (by decide) ?_
          exact False.elim h
      | 32, _, qk =>
        replace h := h.2.2.2.2.2.2.2.2.2.2.2.2.2.2.2.2.2.2.2.2.2.2.2.2.2.2.2.2.2.2.2.2.2.1 qk
        refine EL_tabIn (off := 1619) (tgt := 1659) dL_law_40 (by rw [qk]; decide) (by rw [qk]; decide) (by rw [qk]; decide) (by decide) ?_
        refine EL_aload_n (pc2 := 1660) rfl dL_law_1659 0 rfl ?_
        obtain ⟨b247, h⟩ := h
        refine EL_scrk (v := 1) (pc2 := 1666) rfl dL_law_1660 dL_law_1661 dL_law_1663 dL_law_1664 dL_law_1665 (by decide) 3 rfl b247 ?_
        refine EL_invV (M' := MX11_act) [.int (xs (Int32.toNatClampNeg (v4 + 1)))] (rest := []) mlRL_165.1 mlRL_165.2.1 mlRL_165.2.2 q0.1 q0.2 (by decide) rfl (pc2 := 1669) rfl okX11_act dL_law_1666 rfl rfl (Nat.le_of_ble_eq_true rfl) (Nat.le_of_ble_eq_true rfl) (d' := 212) (by decide) (b1 := 0) (Nat.zero_add _) (Or.inl rfl) (EW_mono (fun _ _ hr => ?_) (sX11_act (xs (Int32.toNatClampNeg (v4 + 1)))  x _ _ 0 0 (Nat.le_refl _) h))
        obtain ⟨r248, x249, rfl, rfl, h⟩ := hr
        replace h := And.intro b247 h
        refine EL_aload_n (pc2 := 1670) rfl dL_law_1669 1 rfl ?_
        obtain ⟨b250, h⟩ := h
        refine EL_scrk (v := 1) (pc2 := 1676) rfl dL_law_1670 dL_law_1671 dL_law_1673 dL_law_1674 dL_law_1675 (by decide) 3 rfl b250 ?_
        refine EL_invV (M' := MX12_act) [.int (xs (Int32.toNatClampNeg (v4 + 1)))] (rest := [.int r248]) mlRL_168.1 mlRL_168.2.1 mlRL_168.2.2 q246.1 q246.2 (by decide) rfl (pc2 := 1679) rfl okX12_act dL_law_1676 rfl rfl (Nat.le_of_ble_eq_true rfl) (Nat.le_of_ble_eq_true rfl) (d' := 211) (by decide) (b1 := 0) (Nat.zero_add _) (Or.inl rfl) (EW_mono (fun _ _ hr => ?_) (sX12_act (xs (Int32.toNatClampNeg (v4 + 1)))  x249 _ _ 0 0 (Nat.le_refl _) h))
        obtain ⟨r251, x252, rfl, rfl, h⟩ := hr
        replace h := law_leaf h
        refine EL_icmp_eq (tgt := 2539) (pc2 := 1682) rfl dL_law_1679 (by decide) (fun q => ?_) (fun q => ?_)
        · replace h := h.1 q
          refine EL_iinc (v4 + 6) (pc2 := 2542) rfl dL_law_2539 (by decide) 3 rfl rfl (by decide) [1, 2, 3, 0] [(1, .ref 0), (2, .ref 246), (3, .ref 337), (4, .int (v4 + 6))] rfl ?_
          refine EL_goto (tgt := 23) dL_law_2542 (by decide) ?_
          exact hL23 (v4 + 6) x252 h bu (by omega)
        · replace h := h.2 q
          refine EL_iconst (pc2 := 1683) (v := 0) rfl dL_law_1682 (by decide) ?_
          exact False.elim h
      | 33, _, qk =>
        replace h := h.2.2.2.2.2.2.2.2.2.2.2.2.2.2.2.2.2.2.2.2.2.2.2.2.2.2.2.2.2.2.2.2.2.2.1 qk
        refine EL_tabIn (off := 1644) (tgt := 1684) dL_law_40 (by rw [qk]; decide) (by rw [qk]; decide) (by rw [qk]; decide) (by decide) ?_
        refine EL_aload_n (pc2 := 1685) rfl dL_law_1684 0 rfl ?_
        obtain ⟨b253, h⟩ := h
        refine EL_scrk (v := 1) (pc2 := 1691) rfl dL_law_1685 dL_law_1686 dL_law_1688 dL_law_1689 dL_law_1690 (by decide) 3 rfl b253 ?_
        obtain ⟨b254, h⟩ := h
        refine EL_scrk (v := 2) (pc2 := 1697) rfl dL_law_1691 dL_law_1692 dL_law_1694 dL_law_1695 dL_law_1696 (by decide) 3 rfl b254 ?_
        refine EL_invV (M' := MX11_force) [.int (xs (Int32.toNatClampNeg (v4 + 1))), .int (xs (Int32.toNatClampNeg (v4 + 2)))] (rest := []) mlRL_169.1 mlRL_169.2.1 mlRL_169.2.2 q0.1 q0.2 (by decide) rfl (pc2 := 1700) rfl okX11_force dL_law_1697 rfl rfl (Nat.le_of_ble_eq_true rfl) (Nat.le_of_ble_eq_true rfl) (d' := 3) (by decide) (b1 := 0) (Nat.zero_add _) (Or.inl rfl) (EW_mono (fun _ _ hr => ?_) (sX11_force (xs (Int32.toNatClampNeg (v4 + 1))) (xs (Int32.toNatClampNeg (v4 + 2)))  x _ _ 0 0 (Nat.le_refl _) h))
        obtain ⟨r255, rfl, rfl, h⟩ := hr
        replace h := And.intro b253 (And.intro b254 h)
        refine EL_aload_n (pc2 := 1701) rfl dL_law_1700 1 rfl ?_
        obtain ⟨b256, h⟩ := h
        refine EL_scrk (v := 1) (pc2 := 1707) rfl dL_law_1701 dL_law_1702 dL_law_1704 dL_law_1705 dL_law_1706 (by decide) 3 rfl b256 ?_
        obtain ⟨b257, h⟩ := h
        refine EL_scrk (v := 2) (pc2 := 1713) rfl dL_law_1707 dL_law_1708 dL_law_1710 dL_law_1711 dL_law_1712 (by decide) 3 rfl b257 ?_
        refine EL_invV (M' := MX12_force) [.int (xs (Int32.toNatClampNeg (v4 + 1))), .int (xs (Int32.toNatClampNeg (v4 + 2)))] (rest := [.int r255]) mlRL_172.1 mlRL_172.2.1 mlRL_172.2.2 q246.1 q246.2 (by decide) rfl (pc2 := 1716) rfl okX12_force dL_law_1713 rfl rfl (Nat.le_of_ble_eq_true rfl) (Nat.le_of_ble_eq_true rfl) (d' := 1) (by decide) (b1 := 0) (Nat.zero_add _) (Or.inl rfl) (EW_mono (fun _ _ hr => ?_) (sX12_force (xs (Int32.toNatClampNeg (v4 + 1))) (xs (Int32.toNatClampNeg (v4 + 2)))  x _ _ 0 0 (Nat.le_refl _) h))
        obtain ⟨r258, x259, rfl, rfl, h⟩ := hr
        replace h := law_leaf h
        refine EL_icmp_eq (tgt := 2539) (pc2 := 1719) rfl dL_law_1716 (by decide) (fun q => ?_) (fun q => ?_)
        · replace h := h.1 q
          refine EL_iinc (v4 + 6) (pc2 := 2542) rfl dL_law_2539 (by decide) 3 rfl rfl (by decide) [1, 2, 3, 0] [(1, .ref 0), (2, .ref 246), (3, .ref 337), (4, .int (v4 + 6))] rfl ?_
          refine EL_goto (tgt := 23) dL_law_2542 (by decide) ?_
          exact hL23 (v4 + 6) x259 h bu (by omega)
        · replace h := h.2 q
          refine EL_iconst (pc2 := 1720) (v := 0) rfl dL_law_1719 (by decide) ?_
          exact False.elim h
      | 34, _, qk =>
        replace h := h.2.2.2.2.2.2.2.2.2.2.2.2.2.2.2.2.2.2.2.2.2.2.2.2.2.2.2.2.2.2.2.2.2.2.2.1 qk
        refine EL_tabIn (off := 1681) (tgt := 1721) dL_law_40 (by rw [qk]; decide) (by rw [qk]; decide) (by rw [qk]; decide) (by decide) ?_
        refine EL_aload_n (pc2 := 1722) rfl dL_law_1721 0 rfl ?_
        obtain ⟨b260, h⟩ := h
        refine EL_scrk (v := 1) (pc2 := 1728) rfl dL_law_1722 dL_law_1723 dL_law_1725 dL_law_1726 dL_law_1727 (by decide) 3 rfl b260 ?_
        obtain ⟨b261, h⟩ := h
        refine EL_scrk (v := 2) (pc2 := 1734) rfl dL_law_1728 dL_law_1729 dL_law_1731 dL_law_1732 dL_law_1733 (by decide) 3 rfl b261 ?_
        obtain ⟨b262, h⟩ := h
        refine EL_scrk (v := 3) (pc2 := 1740) rfl dL_law_1734 dL_law_1735 dL_law_1737 dL_law_1738 dL_law_1739 (by decide) 3 rfl b262 ?_
        refine EL_invV (M' := MX11_change) [.int (xs (Int32.toNatClampNeg (v4 + 1))), .int (xs (Int32.toNatClampNeg (v4 + 2))), .int (xs (Int32.toNatClampNeg (v4 + 3)))] (rest := []) mlRL_173.1 mlRL_173.2.1 mlRL_173.2.2 q0.1 q0.2 (by decide) rfl (pc2 := 1743) rfl okX11_change dL_law_1740 rfl rfl (Nat.le_of_ble_eq_true rfl) (Nat.le_of_ble_eq_true rfl) (d' := 3) (by decide) (b1 := 0) (Nat.zero_add _) (Or.inl rfl) (EW_mono (fun _ _ hr => ?_) (sX11_change (xs (Int32.toNatClampNeg (v4 + 1))) (xs (Int32.toNatClampNeg (v4 + 2))) (xs (Int32.toNatClampNeg (v4 + 3)))  x _ _ 0 0 (Nat.le_refl _) h))
        obtain ⟨r263, x264, rfl, rfl, h⟩ := hr
        replace h := And.intro b260 (And.intro b261 (And.intro b262 h))
        refine EL_aload_n (pc2 := 1744) rfl dL_law_1743 1 rfl ?_
        obtain ⟨b265, h⟩ := h
        refine EL_scrk (v := 1) (pc2 := 1750) rfl dL_law_1744 dL_law_1745 dL_law_1747 dL_law_1748 dL_law_1749 (by decide) 3 rfl b265 ?_
        obtain ⟨b266, h⟩ := h
        refine EL_scrk (v := 2) (pc2 := 1756) rfl dL_law_1750 dL_law_1751 dL_law_1753 dL_law_1754 dL_law_1755 (by decide) 3 rfl b266 ?_
        obtain ⟨b267, h⟩ := h
        refine EL_scrk (v := 3) (pc2 := 1762) rfl dL_law_1756 dL_law_1757 dL_law_1759 dL_law_1760 dL_law_1761 (by decide) 3 rfl b267 ?_
        refine EL_invV (M' := MX12_change) [.int (xs (Int32.toNatClampNeg (v4 + 1))), .int (xs (Int32.toNatClampNeg (v4 + 2))), .int (xs (Int32.toNatClampNeg (v4 + 3)))] (rest := [.int r263]) mlRL_176.1 mlRL_176.2.1 mlRL_176.2.2 q246.1 q246.2 (by decide) rfl (pc2 := 1765) rfl okX12_change dL_law_1762 rfl rfl (Nat.le_of_ble_eq_true rfl) (Nat.le_of_ble_eq_true rfl) (d' := 2) (by decide) (b1 := 0) (Nat.zero_add _) (Or.inl rfl) (EW_mono (fun _ _ hr => ?_) (sX12_change (xs (Int32.toNatClampNeg (v4 + 1))) (xs (Int32.toNatClampNeg (v4 + 2))) (xs (Int32.toNatClampNeg (v4 + 3)))  x264 _ _ 0 0 (Nat.le_refl _) h))
        obtain ⟨r268, x269, rfl, rfl, h⟩ := hr
        replace h := law_leaf h
        refine EL_icmp_eq (tgt := 2539) (pc2 := 1768) rfl dL_law_1765 (by decide) (fun q => ?_) (fun q => ?_)
        · replace h := h.1 q
          refine EL_iinc (v4 + 6) (pc2 := 2542) rfl dL_law_2539 (by decide) 3 rfl rfl (by decide) [1, 2, 3, 0] [(1, .ref 0), (2, .ref 246), (3, .ref 337), (4, .int (v4 + 6))] rfl ?_
          refine EL_goto (tgt := 23) dL_law_2542 (by decide) ?_
          exact hL23 (v4 + 6) x269 h bu (by omega)
        · replace h := h.2 q
          refine EL_iconst (pc2 := 1769) (v := 0) rfl dL_law_1768 (by decide) ?_
          exact False.elim h
      | 35, _, qk =>
        replace h := h.2.2.2.2.2.2.2.2.2.2.2.2.2.2.2.2.2.2.2.2.2.2.2.2.2.2.2.2.2.2.2.2.2.2.2.2.1 qk
        refine EL_tabIn (off := 1730) (tgt := 1770) dL_law_40 (by rw [qk]; decide) (by rw [qk]; decide) (by rw [qk]; decide) (by decide) ?_
        refine EL_aload_n (pc2 := 1771) rfl dL_law_1770 0 rfl ?_
        obtain ⟨b270, h⟩ := h
        refine EL_scrk (v := 1) (pc2 := 1777) rfl dL_law_1771 dL_law_1772 dL_law_1774 dL_law_1775 dL_law_1776 (by decide) 3 rfl b270 ?_
        obtain ⟨b271, h⟩ := h
        refine EL_scrk (v := 2) (pc2 := 1783) rfl dL_law_1777 dL_law_1778 dL_law_1780 dL_law_1781 dL_law_1782 (by decide) 3 rfl b271 ?_
        refine EL_invV (M' := MX11_used) [.int (xs (Int32.toNatClampNeg (v4 + 1))), .int (xs (Int32.toNatClampNeg (v4 + 2)))] (rest := []) mlRL_177.1 mlRL_177.2.1 mlRL_177.2.2 q0.1 q0.2 (by decide) rfl (pc2 := 1786) rfl okX11_used dL_law_1783 rfl rfl (Nat.le_of_ble_eq_true rfl) (Nat.le_of_ble_eq_true rfl) (d' := 3) (by decide) (b1 := 0) (Nat.zero_add _) (Or.inl rfl) (EW_mono (fun _ _ hr => ?_) (sX11_used (xs (Int32.toNatClampNeg (v4 + 1))) (xs (Int32.toNatClampNeg (v4 + 2)))  x _ _ 0 0 (Nat.le_refl _) h))
        obtain ⟨r272, rfl, rfl, h⟩ := hr
        replace h := And.intro b270 (And.intro b271 h)
        refine EL_aload_n (pc2 := 1787) rfl dL_law_1786 1 rfl ?_
        obtain ⟨b273, h⟩ := h
        refine EL_scrk (v := 1) (pc2 := 1793) rfl dL_law_1787 dL_law_1788 dL_law_1790 dL_law_1791 dL_law_1792 (by decide) 3 rfl b273 ?_
        obtain ⟨b274, h⟩ := h
        refine EL_scrk (v := 2) (pc2 := 1799) rfl dL_law_1793 dL_law_1794 dL_law_1796 dL_law_1797 dL_law_1798 (by decide) 3 rfl b274 ?_
        refine EL_invV (M' := MX12_used) [.int (xs (Int32.toNatClampNeg (v4 + 1))), .int (xs (Int32.toNatClampNeg (v4 + 2)))] (rest := [.int r272]) mlRL_180.1 mlRL_180.2.1 mlRL_180.2.2 q246.1 q246.2 (by decide) rfl (pc2 := 1802) rfl okX12_used dL_law_1799 rfl rfl (Nat.le_of_ble_eq_true rfl) (Nat.le_of_ble_eq_true rfl) (d' := 1) (by decide) (b1 := 0) (Nat.zero_add _) (Or.inl rfl) (EW_mono (fun _ _ hr => ?_) (sX12_used (xs (Int32.toNatClampNeg (v4 + 1))) (xs (Int32.toNatClampNeg (v4 + 2)))  x _ _ 0 0 (Nat.le_refl _) h))
        obtain ⟨r275, x276, rfl, rfl, h⟩ := hr
        replace h := law_leaf h
        refine EL_icmp_eq (tgt := 2539) (pc2 := 1805) rfl dL_law_1802 (by decide) (fun q => ?_) (fun q => ?_)
        · replace h := h.1 q
          refine EL_iinc (v4 + 6) (pc2 := 2542) rfl dL_law_2539 (by decide) 3 rfl rfl (by decide) [1, 2, 3, 0] [(1, .ref 0), (2, .ref 246), (3, .ref 337), (4, .int (v4 + 6))] rfl ?_
          refine EL_goto (tgt := 23) dL_law_2542 (by decide) ?_
          exact hL23 (v4 + 6) x276 h bu (by omega)
        · replace h := h.2 q
          refine EL_iconst (pc2 := 1806) (v := 0) rfl dL_law_1805 (by decide) ?_
          exact False.elim h
      | 36, _, qk =>
        replace h := h.2.2.2.2.2.2.2.2.2.2.2.2.2.2.2.2.2.2.2.2.2.2.2.2.2.2.2.2.2.2.2.2.2.2.2.2.2.1 qk
        refine EL_tabIn (off := 1767) (tgt := 1807) dL_law_40 (by rw [qk]; decide) (by rw [qk]; decide) (by rw [qk]; decide) (by decide) ?_
        refine EL_aload_n (pc2 := 1808) rfl dL_law_1807 0 rfl ?_
        obtain ⟨b277, h⟩ := h
        refine EL_scrk (v := 1) (pc2 := 1814) rfl dL_law_1808 dL_law_1809 dL_law_1811 dL_law_1812 dL_law_1813 (by decide) 3 rfl b277 ?_
        refine EL_invV (M' := MX11_look) [.int (xs (Int32.toNatClampNeg (v4 + 1)))] (rest := []) mlRL_181.1 mlRL_181.2.1 mlRL_181.2.2 q0.1 q0.2 (by decide) rfl (pc2 := 1817) rfl okX11_look dL_law_1814 rfl rfl (Nat.le_of_ble_eq_true rfl) (Nat.le_of_ble_eq_true rfl) (d' := 2) (by decide) (b1 := 0) (Nat.zero_add _) (Or.inl rfl) (EW_mono (fun _ _ hr => ?_) (sX11_look (xs (Int32.toNatClampNeg (v4 + 1)))  x _ _ 0 0 (Nat.le_refl _) h))
        obtain ⟨r278, x279, rfl, rfl, h⟩ := hr
        replace h := And.intro b277 h
        refine EL_aload_n (pc2 := 1818) rfl dL_law_1817 1 rfl ?_
        obtain ⟨b280, h⟩ := h
        refine EL_scrk (v := 1) (pc2 := 1824) rfl dL_law_1818 dL_law_1819 dL_law_1821 dL_law_1822 dL_law_1823 (by decide) 3 rfl b280 ?_
        refine EL_invV (M' := MX12_look_) [.int (xs (Int32.toNatClampNeg (v4 + 1)))] (rest := [.int r278]) mlRL_184.1 mlRL_184.2.1 mlRL_184.2.2 q246.1 q246.2 (by decide) rfl (pc2 := 1827) rfl okX12_look_ dL_law_1824 rfl rfl (Nat.le_of_ble_eq_true rfl) (Nat.le_of_ble_eq_true rfl) (d' := 2) (by decide) (b1 := 0) (Nat.zero_add _) (Or.inl rfl) (EW_mono (fun _ _ hr => ?_) (sX12_look_ (xs (Int32.toNatClampNeg (v4 + 1)))  x279 _ _ 0 0 (Nat.le_refl _) h))
        obtain ⟨r281, x282, rfl, rfl, h⟩ := hr
        replace h := law_leaf h
        refine EL_icmp_eq (tgt := 2539) (pc2 := 1830) rfl dL_law_1827 (by decide) (fun q => ?_) (fun q => ?_)
        · replace h := h.1 q
          refine EL_iinc (v4 + 6) (pc2 := 2542) rfl dL_law_2539 (by decide) 3 rfl rfl (by decide) [1, 2, 3, 0] [(1, .ref 0), (2, .ref 246), (3, .ref 337), (4, .int (v4 + 6))] rfl ?_
          refine EL_goto (tgt := 23) dL_law_2542 (by decide) ?_
          exact hL23 (v4 + 6) x282 h bu (by omega)
        · replace h := h.2 q
          refine EL_iconst (pc2 := 1831) (v := 0) rfl dL_law_1830 (by decide) ?_
          exact False.elim h
      | 37, _, qk =>
        replace h := h.2.2.2.2.2.2.2.2.2.2.2.2.2.2.2.2.2.2.2.2.2.2.2.2.2.2.2.2.2.2.2.2.2.2.2.2.2.2.1 qk
        refine EL_tabIn (off := 1792) (tgt := 1832) dL_law_40 (by rw [qk]; decide) (by rw [qk]; decide) (by rw [qk]; decide) (by decide) ?_
        refine EL_aload_n (pc2 := 1833) rfl dL_law_1832 0 rfl ?_
        obtain ⟨b283, h⟩ := h
        refine EL_scrk (v := 1) (pc2 := 1839) rfl dL_law_1833 dL_law_1834 dL_law_1836 dL_law_1837 dL_law_1838 (by decide) 3 rfl b283 ?_
        obtain ⟨b284, h⟩ := h
        refine EL_scrk (v := 2) (pc2 := 1845) rfl dL_law_1839 dL_law_1840 dL_law_1842 dL_law_1843 dL_law_1844 (by decide) 3 rfl b284 ?_
        refine EL_invV (M' := MX11_fails) [.int (xs (Int32.toNatClampNeg (v4 + 1))), .int (xs (Int32.toNatClampNeg (v4 + 2)))] (rest := []) mlRL_185.1 mlRL_185.2.1 mlRL_185.2.2 q0.1 q0.2 (by decide) rfl (pc2 := 1848) rfl okX11_fails dL_law_1845 rfl rfl (Nat.le_of_ble_eq_true rfl) (Nat.le_of_ble_eq_true rfl) (d' := 4) (by decide) (b1 := 0) (Nat.zero_add _) (Or.inl rfl) (EW_mono (fun _ _ hr => ?_) (sX11_fails (xs (Int32.toNatClampNeg (v4 + 1))) (xs (Int32.toNatClampNeg (v4 + 2)))  x _ _ 0 0 (Nat.le_refl _) h))
        obtain ⟨r285, x286, rfl, rfl, h⟩ := hr
        replace h := And.intro b283 (And.intro b284 h)
        refine EL_aload_n (pc2 := 1849) rfl dL_law_1848 1 rfl ?_
        obtain ⟨b287, h⟩ := h
        refine EL_scrk (v := 1) (pc2 := 1855) rfl dL_law_1849 dL_law_1850 dL_law_1852 dL_law_1853 dL_law_1854 (by decide) 3 rfl b287 ?_
        obtain ⟨b288, h⟩ := h
        refine EL_scrk (v := 2) (pc2 := 1861) rfl dL_law_1855 dL_law_1856 dL_law_1858 dL_law_1859 dL_law_1860 (by decide) 3 rfl b288 ?_
        refine EL_invV (M' := MX12_fails) [.int (xs (Int32.toNatClampNeg (v4 + 1))), .int (xs (Int32.toNatClampNeg (v4 + 2)))] (rest := [.int r285]) mlRL_188.1 mlRL_188.2.1 mlRL_188.2.2 q246.1 q246.2 (by decide) rfl (pc2 := 1864) rfl okX12_fails dL_law_1861 rfl rfl (Nat.le_of_ble_eq_true rfl) (Nat.le_of_ble_eq_true rfl) (d' := 211) (by decide) (b1 := 0) (Nat.zero_add _) (Or.inl rfl) (EW_mono (fun _ _ hr => ?_) (sX12_fails (xs (Int32.toNatClampNeg (v4 + 1))) (xs (Int32.toNatClampNeg (v4 + 2)))  x286 _ _ 0 0 (Nat.le_refl _) h))
        obtain ⟨r289, x290, rfl, rfl, h⟩ := hr
        replace h := law_leaf h
        refine EL_icmp_eq (tgt := 2539) (pc2 := 1867) rfl dL_law_1864 (by decide) (fun q => ?_) (fun q => ?_)
        · replace h := h.1 q
          refine EL_iinc (v4 + 6) (pc2 := 2542) rfl dL_law_2539 (by decide) 3 rfl rfl (by decide) [1, 2, 3, 0] [(1, .ref 0), (2, .ref 246), (3, .ref 337), (4, .int (v4 + 6))] rfl ?_
          refine EL_goto (tgt := 23) dL_law_2542 (by decide) ?_
          exact hL23 (v4 + 6) x290 h bu (by omega)
        · replace h := h.2 q
          refine EL_iconst (pc2 := 1868) (v := 0) rfl dL_law_1867 (by decide) ?_
          exact False.elim h
      | 38, _, qk =>
        replace h := h.2.2.2.2.2.2.2.2.2.2.2.2.2.2.2.2.2.2.2.2.2.2.2.2.2.2.2.2.2.2.2.2.2.2.2.2.2.2.2.1 qk
        refine EL_tabIn (off := 1829) (tgt := 1869) dL_law_40 (by rw [qk]; decide) (by rw [qk]; decide) (by rw [qk]; decide) (by decide) ?_
        refine EL_aload_n (pc2 := 1870) rfl dL_law_1869 0 rfl ?_
        obtain ⟨b291, h⟩ := h
        refine EL_scrk (v := 1) (pc2 := 1876) rfl dL_law_1870 dL_law_1871 dL_law_1873 dL_law_1874 dL_law_1875 (by decide) 3 rfl b291 ?_
        obtain ⟨b292, h⟩ := h
        refine EL_scrk (v := 2) (pc2 := 1882) rfl dL_law_1876 dL_law_1877 dL_law_1879 dL_law_1880 dL_law_1881 (by decide) 3 rfl b292 ?_
        obtain ⟨b293, h⟩ := h
        refine EL_scrk (v := 3) (pc2 := 1888) rfl dL_law_1882 dL_law_1883 dL_law_1885 dL_law_1886 dL_law_1887 (by decide) 3 rfl b293 ?_
        refine EL_invV (M' := MX11_code) [.int (xs (Int32.toNatClampNeg (v4 + 1))), .int (xs (Int32.toNatClampNeg (v4 + 2))), .int (xs (Int32.toNatClampNeg (v4 + 3)))] (rest := []) mlRL_189.1 mlRL_189.2.1 mlRL_189.2.2 q0.1 q0.2 (by decide) rfl (pc2 := 1891) rfl okX11_code dL_law_1888 rfl rfl (Nat.le_of_ble_eq_true rfl) (Nat.le_of_ble_eq_true rfl) (d' := 5) (by decide) (b1 := 0) (Nat.zero_add _) (Or.inl rfl) (EW_mono (fun _ _ hr => ?_) (sX11_code (xs (Int32.toNatClampNeg (v4 + 1))) (xs (Int32.toNatClampNeg (v4 + 2))) (xs (Int32.toNatClampNeg (v4 + 3)))  x _ _ 0 0 (Nat.le_refl _) h))
        obtain ⟨r294, x295, rfl, rfl, h⟩ := hr
        replace h := And.intro b291 (And.intro b292 (And.intro b293 h))
        refine EL_aload_n (pc2 := 1892) rfl dL_law_1891 1 rfl ?_
        obtain ⟨b296, h⟩ := h
        refine EL_scrk (v := 1) (pc2 := 1898) rfl dL_law_1892 dL_law_1893 dL_law_1895 dL_law_1896 dL_law_1897 (by decide) 3 rfl b296 ?_
        obtain ⟨b297, h⟩ := h
        refine EL_scrk (v := 2) (pc2 := 1904) rfl dL_law_1898 dL_law_1899 dL_law_1901 dL_law_1902 dL_law_1903 (by decide) 3 rfl b297 ?_
        obtain ⟨b298, h⟩ := h
        refine EL_scrk (v := 3) (pc2 := 1910) rfl dL_law_1904 dL_law_1905 dL_law_1907 dL_law_1908 dL_law_1909 (by decide) 3 rfl b298 ?_
        refine EL_invV (M' := MX12_code) [.int (xs (Int32.toNatClampNeg (v4 + 1))), .int (xs (Int32.toNatClampNeg (v4 + 2))), .int (xs (Int32.toNatClampNeg (v4 + 3)))] (rest := [.int r294]) mlRL_192.1 mlRL_192.2.1 mlRL_192.2.2 q246.1 q246.2 (by decide) rfl (pc2 := 1913) rfl okX12_code dL_law_1910 rfl rfl (Nat.le_of_ble_eq_true rfl) (Nat.le_of_ble_eq_true rfl) (d' := 211) (by decide) (b1 := 0) (Nat.zero_add _) (Or.inl rfl) (EW_mono (fun _ _ hr => ?_) (sX12_code (xs (Int32.toNatClampNeg (v4 + 1))) (xs (Int32.toNatClampNeg (v4 + 2))) (xs (Int32.toNatClampNeg (v4 + 3)))  x295 _ _ 0 0 (Nat.le_refl _) h))
        obtain ⟨r299, x300, rfl, rfl, h⟩ := hr
        replace h := law_leaf h
        refine EL_icmp_eq (tgt := 2539) (pc2 := 1916) rfl dL_law_1913 (by decide) (fun q => ?_) (fun q => ?_)
        · replace h := h.1 q
          refine EL_iinc (v4 + 6) (pc2 := 2542) rfl dL_law_2539 (by decide) 3 rfl rfl (by decide) [1, 2, 3, 0] [(1, .ref 0), (2, .ref 246), (3, .ref 337), (4, .int (v4 + 6))] rfl ?_
          refine EL_goto (tgt := 23) dL_law_2542 (by decide) ?_
          exact hL23 (v4 + 6) x300 h bu (by omega)
        · replace h := h.2 q
          refine EL_iconst (pc2 := 1917) (v := 0) rfl dL_law_1916 (by decide) ?_
          exact False.elim h
      | 39, _, qk =>
        replace h := h.2.2.2.2.2.2.2.2.2.2.2.2.2.2.2.2.2.2.2.2.2.2.2.2.2.2.2.2.2.2.2.2.2.2.2.2.2.2.2.2.1 qk
        refine EL_tabIn (off := 1878) (tgt := 1918) dL_law_40 (by rw [qk]; decide) (by rw [qk]; decide) (by rw [qk]; decide) (by decide) ?_
        refine EL_aload_n (pc2 := 1919) rfl dL_law_1918 0 rfl ?_
        refine EL_invV (M' := MX11_failing) [] (rest := []) mlRL_193.1 mlRL_193.2.1 mlRL_193.2.2 q0.1 q0.2 (by decide) rfl (pc2 := 1922) rfl okX11_failing dL_law_1919 rfl rfl (Nat.le_of_ble_eq_true rfl) (Nat.le_of_ble_eq_true rfl) (d' := 4) (by decide) (b1 := 0) (Nat.zero_add _) (Or.inl rfl) (EW_mono (fun _ _ hr => ?_) (sX11_failing   x _ _ 0 0 (Nat.le_refl _) h))
        obtain ⟨r301, x302, rfl, rfl, h⟩ := hr
        refine EL_aload_n (pc2 := 1923) rfl dL_law_1922 1 rfl ?_
        refine EL_invV (M' := MX12_failing) [] (rest := [.int r301]) mlRL_196.1 mlRL_196.2.1 mlRL_196.2.2 q246.1 q246.2 (by decide) rfl (pc2 := 1926) rfl okX12_failing dL_law_1923 rfl rfl (Nat.le_of_ble_eq_true rfl) (Nat.le_of_ble_eq_true rfl) (d' := 211) (by decide) (b1 := 0) (Nat.zero_add _) (Or.inl rfl) (EW_mono (fun _ _ hr => ?_) (sX12_failing   x302 _ _ 0 0 (Nat.le_refl _) h))
        obtain ⟨r303, x304, rfl, rfl, h⟩ := hr
        replace h := law_leaf h
        refine EL_icmp_eq (tgt := 2539) (pc2 := 1929) rfl dL_law_1926 (by decide) (fun q => ?_) (fun q => ?_)
        · replace h := h.1 q
          refine EL_iinc (v4 + 6) (pc2 := 2542) rfl dL_law_2539 (by decide) 3 rfl rfl (by decide) [1, 2, 3, 0] [(1, .ref 0), (2, .ref 246), (3, .ref 337), (4, .int (v4 + 6))] rfl ?_
          refine EL_goto (tgt := 23) dL_law_2542 (by decide) ?_
          exact hL23 (v4 + 6) x304 h bu (by omega)
        · replace h := h.2 q
          refine EL_iconst (pc2 := 1930) (v := 0) rfl dL_law_1929 (by decide) ?_
          exact False.elim h
      | 40, _, qk =>
        replace h := h.2.2.2.2.2.2.2.2.2.2.2.2.2.2.2.2.2.2.2.2.2.2.2.2.2.2.2.2.2.2.2.2.2.2.2.2.2.2.2.2.2.1 qk
        refine EL_tabIn (off := 1891) (tgt := 1931) dL_law_40 (by rw [qk]; decide) (by rw [qk]; decide) (by rw [qk]; decide) (by decide) ?_
        refine EL_aload_n (pc2 := 1932) rfl dL_law_1931 0 rfl ?_
        obtain ⟨b305, h⟩ := h
        refine EL_scrk (v := 1) (pc2 := 1938) rfl dL_law_1932 dL_law_1933 dL_law_1935 dL_law_1936 dL_law_1937 (by decide) 3 rfl b305 ?_
        obtain ⟨b306, h⟩ := h
        refine EL_scrk (v := 2) (pc2 := 1944) rfl dL_law_1938 dL_law_1939 dL_law_1941 dL_law_1942 dL_law_1943 (by decide) 3 rfl b306 ?_
        obtain ⟨b307, h⟩ := h
        refine EL_scrk (v := 3) (pc2 := 1950) rfl dL_law_1944 dL_law_1945 dL_law_1947 dL_law_1948 dL_law_1949 (by decide) 3 rfl b307 ?_
        refine EL_invV (M' := MX11_round) [.int (xs (Int32.toNatClampNeg (v4 + 1))), .int (xs (Int32.toNatClampNeg (v4 + 2))), .int (xs (Int32.toNatClampNeg (v4 + 3)))] (rest := []) mlRL_197.1 mlRL_197.2.1 mlRL_197.2.2 q0.1 q0.2 (by decide) rfl (pc2 := 1953) rfl okX11_round dL_law_1950 rfl rfl (Nat.le_of_ble_eq_true rfl) (Nat.le_of_ble_eq_true rfl) (d' := 6) (by decide) (b1 := 0) (Nat.zero_add _) (Or.inl rfl) (EW_mono (fun _ _ hr => ?_) (sX11_round (xs (Int32.toNatClampNeg (v4 + 1))) (xs (Int32.toNatClampNeg (v4 + 2))) (xs (Int32.toNatClampNeg (v4 + 3)))  x _ _ 0 0 (Nat.le_refl _) h))
        obtain ⟨r308, x309, rfl, rfl, h⟩ := hr
        replace h := And.intro b305 (And.intro b306 (And.intro b307 h))
        refine EL_aload_n (pc2 := 1954) rfl dL_law_1953 1 rfl ?_
        obtain ⟨b310, h⟩ := h
        refine EL_scrk (v := 1) (pc2 := 1960) rfl dL_law_1954 dL_law_1955 dL_law_1957 dL_law_1958 dL_law_1959 (by decide) 3 rfl b310 ?_
        obtain ⟨b311, h⟩ := h
        refine EL_scrk (v := 2) (pc2 := 1966) rfl dL_law_1960 dL_law_1961 dL_law_1963 dL_law_1964 dL_law_1965 (by decide) 3 rfl b311 ?_
        obtain ⟨b312, h⟩ := h
        refine EL_scrk (v := 3) (pc2 := 1972) rfl dL_law_1966 dL_law_1967 dL_law_1969 dL_law_1970 dL_law_1971 (by decide) 3 rfl b312 ?_
        refine EL_invV (M' := MX12_round) [.int (xs (Int32.toNatClampNeg (v4 + 1))), .int (xs (Int32.toNatClampNeg (v4 + 2))), .int (xs (Int32.toNatClampNeg (v4 + 3)))] (rest := [.int r308]) mlRL_200.1 mlRL_200.2.1 mlRL_200.2.2 q246.1 q246.2 (by decide) rfl (pc2 := 1975) rfl okX12_round dL_law_1972 rfl rfl (Nat.le_of_ble_eq_true rfl) (Nat.le_of_ble_eq_true rfl) (d' := 212) (by decide) (b1 := 0) (Nat.zero_add _) (Or.inl rfl) (EW_mono (fun _ _ hr => ?_) (sX12_round (xs (Int32.toNatClampNeg (v4 + 1))) (xs (Int32.toNatClampNeg (v4 + 2))) (xs (Int32.toNatClampNeg (v4 + 3)))  x309 _ _ 0 0 (Nat.le_refl _) h))
        obtain ⟨r313, x314, rfl, rfl, h⟩ := hr
        replace h := law_leaf h
        refine EL_icmp_eq (tgt := 2539) (pc2 := 1978) rfl dL_law_1975 (by decide) (fun q => ?_) (fun q => ?_)
        · replace h := h.1 q
          refine EL_iinc (v4 + 6) (pc2 := 2542) rfl dL_law_2539 (by decide) 3 rfl rfl (by decide) [1, 2, 3, 0] [(1, .ref 0), (2, .ref 246), (3, .ref 337), (4, .int (v4 + 6))] rfl ?_
          refine EL_goto (tgt := 23) dL_law_2542 (by decide) ?_
          exact hL23 (v4 + 6) x314 h bu (by omega)
        · replace h := h.2 q
          refine EL_iconst (pc2 := 1979) (v := 0) rfl dL_law_1978 (by decide) ?_
          exact False.elim h
      | 41, _, qk =>
        replace h := h.2.2.2.2.2.2.2.2.2.2.2.2.2.2.2.2.2.2.2.2.2.2.2.2.2.2.2.2.2.2.2.2.2.2.2.2.2.2.2.2.2.2.1 qk
        refine EL_tabIn (off := 1940) (tgt := 1980) dL_law_40 (by rw [qk]; decide) (by rw [qk]; decide) (by rw [qk]; decide) (by decide) ?_
        refine EL_aload_n (pc2 := 1981) rfl dL_law_1980 0 rfl ?_
        obtain ⟨b315, h⟩ := h
        refine EL_scrk (v := 1) (pc2 := 1987) rfl dL_law_1981 dL_law_1982 dL_law_1984 dL_law_1985 dL_law_1986 (by decide) 3 rfl b315 ?_
        obtain ⟨b316, h⟩ := h
        refine EL_scrk (v := 2) (pc2 := 1993) rfl dL_law_1987 dL_law_1988 dL_law_1990 dL_law_1991 dL_law_1992 (by decide) 3 rfl b316 ?_
        obtain ⟨b317, h⟩ := h
        refine EL_scrk (v := 3) (pc2 := 1999) rfl dL_law_1993 dL_law_1994 dL_law_1996 dL_law_1997 dL_law_1998 (by decide) 3 rfl b317 ?_
        refine EL_invV (M' := MX11_rounded) [.int (xs (Int32.toNatClampNeg (v4 + 1))), .int (xs (Int32.toNatClampNeg (v4 + 2))), .int (xs (Int32.toNatClampNeg (v4 + 3)))] (rest := []) mlRL_201.1 mlRL_201.2.1 mlRL_201.2.2 q0.1 q0.2 (by decide) rfl (pc2 := 2002) rfl okX11_rounded dL_law_1999 rfl rfl (Nat.le_of_ble_eq_true rfl) (Nat.le_of_ble_eq_true rfl) (d' := 6) (by decide) (b1 := 0) (Nat.zero_add _) (Or.inl rfl) (EW_mono (fun _ _ hr => ?_) (sX11_rounded (xs (Int32.toNatClampNeg (v4 + 1))) (xs (Int32.toNatClampNeg (v4 + 2))) (xs (Int32.toNatClampNeg (v4 + 3)))  x _ _ 0 0 (Nat.le_refl _) h))
        obtain ⟨r318, x319, rfl, rfl, h⟩ := hr
        replace h := And.intro b315 (And.intro b316 (And.intro b317 h))
        refine EL_aload_n (pc2 := 2003) rfl dL_law_2002 1 rfl ?_
        obtain ⟨b320, h⟩ := h
        refine EL_scrk (v := 1) (pc2 := 2009) rfl dL_law_2003 dL_law_2004 dL_law_2006 dL_law_2007 dL_law_2008 (by decide) 3 rfl b320 ?_
        obtain ⟨b321, h⟩ := h
        refine EL_scrk (v := 2) (pc2 := 2015) rfl dL_law_2009 dL_law_2010 dL_law_2012 dL_law_2013 dL_law_2014 (by decide) 3 rfl b321 ?_
        obtain ⟨b322, h⟩ := h
        refine EL_scrk (v := 3) (pc2 := 2021) rfl dL_law_2015 dL_law_2016 dL_law_2018 dL_law_2019 dL_law_2020 (by decide) 3 rfl b322 ?_
        refine EL_invV (M' := MX12_rounded) [.int (xs (Int32.toNatClampNeg (v4 + 1))), .int (xs (Int32.toNatClampNeg (v4 + 2))), .int (xs (Int32.toNatClampNeg (v4 + 3)))] (rest := [.int r318]) mlRL_204.1 mlRL_204.2.1 mlRL_204.2.2 q246.1 q246.2 (by decide) rfl (pc2 := 2024) rfl okX12_rounded dL_law_2021 rfl rfl (Nat.le_of_ble_eq_true rfl) (Nat.le_of_ble_eq_true rfl) (d' := 212) (by decide) (b1 := 0) (Nat.zero_add _) (Or.inl rfl) (EW_mono (fun _ _ hr => ?_) (sX12_rounded (xs (Int32.toNatClampNeg (v4 + 1))) (xs (Int32.toNatClampNeg (v4 + 2))) (xs (Int32.toNatClampNeg (v4 + 3)))  x319 _ _ 0 0 (Nat.le_refl _) h))
        obtain ⟨r323, x324, rfl, rfl, h⟩ := hr
        replace h := law_leaf h
        refine EL_icmp_eq (tgt := 2539) (pc2 := 2027) rfl dL_law_2024 (by decide) (fun q => ?_) (fun q => ?_)
        · replace h := h.1 q
          refine EL_iinc (v4 + 6) (pc2 := 2542) rfl dL_law_2539 (by decide) 3 rfl rfl (by decide) [1, 2, 3, 0] [(1, .ref 0), (2, .ref 246), (3, .ref 337), (4, .int (v4 + 6))] rfl ?_
          refine EL_goto (tgt := 23) dL_law_2542 (by decide) ?_
          exact hL23 (v4 + 6) x324 h bu (by omega)
        · replace h := h.2 q
          refine EL_iconst (pc2 := 2028) (v := 0) rfl dL_law_2027 (by decide) ?_
          exact False.elim h
      | 42, _, qk =>
        replace h := h.2.2.2.2.2.2.2.2.2.2.2.2.2.2.2.2.2.2.2.2.2.2.2.2.2.2.2.2.2.2.2.2.2.2.2.2.2.2.2.2.2.2.2.1 qk
        refine EL_tabIn (off := 1989) (tgt := 2029) dL_law_40 (by rw [qk]; decide) (by rw [qk]; decide) (by rw [qk]; decide) (by decide) ?_
        refine EL_aload_n (pc2 := 2030) rfl dL_law_2029 0 rfl ?_
        obtain ⟨b325, h⟩ := h
        refine EL_scrk (v := 1) (pc2 := 2036) rfl dL_law_2030 dL_law_2031 dL_law_2033 dL_law_2034 dL_law_2035 (by decide) 3 rfl b325 ?_
        obtain ⟨b326, h⟩ := h
        refine EL_scrk (v := 2) (pc2 := 2042) rfl dL_law_2036 dL_law_2037 dL_law_2039 dL_law_2040 dL_law_2041 (by decide) 3 rfl b326 ?_
        refine EL_invV (M' := MX11_plan) [.int (xs (Int32.toNatClampNeg (v4 + 1))), .int (xs (Int32.toNatClampNeg (v4 + 2)))] (rest := []) mlRL_205.1 mlRL_205.2.1 mlRL_205.2.2 q0.1 q0.2 (by decide) rfl (pc2 := 2045) rfl okX11_plan dL_law_2042 rfl rfl (Nat.le_of_ble_eq_true rfl) (Nat.le_of_ble_eq_true rfl) (d' := 106) (by decide) (b1 := 0) (Nat.zero_add _) (Or.inl rfl) (EW_mono (fun _ _ hr => ?_) (sX11_plan (xs (Int32.toNatClampNeg (v4 + 1))) (xs (Int32.toNatClampNeg (v4 + 2)))  x _ _ 0 0 (Nat.le_refl _) h))
        obtain ⟨r327, x328, rfl, rfl, h⟩ := hr
        replace h := And.intro b325 (And.intro b326 h)
        refine EL_aload_n (pc2 := 2046) rfl dL_law_2045 1 rfl ?_
        obtain ⟨b329, h⟩ := h
        refine EL_scrk (v := 1) (pc2 := 2052) rfl dL_law_2046 dL_law_2047 dL_law_2049 dL_law_2050 dL_law_2051 (by decide) 3 rfl b329 ?_
        obtain ⟨b330, h⟩ := h
        refine EL_scrk (v := 2) (pc2 := 2058) rfl dL_law_2052 dL_law_2053 dL_law_2055 dL_law_2056 dL_law_2057 (by decide) 3 rfl b330 ?_
        refine EL_invV (M' := MX12_plan) [.int (xs (Int32.toNatClampNeg (v4 + 1))), .int (xs (Int32.toNatClampNeg (v4 + 2)))] (rest := [.int r327]) mlRL_208.1 mlRL_208.2.1 mlRL_208.2.2 q246.1 q246.2 (by decide) rfl (pc2 := 2061) rfl okX12_plan dL_law_2058 rfl rfl (Nat.le_of_ble_eq_true rfl) (Nat.le_of_ble_eq_true rfl) (d' := 105) (by decide) (b1 := 0) (Nat.zero_add _) (Or.inl rfl) (EW_mono (fun _ _ hr => ?_) (sX12_plan (xs (Int32.toNatClampNeg (v4 + 1))) (xs (Int32.toNatClampNeg (v4 + 2)))  x328 _ _ 0 0 (Nat.le_refl _) h))
        obtain ⟨r331, x332, rfl, rfl, h⟩ := hr
        replace h := law_leaf h
        refine EL_icmp_eq (tgt := 2539) (pc2 := 2064) rfl dL_law_2061 (by decide) (fun q => ?_) (fun q => ?_)
        · replace h := h.1 q
          refine EL_iinc (v4 + 6) (pc2 := 2542) rfl dL_law_2539 (by decide) 3 rfl rfl (by decide) [1, 2, 3, 0] [(1, .ref 0), (2, .ref 246), (3, .ref 337), (4, .int (v4 + 6))] rfl ?_
          refine EL_goto (tgt := 23) dL_law_2542 (by decide) ?_
          exact hL23 (v4 + 6) x332 h bu (by omega)
        · replace h := h.2 q
          refine EL_iconst (pc2 := 2065) (v := 0) rfl dL_law_2064 (by decide) ?_
          exact False.elim h
      | 43, _, qk =>
        replace h := h.2.2.2.2.2.2.2.2.2.2.2.2.2.2.2.2.2.2.2.2.2.2.2.2.2.2.2.2.2.2.2.2.2.2.2.2.2.2.2.2.2.2.2.2.1 qk
        refine EL_tabIn (off := 2026) (tgt := 2066) dL_law_40 (by rw [qk]; decide) (by rw [qk]; decide) (by rw [qk]; decide) (by decide) ?_
        refine EL_aload_n (pc2 := 2067) rfl dL_law_2066 0 rfl ?_
        obtain ⟨b333, h⟩ := h
        refine EL_scrk (v := 1) (pc2 := 2073) rfl dL_law_2067 dL_law_2068 dL_law_2070 dL_law_2071 dL_law_2072 (by decide) 3 rfl b333 ?_
        obtain ⟨b334, h⟩ := h
        refine EL_scrk (v := 2) (pc2 := 2079) rfl dL_law_2073 dL_law_2074 dL_law_2076 dL_law_2077 dL_law_2078 (by decide) 3 rfl b334 ?_
        obtain ⟨b335, h⟩ := h
        refine EL_scrk (v := 3) (pc2 := 2085) rfl dL_law_2079 dL_law_2080 dL_law_2082 dL_law_2083 dL_law_2084 (by decide) 3 rfl b335 ?_
        refine EL_invV (M' := MX11_planned) [.int (xs (Int32.toNatClampNeg (v4 + 1))), .int (xs (Int32.toNatClampNeg (v4 + 2))), .int (xs (Int32.toNatClampNeg (v4 + 3)))] (rest := []) mlRL_209.1 mlRL_209.2.1 mlRL_209.2.2 q0.1 q0.2 (by decide) rfl (pc2 := 2088) rfl okX11_planned dL_law_2085 rfl rfl (Nat.le_of_ble_eq_true rfl) (Nat.le_of_ble_eq_true rfl) (d' := 106) (by decide) (b1 := 0) (Nat.zero_add _) (Or.inl rfl) (EW_mono (fun _ _ hr => ?_) (sX11_planned (xs (Int32.toNatClampNeg (v4 + 1))) (xs (Int32.toNatClampNeg (v4 + 2))) (xs (Int32.toNatClampNeg (v4 + 3)))  x _ _ 0 0 (Nat.le_refl _) h))
        obtain ⟨r336, x337, rfl, rfl, h⟩ := hr
        replace h := And.intro b333 (And.intro b334 (And.intro b335 h))
        refine EL_aload_n (pc2 := 2089) rfl dL_law_2088 1 rfl ?_
        obtain ⟨b338, h⟩ := h
        refine EL_scrk (v := 1) (pc2 := 2095) rfl dL_law_2089 dL_law_2090 dL_law_2092 dL_law_2093 dL_law_2094 (by decide) 3 rfl b338 ?_
        obtain ⟨b339, h⟩ := h
        refine EL_scrk (v := 2) (pc2 := 2101) rfl dL_law_2095 dL_law_2096 dL_law_2098 dL_law_2099 dL_law_2100 (by decide) 3 rfl b339 ?_
        obtain ⟨b340, h⟩ := h
        refine EL_scrk (v := 3) (pc2 := 2107) rfl dL_law_2101 dL_law_2102 dL_law_2104 dL_law_2105 dL_law_2106 (by decide) 3 rfl b340 ?_
        refine EL_invV (M' := MX12_planned) [.int (xs (Int32.toNatClampNeg (v4 + 1))), .int (xs (Int32.toNatClampNeg (v4 + 2))), .int (xs (Int32.toNatClampNeg (v4 + 3)))] (rest := [.int r336]) mlRL_212.1 mlRL_212.2.1 mlRL_212.2.2 q246.1 q246.2 (by decide) rfl (pc2 := 2110) rfl okX12_planned dL_law_2107 rfl rfl (Nat.le_of_ble_eq_true rfl) (Nat.le_of_ble_eq_true rfl) (d' := 105) (by decide) (b1 := 0) (Nat.zero_add _) (Or.inl rfl) (EW_mono (fun _ _ hr => ?_) (sX12_planned (xs (Int32.toNatClampNeg (v4 + 1))) (xs (Int32.toNatClampNeg (v4 + 2))) (xs (Int32.toNatClampNeg (v4 + 3)))  x337 _ _ 0 0 (Nat.le_refl _) h))
        obtain ⟨r341, x342, rfl, rfl, h⟩ := hr
        replace h := law_leaf h
        refine EL_icmp_eq (tgt := 2539) (pc2 := 2113) rfl dL_law_2110 (by decide) (fun q => ?_) (fun q => ?_)
        · replace h := h.1 q
          refine EL_iinc (v4 + 6) (pc2 := 2542) rfl dL_law_2539 (by decide) 3 rfl rfl (by decide) [1, 2, 3, 0] [(1, .ref 0), (2, .ref 246), (3, .ref 337), (4, .int (v4 + 6))] rfl ?_
          refine EL_goto (tgt := 23) dL_law_2542 (by decide) ?_
          exact hL23 (v4 + 6) x342 h bu (by omega)
        · replace h := h.2 q
          refine EL_iconst (pc2 := 2114) (v := 0) rfl dL_law_2113 (by decide) ?_
          exact False.elim h
      | 44, _, qk =>
        replace h := h.2.2.2.2.2.2.2.2.2.2.2.2.2.2.2.2.2.2.2.2.2.2.2.2.2.2.2.2.2.2.2.2.2.2.2.2.2.2.2.2.2.2.2.2.2.1 qk
        refine EL_tabIn (off := 2075) (tgt := 2115) dL_law_40 (by rw [qk]; decide) (by rw [qk]; decide) (by rw [qk]; decide) (by decide) ?_
        refine EL_aload_n (pc2 := 2116) rfl dL_law_2115 0 rfl ?_
        obtain ⟨b343, h⟩ := h
        refine EL_scrk (v := 1) (pc2 := 2122) rfl dL_law_2116 dL_law_2117 dL_law_2119 dL_law_2120 dL_law_2121 (by decide) 3 rfl b343 ?_
        refine EL_invV (M' := MX11_row) [.int (xs (Int32.toNatClampNeg (v4 + 1)))] (rest := []) mlRL_213.1 mlRL_213.2.1 mlRL_213.2.2 q0.1 q0.2 (by decide) rfl (pc2 := 2125) rfl okX11_row dL_law_2122 rfl rfl (Nat.le_of_ble_eq_true rfl) (Nat.le_of_ble_eq_true rfl) (d' := 1) (by decide) (b1 := 0) (Nat.zero_add _) (Or.inl rfl) (EW_mono (fun _ _ hr => ?_) (sX11_row (xs (Int32.toNatClampNeg (v4 + 1)))  x _ _ 0 0 (Nat.le_refl _) h))
        obtain ⟨r344, x345, rfl, rfl, h⟩ := hr
        replace h := And.intro b343 h
        refine EL_aload_n (pc2 := 2126) rfl dL_law_2125 1 rfl ?_
        obtain ⟨b346, h⟩ := h
        refine EL_scrk (v := 1) (pc2 := 2132) rfl dL_law_2126 dL_law_2127 dL_law_2129 dL_law_2130 dL_law_2131 (by decide) 3 rfl b346 ?_
        refine EL_invV (M' := MX12_row) [.int (xs (Int32.toNatClampNeg (v4 + 1)))] (rest := [.int r344]) mlRL_216.1 mlRL_216.2.1 mlRL_216.2.2 q246.1 q246.2 (by decide) rfl (pc2 := 2135) rfl okX12_row dL_law_2132 rfl rfl (Nat.le_of_ble_eq_true rfl) (Nat.le_of_ble_eq_true rfl) (d' := 1) (by decide) (b1 := 0) (Nat.zero_add _) (Or.inl rfl) (EW_mono (fun _ _ hr => ?_) (sX12_row (xs (Int32.toNatClampNeg (v4 + 1)))  x345 _ _ 0 0 (Nat.le_refl _) h))
        obtain ⟨r347, x348, rfl, rfl, h⟩ := hr
        replace h := law_leaf h
        refine EL_icmp_eq (tgt := 2539) (pc2 := 2138) rfl dL_law_2135 (by decide) (fun q => ?_) (fun q => ?_)
        · replace h := h.1 q
          refine EL_iinc (v4 + 6) (pc2 := 2542) rfl dL_law_2539 (by decide) 3 rfl rfl (by decide) [1, 2, 3, 0] [(1, .ref 0), (2, .ref 246), (3, .ref 337), (4, .int (v4 + 6))] rfl ?_
          refine EL_goto (tgt := 23) dL_law_2542 (by decide) ?_
          exact hL23 (v4 + 6) x348 h bu (by omega)
        · replace h := h.2 q
          refine EL_iconst (pc2 := 2139) (v := 0) rfl dL_law_2138 (by decide) ?_
          exact False.elim h
      | 45, _, qk =>
        replace h := h.2.2.2.2.2.2.2.2.2.2.2.2.2.2.2.2.2.2.2.2.2.2.2.2.2.2.2.2.2.2.2.2.2.2.2.2.2.2.2.2.2.2.2.2.2.2.1 qk
        refine EL_tabIn (off := 2100) (tgt := 2140) dL_law_40 (by rw [qk]; decide) (by rw [qk]; decide) (by rw [qk]; decide) (by decide) ?_
        refine EL_aload_n (pc2 := 2141) rfl dL_law_2140 0 rfl ?_
        obtain ⟨b349, h⟩ := h
        refine EL_scrk (v := 1) (pc2 := 2147) rfl dL_law_2141 dL_law_2142 dL_law_2144 dL_law_2145 dL_law_2146 (by decide) 3 rfl b349 ?_
        obtain ⟨b350, h⟩ := h
        refine EL_scrk (v := 2) (pc2 := 2153) rfl dL_law_2147 dL_law_2148 dL_law_2150 dL_law_2151 dL_law_2152 (by decide) 3 rfl b350 ?_
        obtain ⟨b351, h⟩ := h
        refine EL_scrk (v := 3) (pc2 := 2159) rfl dL_law_2153 dL_law_2154 dL_law_2156 dL_law_2157 dL_law_2158 (by decide) 3 rfl b351 ?_
        refine EL_invV (M' := MX11_put) [.int (xs (Int32.toNatClampNeg (v4 + 1))), .int (xs (Int32.toNatClampNeg (v4 + 2))), .int (xs (Int32.toNatClampNeg (v4 + 3)))] (rest := []) mlRL_217.1 mlRL_217.2.1 mlRL_217.2.2 q0.1 q0.2 (by decide) rfl (pc2 := 2162) rfl okX11_put dL_law_2159 rfl rfl (Nat.le_of_ble_eq_true rfl) (Nat.le_of_ble_eq_true rfl) (d' := 2) (by decide) (b1 := 0) (Nat.zero_add _) (Or.inl rfl) (EW_mono (fun _ _ hr => ?_) (sX11_put (xs (Int32.toNatClampNeg (v4 + 1))) (xs (Int32.toNatClampNeg (v4 + 2))) (xs (Int32.toNatClampNeg (v4 + 3)))  x _ _ 0 0 (Nat.le_refl _) h))
        obtain ⟨r352, x353, rfl, rfl, h⟩ := hr
        replace h := And.intro b349 (And.intro b350 (And.intro b351 h))
        refine EL_aload_n (pc2 := 2163) rfl dL_law_2162 1 rfl ?_
        obtain ⟨b354, h⟩ := h
        refine EL_scrk (v := 1) (pc2 := 2169) rfl dL_law_2163 dL_law_2164 dL_law_2166 dL_law_2167 dL_law_2168 (by decide) 3 rfl b354 ?_
        obtain ⟨b355, h⟩ := h
        refine EL_scrk (v := 2) (pc2 := 2175) rfl dL_law_2169 dL_law_2170 dL_law_2172 dL_law_2173 dL_law_2174 (by decide) 3 rfl b355 ?_
        obtain ⟨b356, h⟩ := h
        refine EL_scrk (v := 3) (pc2 := 2181) rfl dL_law_2175 dL_law_2176 dL_law_2178 dL_law_2179 dL_law_2180 (by decide) 3 rfl b356 ?_
        refine EL_invV (M' := MX12_put) [.int (xs (Int32.toNatClampNeg (v4 + 1))), .int (xs (Int32.toNatClampNeg (v4 + 2))), .int (xs (Int32.toNatClampNeg (v4 + 3)))] (rest := [.int r352]) mlRL_220.1 mlRL_220.2.1 mlRL_220.2.2 q246.1 q246.2 (by decide) rfl (pc2 := 2184) rfl okX12_put dL_law_2181 rfl rfl (Nat.le_of_ble_eq_true rfl) (Nat.le_of_ble_eq_true rfl) (d' := 1) (by decide) (b1 := 0) (Nat.zero_add _) (Or.inl rfl) (EW_mono (fun _ _ hr => ?_) (sX12_put (xs (Int32.toNatClampNeg (v4 + 1))) (xs (Int32.toNatClampNeg (v4 + 2))) (xs (Int32.toNatClampNeg (v4 + 3)))  x353 _ _ 0 0 (Nat.le_refl _) h))
        obtain ⟨r357, x358, rfl, rfl, h⟩ := hr
        replace h := law_leaf h
        refine EL_icmp_eq (tgt := 2539) (pc2 := 2187) rfl dL_law_2184 (by decide) (fun q => ?_) (fun q => ?_)
        · replace h := h.1 q
          refine EL_iinc (v4 + 6) (pc2 := 2542) rfl dL_law_2539 (by decide) 3 rfl rfl (by decide) [1, 2, 3, 0] [(1, .ref 0), (2, .ref 246), (3, .ref 337), (4, .int (v4 + 6))] rfl ?_
          refine EL_goto (tgt := 23) dL_law_2542 (by decide) ?_
          exact hL23 (v4 + 6) x358 h bu (by omega)
        · replace h := h.2 q
          refine EL_iconst (pc2 := 2188) (v := 0) rfl dL_law_2187 (by decide) ?_
          exact False.elim h
      | 46, _, qk =>
        replace h := h.2.2.2.2.2.2.2.2.2.2.2.2.2.2.2.2.2.2.2.2.2.2.2.2.2.2.2.2.2.2.2.2.2.2.2.2.2.2.2.2.2.2.2.2.2.2.2.1 qk
        refine EL_tabIn (off := 2149) (tgt := 2189) dL_law_40 (by rw [qk]; decide) (by rw [qk]; decide) (by rw [qk]; decide) (by decide) ?_
        refine EL_aload_n (pc2 := 2190) rfl dL_law_2189 0 rfl ?_
        obtain ⟨b359, h⟩ := h
        refine EL_scrk (v := 1) (pc2 := 2196) rfl dL_law_2190 dL_law_2191 dL_law_2193 dL_law_2194 dL_law_2195 (by decide) 3 rfl b359 ?_
        refine EL_invV (M' := MX11_lose) [.int (xs (Int32.toNatClampNeg (v4 + 1)))] (rest := []) mlRL_221.1 mlRL_221.2.1 mlRL_221.2.2 q0.1 q0.2 (by decide) rfl (pc2 := 2199) rfl okX11_lose dL_law_2196 rfl rfl (Nat.le_of_ble_eq_true rfl) (Nat.le_of_ble_eq_true rfl) (d' := 2) (by decide) (b1 := 0) (Nat.zero_add _) (Or.inl rfl) (EW_mono (fun _ _ hr => ?_) (sX11_lose (xs (Int32.toNatClampNeg (v4 + 1)))  x _ _ 0 0 (Nat.le_refl _) h))
        obtain ⟨r360, x361, rfl, rfl, h⟩ := hr
        replace h := And.intro b359 h
        refine EL_aload_n (pc2 := 2200) rfl dL_law_2199 1 rfl ?_
        obtain ⟨b362, h⟩ := h
        refine EL_scrk (v := 1) (pc2 := 2206) rfl dL_law_2200 dL_law_2201 dL_law_2203 dL_law_2204 dL_law_2205 (by decide) 3 rfl b362 ?_
        refine EL_invV (M' := MX12_lose) [.int (xs (Int32.toNatClampNeg (v4 + 1)))] (rest := [.int r360]) mlRL_224.1 mlRL_224.2.1 mlRL_224.2.2 q246.1 q246.2 (by decide) rfl (pc2 := 2209) rfl okX12_lose dL_law_2206 rfl rfl (Nat.le_of_ble_eq_true rfl) (Nat.le_of_ble_eq_true rfl) (d' := 1) (by decide) (b1 := 0) (Nat.zero_add _) (Or.inl rfl) (EW_mono (fun _ _ hr => ?_) (sX12_lose (xs (Int32.toNatClampNeg (v4 + 1)))  x361 _ _ 0 0 (Nat.le_refl _) h))
        obtain ⟨r363, x364, rfl, rfl, h⟩ := hr
        replace h := law_leaf h
        refine EL_icmp_eq (tgt := 2539) (pc2 := 2212) rfl dL_law_2209 (by decide) (fun q => ?_) (fun q => ?_)
        · replace h := h.1 q
          refine EL_iinc (v4 + 6) (pc2 := 2542) rfl dL_law_2539 (by decide) 3 rfl rfl (by decide) [1, 2, 3, 0] [(1, .ref 0), (2, .ref 246), (3, .ref 337), (4, .int (v4 + 6))] rfl ?_
          refine EL_goto (tgt := 23) dL_law_2542 (by decide) ?_
          exact hL23 (v4 + 6) x364 h bu (by omega)
        · replace h := h.2 q
          refine EL_iconst (pc2 := 2213) (v := 0) rfl dL_law_2212 (by decide) ?_
          exact False.elim h
      | 47, _, qk =>
        replace h := h.2.2.2.2.2.2.2.2.2.2.2.2.2.2.2.2.2.2.2.2.2.2.2.2.2.2.2.2.2.2.2.2.2.2.2.2.2.2.2.2.2.2.2.2.2.2.2.2.1 qk
        refine EL_tabIn (off := 2174) (tgt := 2214) dL_law_40 (by rw [qk]; decide) (by rw [qk]; decide) (by rw [qk]; decide) (by decide) ?_
        refine EL_aload_n (pc2 := 2215) rfl dL_law_2214 0 rfl ?_
        obtain ⟨b365, h⟩ := h
        refine EL_scrk (v := 1) (pc2 := 2221) rfl dL_law_2215 dL_law_2216 dL_law_2218 dL_law_2219 dL_law_2220 (by decide) 3 rfl b365 ?_
        obtain ⟨b366, h⟩ := h
        refine EL_scrk (v := 2) (pc2 := 2227) rfl dL_law_2221 dL_law_2222 dL_law_2224 dL_law_2225 dL_law_2226 (by decide) 3 rfl b366 ?_
        obtain ⟨b367, h⟩ := h
        refine EL_scrk (v := 3) (pc2 := 2233) rfl dL_law_2227 dL_law_2228 dL_law_2230 dL_law_2231 dL_law_2232 (by decide) 3 rfl b367 ?_
        obtain ⟨b368, h⟩ := h
        refine EL_scrk (v := 4) (pc2 := 2239) rfl dL_law_2233 dL_law_2234 dL_law_2236 dL_law_2237 dL_law_2238 (by decide) 3 rfl b368 ?_
        obtain ⟨b369, h⟩ := h
        refine EL_scrk (v := 5) (pc2 := 2245) rfl dL_law_2239 dL_law_2240 dL_law_2242 dL_law_2243 dL_law_2244 (by decide) 3 rfl b369 ?_
        refine EL_invV (M' := MX11_copy) [.int (xs (Int32.toNatClampNeg (v4 + 1))), .int (xs (Int32.toNatClampNeg (v4 + 2))), .int (xs (Int32.toNatClampNeg (v4 + 3))), .int (xs (Int32.toNatClampNeg (v4 + 4))), .int (xs (Int32.toNatClampNeg (v4 + 5)))] (rest := []) mlRL_225.1 mlRL_225.2.1 mlRL_225.2.2 q0.1 q0.2 (by decide) rfl (pc2 := 2248) rfl okX11_copy dL_law_2245 rfl rfl (Nat.le_of_ble_eq_true rfl) (Nat.le_of_ble_eq_true rfl) (d' := 1) (by decide) (b1 := 0) (Nat.zero_add _) (Or.inl rfl) (EW_mono (fun _ _ hr => ?_) (sX11_copy (xs (Int32.toNatClampNeg (v4 + 1))) (xs (Int32.toNatClampNeg (v4 + 2))) (xs (Int32.toNatClampNeg (v4 + 3))) (xs (Int32.toNatClampNeg (v4 + 4))) (xs (Int32.toNatClampNeg (v4 + 5)))  x _ _ 0 0 (Nat.le_refl _) h))
        obtain ⟨r370, x371, rfl, rfl, h⟩ := hr
        replace h := And.intro b365 (And.intro b366 (And.intro b367 (And.intro b368 (And.intro b369 h))))
        refine EL_aload_n (pc2 := 2249) rfl dL_law_2248 1 rfl ?_
        obtain ⟨b372, h⟩ := h
        refine EL_scrk (v := 1) (pc2 := 2255) rfl dL_law_2249 dL_law_2250 dL_law_2252 dL_law_2253 dL_law_2254 (by decide) 3 rfl b372 ?_
        obtain ⟨b373, h⟩ := h
        refine EL_scrk (v := 2) (pc2 := 2261) rfl dL_law_2255 dL_law_2256 dL_law_2258 dL_law_2259 dL_law_2260 (by decide) 3 rfl b373 ?_
        obtain ⟨b374, h⟩ := h
        refine EL_scrk (v := 3) (pc2 := 2267) rfl dL_law_2261 dL_law_2262 dL_law_2264 dL_law_2265 dL_law_2266 (by decide) 3 rfl b374 ?_
        obtain ⟨b375, h⟩ := h
        refine EL_scrk (v := 4) (pc2 := 2273) rfl dL_law_2267 dL_law_2268 dL_law_2270 dL_law_2271 dL_law_2272 (by decide) 3 rfl b375 ?_
        obtain ⟨b376, h⟩ := h
        refine EL_scrk (v := 5) (pc2 := 2279) rfl dL_law_2273 dL_law_2274 dL_law_2276 dL_law_2277 dL_law_2278 (by decide) 3 rfl b376 ?_
        refine EL_invV (M' := MX12_copy) [.int (xs (Int32.toNatClampNeg (v4 + 1))), .int (xs (Int32.toNatClampNeg (v4 + 2))), .int (xs (Int32.toNatClampNeg (v4 + 3))), .int (xs (Int32.toNatClampNeg (v4 + 4))), .int (xs (Int32.toNatClampNeg (v4 + 5)))] (rest := [.int r370]) mlRL_228.1 mlRL_228.2.1 mlRL_228.2.2 q246.1 q246.2 (by decide) rfl (pc2 := 2282) rfl okX12_copy dL_law_2279 rfl rfl (Nat.le_of_ble_eq_true rfl) (Nat.le_of_ble_eq_true rfl) (d' := 1) (by decide) (b1 := 0) (Nat.zero_add _) (Or.inl rfl) (EW_mono (fun _ _ hr => ?_) (sX12_copy (xs (Int32.toNatClampNeg (v4 + 1))) (xs (Int32.toNatClampNeg (v4 + 2))) (xs (Int32.toNatClampNeg (v4 + 3))) (xs (Int32.toNatClampNeg (v4 + 4))) (xs (Int32.toNatClampNeg (v4 + 5)))  x371 _ _ 0 0 (Nat.le_refl _) h))
        obtain ⟨r377, x378, rfl, rfl, h⟩ := hr
        replace h := law_leaf h
        refine EL_icmp_eq (tgt := 2539) (pc2 := 2285) rfl dL_law_2282 (by decide) (fun q => ?_) (fun q => ?_)
        · replace h := h.1 q
          refine EL_iinc (v4 + 6) (pc2 := 2542) rfl dL_law_2539 (by decide) 3 rfl rfl (by decide) [1, 2, 3, 0] [(1, .ref 0), (2, .ref 246), (3, .ref 337), (4, .int (v4 + 6))] rfl ?_
          refine EL_goto (tgt := 23) dL_law_2542 (by decide) ?_
          exact hL23 (v4 + 6) x378 h bu (by omega)
        · replace h := h.2 q
          refine EL_iconst (pc2 := 2286) (v := 0) rfl dL_law_2285 (by decide) ?_
          exact False.elim h
      | 48, _, qk =>
        replace h := h.2.2.2.2.2.2.2.2.2.2.2.2.2.2.2.2.2.2.2.2.2.2.2.2.2.2.2.2.2.2.2.2.2.2.2.2.2.2.2.2.2.2.2.2.2.2.2.2.2.1 qk
        refine EL_tabIn (off := 2247) (tgt := 2287) dL_law_40 (by rw [qk]; decide) (by rw [qk]; decide) (by rw [qk]; decide) (by decide) ?_
        refine EL_aload_n (pc2 := 2288) rfl dL_law_2287 0 rfl ?_
        obtain ⟨b379, h⟩ := h
        refine EL_scrk (v := 1) (pc2 := 2294) rfl dL_law_2288 dL_law_2289 dL_law_2291 dL_law_2292 dL_law_2293 (by decide) 3 rfl b379 ?_
        obtain ⟨b380, h⟩ := h
        refine EL_scrk (v := 2) (pc2 := 2300) rfl dL_law_2294 dL_law_2295 dL_law_2297 dL_law_2298 dL_law_2299 (by decide) 3 rfl b380 ?_
        obtain ⟨b381, h⟩ := h
        refine EL_scrk (v := 3) (pc2 := 2306) rfl dL_law_2300 dL_law_2301 dL_law_2303 dL_law_2304 dL_law_2305 (by decide) 3 rfl b381 ?_
        refine EL_invV (M' := MX11_judge) [.int (xs (Int32.toNatClampNeg (v4 + 1))), .int (xs (Int32.toNatClampNeg (v4 + 2))), .int (xs (Int32.toNatClampNeg (v4 + 3)))] (rest := []) mlRL_229.1 mlRL_229.2.1 mlRL_229.2.2 q0.1 q0.2 (by decide) rfl (pc2 := 2309) rfl okX11_judge dL_law_2306 rfl rfl (Nat.le_of_ble_eq_true rfl) (Nat.le_of_ble_eq_true rfl) (d' := 4) (by decide) (b1 := 0) (Nat.zero_add _) (Or.inl rfl) (EW_mono (fun _ _ hr => ?_) (sX11_judge (xs (Int32.toNatClampNeg (v4 + 1))) (xs (Int32.toNatClampNeg (v4 + 2))) (xs (Int32.toNatClampNeg (v4 + 3)))  x _ _ 0 0 (Nat.le_refl _) h))
        obtain ⟨r382, x383, rfl, rfl, h⟩ := hr
        replace h := And.intro b379 (And.intro b380 (And.intro b381 h))
        refine EL_dstore (pc2 := 2311) rfl dL_law_2309 (by decide) (by decide) [1, 2, 3, 4, 0] [(1, .ref 0), (2, .ref 246), (3, .ref 337), (4, .int v4), (5, .double r382)] rfl ?_
        refine EL_aload_n (pc2 := 2312) rfl dL_law_2311 1 rfl ?_
        obtain ⟨b384, h⟩ := h
        refine EL_scrk (v := 1) (pc2 := 2318) rfl dL_law_2312 dL_law_2313 dL_law_2315 dL_law_2316 dL_law_2317 (by decide) 3 rfl b384 ?_
        obtain ⟨b385, h⟩ := h
        refine EL_scrk (v := 2) (pc2 := 2324) rfl dL_law_2318 dL_law_2319 dL_law_2321 dL_law_2322 dL_law_2323 (by decide) 3 rfl b385 ?_
        obtain ⟨b386, h⟩ := h
        refine EL_scrk (v := 3) (pc2 := 2330) rfl dL_law_2324 dL_law_2325 dL_law_2327 dL_law_2328 dL_law_2329 (by decide) 3 rfl b386 ?_
        refine EL_invV (M' := MX12_judge) [.int (xs (Int32.toNatClampNeg (v4 + 1))), .int (xs (Int32.toNatClampNeg (v4 + 2))), .int (xs (Int32.toNatClampNeg (v4 + 3)))] (rest := []) mlRL_233.1 mlRL_233.2.1 mlRL_233.2.2 q246.1 q246.2 (by decide) rfl (pc2 := 2333) rfl okX12_judge dL_law_2330 rfl rfl (Nat.le_of_ble_eq_true rfl) (Nat.le_of_ble_eq_true rfl) (d' := 3) (by decide) (b1 := 0) (Nat.zero_add _) (Or.inl rfl) (EW_mono (fun _ _ hr => ?_) (sX12_judge (xs (Int32.toNatClampNeg (v4 + 1))) (xs (Int32.toNatClampNeg (v4 + 2))) (xs (Int32.toNatClampNeg (v4 + 3)))  x383 _ _ 0 0 (Nat.le_refl _) h))
        obtain ⟨r387, x388, rfl, rfl, h⟩ := hr
        replace h := law_leafD h
        refine EL_dstore (pc2 := 2335) rfl dL_law_2333 (by decide) (by decide) [1, 2, 3, 4, 5, 0] [(1, .ref 0), (2, .ref 246), (3, .ref 337), (4, .int v4), (5, .double r382), (7, .double r387)] rfl ?_
        refine EL_dload (pc2 := 2337) rfl dL_law_2335 4 rfl ?_
        refine EL_dload (pc2 := 2339) rfl dL_law_2337 5 rfl ?_
        refine EL_dcmp (pc2 := 2340) rfl dL_law_2339 ?_
        refine EL_if_eq (tgt := 2361) (pc2 := 2343) rfl dL_law_2340 (by decide) (fun q => ?_) (fun q => ?_)
        · replace h := h.1 q
          refine EL_goto (tgt := 2539) dL_law_2361 (by decide) ?_
          refine EL_iinc (v4 + 6) (pc2 := 2542) rfl dL_law_2539 (by decide) 3 rfl rfl (by decide) [1, 2, 3, 0, 4, 5] [(1, .ref 0), (2, .ref 246), (3, .ref 337), (4, .int (v4 + 6)), (5, .double r382), (7, .double r387)] rfl ?_
          refine EL_goto (tgt := 23) dL_law_2542 (by decide) ?_
          refine EL_ls [0, 1, 2, 3] rfl ?_
          exact hL23 (v4 + 6) x388 h bu (by omega)
        · replace h := h.2 q
          refine EL_dload (pc2 := 2345) rfl dL_law_2343 4 rfl ?_
          refine EL_dload (pc2 := 2347) rfl dL_law_2345 4 rfl ?_
          refine EL_dcmp (pc2 := 2348) rfl dL_law_2347 ?_
          refine EL_if_eq (tgt := 2359) (pc2 := 2351) rfl dL_law_2348 (by decide) (fun q => ?_) (fun q => ?_)
          · replace h := h.1 q
            refine EL_iconst (pc2 := 2360) (v := 0) rfl dL_law_2359 (by decide) ?_
            exact False.elim h
          · replace h := h.2 q
            refine EL_dload (pc2 := 2353) rfl dL_law_2351 5 rfl ?_
            refine EL_dload (pc2 := 2355) rfl dL_law_2353 5 rfl ?_
            refine EL_dcmp (pc2 := 2356) rfl dL_law_2355 ?_
            refine EL_if_ne (tgt := 2361) (pc2 := 2359) rfl dL_law_2356 (by decide) (fun q => ?_) (fun q => ?_)
            · replace h := h.1 q
              refine EL_goto (tgt := 2539) dL_law_2361 (by decide) ?_
              refine EL_iinc (v4 + 6) (pc2 := 2542) rfl dL_law_2539 (by decide) 3 rfl rfl (by decide) [1, 2, 3, 0, 4, 5] [(1, .ref 0), (2, .ref 246), (3, .ref 337), (4, .int (v4 + 6)), (5, .double r382), (7, .double r387)] rfl ?_
              refine EL_goto (tgt := 23) dL_law_2542 (by decide) ?_
              refine EL_ls [0, 1, 2, 3] rfl ?_
              exact hL23 (v4 + 6) x388 h bu (by omega)
            · replace h := h.2 q
              refine EL_iconst (pc2 := 2360) (v := 0) rfl dL_law_2359 (by decide) ?_
              exact False.elim h
      | 49, _, qk =>
        replace h := h.2.2.2.2.2.2.2.2.2.2.2.2.2.2.2.2.2.2.2.2.2.2.2.2.2.2.2.2.2.2.2.2.2.2.2.2.2.2.2.2.2.2.2.2.2.2.2.2.2.2.1 qk
        refine EL_tabIn (off := 2324) (tgt := 2364) dL_law_40 (by rw [qk]; decide) (by rw [qk]; decide) (by rw [qk]; decide) (by decide) ?_
        refine EL_aload_n (pc2 := 2365) rfl dL_law_2364 0 rfl ?_
        obtain ⟨b389, h⟩ := h
        refine EL_scrk (v := 1) (pc2 := 2371) rfl dL_law_2365 dL_law_2366 dL_law_2368 dL_law_2369 dL_law_2370 (by decide) 3 rfl b389 ?_
        obtain ⟨b390, h⟩ := h
        refine EL_scrk (v := 2) (pc2 := 2377) rfl dL_law_2371 dL_law_2372 dL_law_2374 dL_law_2375 dL_law_2376 (by decide) 3 rfl b390 ?_
        obtain ⟨b391, h⟩ := h
        refine EL_scrk (v := 3) (pc2 := 2383) rfl dL_law_2377 dL_law_2378 dL_law_2380 dL_law_2381 dL_law_2382 (by decide) 3 rfl b391 ?_
        obtain ⟨b392, h⟩ := h
        refine EL_scrk (v := 4) (pc2 := 2389) rfl dL_law_2383 dL_law_2384 dL_law_2386 dL_law_2387 dL_law_2388 (by decide) 3 rfl b392 ?_
        refine EL_invV (M' := MX11_loss) [.int (xs (Int32.toNatClampNeg (v4 + 1))), .int (xs (Int32.toNatClampNeg (v4 + 2))), .int (xs (Int32.toNatClampNeg (v4 + 3))), .int (xs (Int32.toNatClampNeg (v4 + 4)))] (rest := []) mlRL_234.1 mlRL_234.2.1 mlRL_234.2.2 q0.1 q0.2 (by decide) rfl (pc2 := 2392) rfl okX11_loss dL_law_2389 rfl rfl (Nat.le_of_ble_eq_true rfl) (Nat.le_of_ble_eq_true rfl) (d' := 4) (by decide) (b1 := 0) (Nat.zero_add _) (Or.inl rfl) (EW_mono (fun _ _ hr => ?_) (sX11_loss (xs (Int32.toNatClampNeg (v4 + 1))) (xs (Int32.toNatClampNeg (v4 + 2))) (xs (Int32.toNatClampNeg (v4 + 3))) (xs (Int32.toNatClampNeg (v4 + 4)))  x _ _ 0 0 (Nat.le_refl _) h))
        obtain ⟨r393, x394, rfl, rfl, h⟩ := hr
        replace h := And.intro b389 (And.intro b390 (And.intro b391 (And.intro b392 h)))
        refine EL_dstore (pc2 := 2394) rfl dL_law_2392 (by decide) (by decide) [1, 2, 3, 4, 0] [(1, .ref 0), (2, .ref 246), (3, .ref 337), (4, .int v4), (5, .double r393)] rfl ?_
        refine EL_aload_n (pc2 := 2395) rfl dL_law_2394 1 rfl ?_
        obtain ⟨b395, h⟩ := h
        refine EL_scrk (v := 1) (pc2 := 2401) rfl dL_law_2395 dL_law_2396 dL_law_2398 dL_law_2399 dL_law_2400 (by decide) 3 rfl b395 ?_
        obtain ⟨b396, h⟩ := h
        refine EL_scrk (v := 2) (pc2 := 2407) rfl dL_law_2401 dL_law_2402 dL_law_2404 dL_law_2405 dL_law_2406 (by decide) 3 rfl b396 ?_
        obtain ⟨b397, h⟩ := h
        refine EL_scrk (v := 3) (pc2 := 2413) rfl dL_law_2407 dL_law_2408 dL_law_2410 dL_law_2411 dL_law_2412 (by decide) 3 rfl b397 ?_
        obtain ⟨b398, h⟩ := h
        refine EL_scrk (v := 4) (pc2 := 2419) rfl dL_law_2413 dL_law_2414 dL_law_2416 dL_law_2417 dL_law_2418 (by decide) 3 rfl b398 ?_
        refine EL_invV (M' := MX12_loss) [.int (xs (Int32.toNatClampNeg (v4 + 1))), .int (xs (Int32.toNatClampNeg (v4 + 2))), .int (xs (Int32.toNatClampNeg (v4 + 3))), .int (xs (Int32.toNatClampNeg (v4 + 4)))] (rest := []) mlRL_238.1 mlRL_238.2.1 mlRL_238.2.2 q246.1 q246.2 (by decide) rfl (pc2 := 2422) rfl okX12_loss dL_law_2419 rfl rfl (Nat.le_of_ble_eq_true rfl) (Nat.le_of_ble_eq_true rfl) (d' := 3) (by decide) (b1 := 0) (Nat.zero_add _) (Or.inl rfl) (EW_mono (fun _ _ hr => ?_) (sX12_loss (xs (Int32.toNatClampNeg (v4 + 1))) (xs (Int32.toNatClampNeg (v4 + 2))) (xs (Int32.toNatClampNeg (v4 + 3))) (xs (Int32.toNatClampNeg (v4 + 4)))  x394 _ _ 0 0 (Nat.le_refl _) h))
        obtain ⟨r399, x400, rfl, rfl, h⟩ := hr
        replace h := law_leafD h
        refine EL_dstore (pc2 := 2424) rfl dL_law_2422 (by decide) (by decide) [1, 2, 3, 4, 5, 0] [(1, .ref 0), (2, .ref 246), (3, .ref 337), (4, .int v4), (5, .double r393), (7, .double r399)] rfl ?_
        refine EL_dload (pc2 := 2426) rfl dL_law_2424 4 rfl ?_
        refine EL_dload (pc2 := 2428) rfl dL_law_2426 5 rfl ?_
        refine EL_dcmp (pc2 := 2429) rfl dL_law_2428 ?_
        refine EL_if_eq (tgt := 2450) (pc2 := 2432) rfl dL_law_2429 (by decide) (fun q => ?_) (fun q => ?_)
        · replace h := h.1 q
          refine EL_goto (tgt := 2539) dL_law_2450 (by decide) ?_
          refine EL_iinc (v4 + 6) (pc2 := 2542) rfl dL_law_2539 (by decide) 3 rfl rfl (by decide) [1, 2, 3, 0, 4, 5] [(1, .ref 0), (2, .ref 246), (3, .ref 337), (4, .int (v4 + 6)), (5, .double r393), (7, .double r399)] rfl ?_
          refine EL_goto (tgt := 23) dL_law_2542 (by decide) ?_
          refine EL_ls [0, 1, 2, 3] rfl ?_
          exact hL23 (v4 + 6) x400 h bu (by omega)
        · replace h := h.2 q
          refine EL_dload (pc2 := 2434) rfl dL_law_2432 4 rfl ?_
          refine EL_dload (pc2 := 2436) rfl dL_law_2434 4 rfl ?_
          refine EL_dcmp (pc2 := 2437) rfl dL_law_2436 ?_
          refine EL_if_eq (tgt := 2448) (pc2 := 2440) rfl dL_law_2437 (by decide) (fun q => ?_) (fun q => ?_)
          · replace h := h.1 q
            refine EL_iconst (pc2 := 2449) (v := 0) rfl dL_law_2448 (by decide) ?_
            exact False.elim h
          · replace h := h.2 q
            refine EL_dload (pc2 := 2442) rfl dL_law_2440 5 rfl ?_
            refine EL_dload (pc2 := 2444) rfl dL_law_2442 5 rfl ?_
            refine EL_dcmp (pc2 := 2445) rfl dL_law_2444 ?_
            refine EL_if_ne (tgt := 2450) (pc2 := 2448) rfl dL_law_2445 (by decide) (fun q => ?_) (fun q => ?_)
            · replace h := h.1 q
              refine EL_goto (tgt := 2539) dL_law_2450 (by decide) ?_
              refine EL_iinc (v4 + 6) (pc2 := 2542) rfl dL_law_2539 (by decide) 3 rfl rfl (by decide) [1, 2, 3, 0, 4, 5] [(1, .ref 0), (2, .ref 246), (3, .ref 337), (4, .int (v4 + 6)), (5, .double r393), (7, .double r399)] rfl ?_
              refine EL_goto (tgt := 23) dL_law_2542 (by decide) ?_
              refine EL_ls [0, 1, 2, 3] rfl ?_
              exact hL23 (v4 + 6) x400 h bu (by omega)
            · replace h := h.2 q
              refine EL_iconst (pc2 := 2449) (v := 0) rfl dL_law_2448 (by decide) ?_
              exact False.elim h
      | 50, _, qk =>
        replace h := h.2.2.2.2.2.2.2.2.2.2.2.2.2.2.2.2.2.2.2.2.2.2.2.2.2.2.2.2.2.2.2.2.2.2.2.2.2.2.2.2.2.2.2.2.2.2.2.2.2.2.2.1 qk
        refine EL_tabIn (off := 2413) (tgt := 2453) dL_law_40 (by rw [qk]; decide) (by rw [qk]; decide) (by rw [qk]; decide) (by decide) ?_
        refine EL_aload_n (pc2 := 2454) rfl dL_law_2453 0 rfl ?_
        obtain ⟨b401, h⟩ := h
        refine EL_scrk (v := 1) (pc2 := 2460) rfl dL_law_2454 dL_law_2455 dL_law_2457 dL_law_2458 dL_law_2459 (by decide) 3 rfl b401 ?_
        obtain ⟨b402, h⟩ := h
        refine EL_scrk (v := 2) (pc2 := 2466) rfl dL_law_2460 dL_law_2461 dL_law_2463 dL_law_2464 dL_law_2465 (by decide) 3 rfl b402 ?_
        obtain ⟨b403, h⟩ := h
        refine EL_scrk (v := 3) (pc2 := 2472) rfl dL_law_2466 dL_law_2467 dL_law_2469 dL_law_2470 dL_law_2471 (by decide) 3 rfl b403 ?_
        obtain ⟨b404, h⟩ := h
        refine EL_scrk (v := 4) (pc2 := 2478) rfl dL_law_2472 dL_law_2473 dL_law_2475 dL_law_2476 dL_law_2477 (by decide) 3 rfl b404 ?_
        refine EL_invV (M' := MX11_what) [.int (xs (Int32.toNatClampNeg (v4 + 1))), .int (xs (Int32.toNatClampNeg (v4 + 2))), .int (xs (Int32.toNatClampNeg (v4 + 3))), .int (xs (Int32.toNatClampNeg (v4 + 4)))] (rest := []) mlRL_239.1 mlRL_239.2.1 mlRL_239.2.2 q0.1 q0.2 (by decide) rfl (pc2 := 2481) rfl okX11_what dL_law_2478 rfl rfl (Nat.le_of_ble_eq_true rfl) (Nat.le_of_ble_eq_true rfl) (d' := 5) (by decide) (b1 := 0) (Nat.zero_add _) (Or.inl rfl) (EW_mono (fun _ _ hr => ?_) (sX11_what (xs (Int32.toNatClampNeg (v4 + 1))) (xs (Int32.toNatClampNeg (v4 + 2))) (xs (Int32.toNatClampNeg (v4 + 3))) (xs (Int32.toNatClampNeg (v4 + 4)))  x _ _ 0 0 (Nat.le_refl _) h))
        obtain ⟨r405, x406, rfl, rfl, h⟩ := hr
        replace h := And.intro b401 (And.intro b402 (And.intro b403 (And.intro b404 h)))
        refine EL_aload_n (pc2 := 2482) rfl dL_law_2481 1 rfl ?_
        obtain ⟨b407, h⟩ := h
        refine EL_scrk (v := 1) (pc2 := 2488) rfl dL_law_2482 dL_law_2483 dL_law_2485 dL_law_2486 dL_law_2487 (by decide) 3 rfl b407 ?_
        obtain ⟨b408, h⟩ := h
        refine EL_scrk (v := 2) (pc2 := 2494) rfl dL_law_2488 dL_law_2489 dL_law_2491 dL_law_2492 dL_law_2493 (by decide) 3 rfl b408 ?_
        obtain ⟨b409, h⟩ := h
        refine EL_scrk (v := 3) (pc2 := 2500) rfl dL_law_2494 dL_law_2495 dL_law_2497 dL_law_2498 dL_law_2499 (by decide) 3 rfl b409 ?_
        obtain ⟨b410, h⟩ := h
        refine EL_scrk (v := 4) (pc2 := 2506) rfl dL_law_2500 dL_law_2501 dL_law_2503 dL_law_2504 dL_law_2505 (by decide) 3 rfl b410 ?_
        refine EL_invV (M' := MX12_what) [.int (xs (Int32.toNatClampNeg (v4 + 1))), .int (xs (Int32.toNatClampNeg (v4 + 2))), .int (xs (Int32.toNatClampNeg (v4 + 3))), .int (xs (Int32.toNatClampNeg (v4 + 4)))] (rest := [.int r405]) mlRL_242.1 mlRL_242.2.1 mlRL_242.2.2 q246.1 q246.2 (by decide) rfl (pc2 := 2509) rfl okX12_what dL_law_2506 rfl rfl (Nat.le_of_ble_eq_true rfl) (Nat.le_of_ble_eq_true rfl) (d' := 5) (by decide) (b1 := 0) (Nat.zero_add _) (Or.inl rfl) (EW_mono (fun _ _ hr => ?_) (sX12_what (xs (Int32.toNatClampNeg (v4 + 1))) (xs (Int32.toNatClampNeg (v4 + 2))) (xs (Int32.toNatClampNeg (v4 + 3))) (xs (Int32.toNatClampNeg (v4 + 4)))  x406 _ _ 0 0 (Nat.le_refl _) h))
        obtain ⟨r411, x412, rfl, rfl, h⟩ := hr
        replace h := law_leaf h
        refine EL_icmp_eq (tgt := 2539) (pc2 := 2512) rfl dL_law_2509 (by decide) (fun q => ?_) (fun q => ?_)
        · replace h := h.1 q
          refine EL_iinc (v4 + 6) (pc2 := 2542) rfl dL_law_2539 (by decide) 3 rfl rfl (by decide) [1, 2, 3, 0] [(1, .ref 0), (2, .ref 246), (3, .ref 337), (4, .int (v4 + 6))] rfl ?_
          refine EL_goto (tgt := 23) dL_law_2542 (by decide) ?_
          exact hL23 (v4 + 6) x412 h bu (by omega)
        · replace h := h.2 q
          refine EL_iconst (pc2 := 2513) (v := 0) rfl dL_law_2512 (by decide) ?_
          exact False.elim h
      | 51, _, qk =>
        replace h := h.2.2.2.2.2.2.2.2.2.2.2.2.2.2.2.2.2.2.2.2.2.2.2.2.2.2.2.2.2.2.2.2.2.2.2.2.2.2.2.2.2.2.2.2.2.2.2.2.2.2.2.2 qk
        refine EL_tabIn (off := 2474) (tgt := 2514) dL_law_40 (by rw [qk]; decide) (by rw [qk]; decide) (by rw [qk]; decide) (by decide) ?_
        refine EL_aload_n (pc2 := 2515) rfl dL_law_2514 0 rfl ?_
        obtain ⟨b413, h⟩ := h
        refine EL_scrk (v := 1) (pc2 := 2521) rfl dL_law_2515 dL_law_2516 dL_law_2518 dL_law_2519 dL_law_2520 (by decide) 3 rfl b413 ?_
        refine EL_invV (M' := MX11_count) [.int (xs (Int32.toNatClampNeg (v4 + 1)))] (rest := []) mlRL_243.1 mlRL_243.2.1 mlRL_243.2.2 q0.1 q0.2 (by decide) rfl (pc2 := 2524) rfl okX11_count dL_law_2521 rfl rfl (Nat.le_of_ble_eq_true rfl) (Nat.le_of_ble_eq_true rfl) (d' := 1) (by decide) (b1 := 0) (Nat.zero_add _) (Or.inl rfl) (EW_mono (fun _ _ hr => ?_) (sX11_count (xs (Int32.toNatClampNeg (v4 + 1)))  x _ _ 0 0 (Nat.le_refl _) h))
        obtain ⟨r414, rfl, rfl, h⟩ := hr
        replace h := And.intro b413 h
        refine EL_aload_n (pc2 := 2525) rfl dL_law_2524 1 rfl ?_
        obtain ⟨b415, h⟩ := h
        refine EL_scrk (v := 1) (pc2 := 2531) rfl dL_law_2525 dL_law_2526 dL_law_2528 dL_law_2529 dL_law_2530 (by decide) 3 rfl b415 ?_
        refine EL_invV (M' := MX12_count) [.int (xs (Int32.toNatClampNeg (v4 + 1)))] (rest := [.int r414]) mlRL_246.1 mlRL_246.2.1 mlRL_246.2.2 q246.1 q246.2 (by decide) rfl (pc2 := 2534) rfl okX12_count dL_law_2531 rfl rfl (Nat.le_of_ble_eq_true rfl) (Nat.le_of_ble_eq_true rfl) (d' := 0) (by decide) (b1 := 0) (Nat.zero_add _) (Or.inl rfl) (EW_mono (fun _ _ hr => ?_) (sX12_count (xs (Int32.toNatClampNeg (v4 + 1)))  x _ _ 0 0 (Nat.le_refl _) h))
        obtain ⟨r416, x417, rfl, rfl, h⟩ := hr
        replace h := law_leaf h
        refine EL_icmp_eq (tgt := 2539) (pc2 := 2537) rfl dL_law_2534 (by decide) (fun q => ?_) (fun q => ?_)
        · replace h := h.1 q
          refine EL_iinc (v4 + 6) (pc2 := 2542) rfl dL_law_2539 (by decide) 3 rfl rfl (by decide) [1, 2, 3, 0] [(1, .ref 0), (2, .ref 246), (3, .ref 337), (4, .int (v4 + 6))] rfl ?_
          refine EL_goto (tgt := 23) dL_law_2542 (by decide) ?_
          exact hL23 (v4 + 6) x417 h bu (by omega)
        · replace h := h.2 q
          refine EL_iconst (pc2 := 2538) (v := 0) rfl dL_law_2537 (by decide) ?_
          exact False.elim h
      | n9 + 52, hkk, _ => exact absurd hkk (by omega)
