theorem mlRX9_57 : Cond.methodLink RX9 57 yX9_push ∈ ab_G ∧ Cond.instanceMethod yX9_push ∈ ab_G ∧ Cond.selects RX9 yX9_push yX9_push ∈ ab_G := ⟨ab_in 1079 (by decide +kernel) (by decide +kernel), ab_in 1080 (by decide +kernel) (by decide +kernel), ab_in 1081 (by decide +kernel) (by decide +kernel)⟩
theorem mlRX9_69 : Cond.methodLink RX9 69 yX9_beginActions ∈ ab_G ∧ Cond.instanceMethod yX9_beginActions ∈ ab_G ∧ Cond.selects RX9 yX9_beginActions yX9_beginActions ∈ ab_G := ⟨ab_in 1088 (by decide +kernel) (by decide +kernel), ab_in 1089 (by decide +kernel) (by decide +kernel), ab_in 1090 (by decide +kernel) (by decide +kernel)⟩
theorem gfRX9_24 : ab_L RX9 24 9 1 := ⟨by decide, by decide, ab_in 368 (by decide +kernel) (by decide +kernel)⟩
theorem gfRX9_9 : ab_L RX9 9 9 0 := ⟨by decide, by decide, ab_in 367 (by decide +kernel) (by decide +kernel)⟩
theorem cnRX9_56 : Cond.constant RX9 56 65535 ∈ ab_G := ab_in 1078 (by decide +kernel) (by decide +kernel)
theorem mlRX9_65 : Cond.methodLink RX9 65 yX9_pop ∈ ab_G ∧ Cond.instanceMethod yX9_pop ∈ ab_G ∧ Cond.selects RX9 yX9_pop yX9_pop ∈ ab_G := ⟨ab_in 1084 (by decide +kernel) (by decide +kernel), ab_in 1085 (by decide +kernel) (by decide +kernel), ab_in 1086 (by decide +kernel) (by decide +kernel)⟩
theorem mlRX9_80 : Cond.methodLink RX9 80 yX9_joined ∈ ab_G ∧ Cond.static yX9_joined ∈ ab_G := ⟨ab_in 1101 (by decide +kernel) (by decide +kernel), ab_in 1102 (by decide +kernel) (by decide +kernel)⟩
theorem mlRX9_84 : Cond.methodLink RX9 84 yX9_bounded ∈ ab_G ∧ Cond.static yX9_bounded ∈ ab_G := ⟨ab_in 1104 (by decide +kernel) (by decide +kernel), ab_in 1105 (by decide +kernel) (by decide +kernel)⟩
theorem mlRX9_73 : Cond.methodLink RX9 73 yX9_ask ∈ ab_G ∧ Cond.instanceMethod yX9_ask ∈ ab_G ∧ Cond.selects RX9 yX9_ask yX9_ask ∈ ab_G := ⟨ab_in 1092 (by decide +kernel) (by decide +kernel), ab_in 1093 (by decide +kernel) (by decide +kernel), ab_in 1094 (by decide +kernel) (by decide +kernel)⟩
theorem mlRX9_77 : Cond.methodLink RX9 77 yX9_find ∈ ab_G ∧ Cond.instanceMethod yX9_find ∈ ab_G ∧ Cond.selects RX9 yX9_find yX9_find ∈ ab_G := ⟨ab_in 1097 (by decide +kernel) (by decide +kernel), ab_in 1098 (by decide +kernel) (by decide +kernel), ab_in 1099 (by decide +kernel) (by decide +kernel)⟩
theorem mlRX9_50 : Cond.methodLink RX9 50 yJ7_fill_53178 ∈ ab_G ∧ Cond.static yJ7_fill_53178 ∈ ab_G := ⟨ab_in 1077 (by decide +kernel) (by decide +kernel), ab_in 128 (by decide +kernel) (by decide +kernel)⟩
abbrev MX9_run : ab_M := (yX9_run, cX9_run, 5, none)
theorem dX9_run_0 : decode cX9_run 0 = .ok (.aload_n 0, 1) := by decide +kernel
theorem dX9_run_1 : decode cX9_run 1 = .ok (.iconst 0, 1) := by decide +kernel
theorem dX9_run_2 : decode cX9_run 2 = .ok (.putfield 34, 3) := by decide +kernel
theorem dX9_run_5 : decode cX9_run 5 = .ok (.aload_n 0, 1) := by decide +kernel
theorem dX9_run_6 : decode cX9_run 6 = .ok (.iconst 0, 1) := by decide +kernel
theorem dX9_run_7 : decode cX9_run 7 = .ok (.putfield 37, 3) := by decide +kernel
theorem dX9_run_10 : decode cX9_run 10 = .ok (.aload_n 0, 1) := by decide +kernel
theorem dX9_run_11 : decode cX9_run 11 = .ok (.iconst 0, 1) := by decide +kernel
theorem dX9_run_12 : decode cX9_run 12 = .ok (.putfield 40, 3) := by decide +kernel
theorem dX9_run_15 : decode cX9_run 15 = .ok (.aload_n 0, 1) := by decide +kernel
theorem dX9_run_16 : decode cX9_run 16 = .ok (.iconst 0, 1) := by decide +kernel
theorem dX9_run_17 : decode cX9_run 17 = .ok (.putfield 44, 3) := by decide +kernel
theorem dX9_run_20 : decode cX9_run 20 = .ok (.aload_n 0, 1) := by decide +kernel
theorem dX9_run_21 : decode cX9_run 21 = .ok (.iconst 0, 1) := by decide +kernel
theorem dX9_run_22 : decode cX9_run 22 = .ok (.putfield 47, 3) := by decide +kernel
theorem dX9_run_25 : decode cX9_run 25 = .ok (.aload_n 0, 1) := by decide +kernel
theorem dX9_run_26 : decode cX9_run 26 = .ok (.getfield 18, 3) := by decide +kernel
theorem dX9_run_29 : decode cX9_run 29 = .ok (.iconst 0, 1) := by decide +kernel
theorem dX9_run_30 : decode cX9_run 30 = .ok (.invokestatic 50, 3) := by decide +kernel
theorem dX9_run_33 : decode cX9_run 33 = .ok (.iconst 0, 1) := by decide +kernel
theorem dX9_run_34 : decode cX9_run 34 = .ok (.istore_n 2, 1) := by decide +kernel
theorem dX9_run_35 : decode cX9_run 35 = .ok (.iload_n 2, 1) := by decide +kernel
theorem dX9_run_36 : decode cX9_run 36 = .ok (.aload_n 0, 1) := by decide +kernel
theorem dX9_run_37 : decode cX9_run 37 = .ok (.getfield 24, 3) := by decide +kernel
theorem dX9_run_40 : decode cX9_run 40 = .ok (.if_icmp .ge 215, 3) := by decide +kernel
theorem dX9_run_43 : decode cX9_run 43 = .ok (.aload_n 0, 1) := by decide +kernel
theorem dX9_run_44 : decode cX9_run 44 = .ok (.getfield 9, 3) := by decide +kernel
theorem dX9_run_47 : decode cX9_run 47 = .ok (.iload_n 2, 1) := by decide +kernel
theorem dX9_run_48 : decode cX9_run 48 = .ok (.iaload, 1) := by decide +kernel
theorem dX9_run_49 : decode cX9_run 49 = .ok (.ldc 56, 2) := by decide +kernel
theorem dX9_run_51 : decode cX9_run 51 = .ok (.iand, 1) := by decide +kernel
theorem dX9_run_52 : decode cX9_run 52 = .ok (.istore_n 3, 1) := by decide +kernel
theorem dX9_run_53 : decode cX9_run 53 = .ok (.aload_n 0, 1) := by decide +kernel
theorem dX9_run_54 : decode cX9_run 54 = .ok (.getfield 9, 3) := by decide +kernel
theorem dX9_run_57 : decode cX9_run 57 = .ok (.iload_n 2, 1) := by decide +kernel
theorem dX9_run_58 : decode cX9_run 58 = .ok (.iaload, 1) := by decide +kernel
theorem dX9_run_59 : decode cX9_run 59 = .ok (.bipush 16, 2) := by decide +kernel
theorem dX9_run_61 : decode cX9_run 61 = .ok (.ishr, 1) := by decide +kernel
theorem dX9_run_62 : decode cX9_run 62 = .ok (.tableswitch 156 0 13 #[70, 78, 156, 156, 156, 156, 156, 156, 101, 156, 156, 114, 133, 148], 70) := by decide +kernel
theorem dX9_run_132 : decode cX9_run 132 = .ok (.aload_n 0, 1) := by decide +kernel
theorem dX9_run_133 : decode cX9_run 133 = .ok (.iload_n 3, 1) := by decide +kernel
theorem dX9_run_134 : decode cX9_run 134 = .ok (.invokevirtual 57, 3) := by decide +kernel
theorem dX9_run_137 : decode cX9_run 137 = .ok (.goto 112, 3) := by decide +kernel
theorem dX9_run_140 : decode cX9_run 140 = .ok (.aload_n 0, 1) := by decide +kernel
theorem dX9_run_141 : decode cX9_run 141 = .ok (.iload_n 3, 1) := by decide +kernel
theorem dX9_run_142 : decode cX9_run 142 = .ok (.aload_n 1, 1) := by decide +kernel
theorem dX9_run_143 : decode cX9_run 143 = .ok (.arraylength, 1) := by decide +kernel
theorem dX9_run_144 : decode cX9_run 144 = .ok (.invokestatic 61, 3) := by decide +kernel
theorem dX9_run_147 : decode cX9_run 147 = .ok (.ifCond .eq 9, 3) := by decide +kernel
theorem dX9_run_150 : decode cX9_run 150 = .ok (.aload_n 1, 1) := by decide +kernel
theorem dX9_run_151 : decode cX9_run 151 = .ok (.iload_n 3, 1) := by decide +kernel
theorem dX9_run_152 : decode cX9_run 152 = .ok (.iaload, 1) := by decide +kernel
theorem dX9_run_153 : decode cX9_run 153 = .ok (.goto 4, 3) := by decide +kernel
theorem dX9_run_156 : decode cX9_run 156 = .ok (.iconst 0, 1) := by decide +kernel
theorem dX9_run_157 : decode cX9_run 157 = .ok (.invokevirtual 57, 3) := by decide +kernel
theorem dX9_run_160 : decode cX9_run 160 = .ok (.goto 89, 3) := by decide +kernel
theorem dX9_run_163 : decode cX9_run 163 = .ok (.aload_n 0, 1) := by decide +kernel
theorem dX9_run_164 : decode cX9_run 164 = .ok (.iconst 1, 1) := by decide +kernel
theorem dX9_run_165 : decode cX9_run 165 = .ok (.aload_n 0, 1) := by decide +kernel
theorem dX9_run_166 : decode cX9_run 166 = .ok (.invokevirtual 65, 3) := by decide +kernel
theorem dX9_run_169 : decode cX9_run 169 = .ok (.isub, 1) := by decide +kernel
theorem dX9_run_170 : decode cX9_run 170 = .ok (.invokevirtual 57, 3) := by decide +kernel
theorem dX9_run_173 : decode cX9_run 173 = .ok (.goto 76, 3) := by decide +kernel
theorem dX9_run_176 : decode cX9_run 176 = .ok (.aload_n 0, 1) := by decide +kernel
theorem dX9_run_177 : decode cX9_run 177 = .ok (.aload_n 0, 1) := by decide +kernel
theorem dX9_run_178 : decode cX9_run 178 = .ok (.invokevirtual 65, 3) := by decide +kernel
theorem dX9_run_181 : decode cX9_run 181 = .ok (.ifCond .eq 7, 3) := by decide +kernel
theorem dX9_run_184 : decode cX9_run 184 = .ok (.iconst 1, 1) := by decide +kernel
theorem dX9_run_185 : decode cX9_run 185 = .ok (.goto 4, 3) := by decide +kernel
theorem dX9_run_188 : decode cX9_run 188 = .ok (.iconst 0, 1) := by decide +kernel
theorem dX9_run_189 : decode cX9_run 189 = .ok (.invokevirtual 69, 3) := by decide +kernel
theorem dX9_run_192 : decode cX9_run 192 = .ok (.goto 57, 3) := by decide +kernel
theorem dX9_run_195 : decode cX9_run 195 = .ok (.aload_n 0, 1) := by decide +kernel
theorem dX9_run_196 : decode cX9_run 196 = .ok (.iload_n 3, 1) := by decide +kernel
theorem dX9_run_197 : decode cX9_run 197 = .ok (.bipush 10, 2) := by decide +kernel
theorem dX9_run_199 : decode cX9_run 199 = .ok (.idiv, 1) := by decide +kernel
theorem dX9_run_200 : decode cX9_run 200 = .ok (.iload_n 3, 1) := by decide +kernel
theorem dX9_run_201 : decode cX9_run 201 = .ok (.bipush 10, 2) := by decide +kernel
theorem dX9_run_203 : decode cX9_run 203 = .ok (.irem, 1) := by decide +kernel
theorem dX9_run_204 : decode cX9_run 204 = .ok (.invokevirtual 73, 3) := by decide +kernel
theorem dX9_run_207 : decode cX9_run 207 = .ok (.goto 42, 3) := by decide +kernel
theorem dX9_run_210 : decode cX9_run 210 = .ok (.aload_n 0, 1) := by decide +kernel
theorem dX9_run_211 : decode cX9_run 211 = .ok (.iload_n 3, 1) := by decide +kernel
theorem dX9_run_212 : decode cX9_run 212 = .ok (.invokevirtual 77, 3) := by decide +kernel
theorem dX9_run_215 : decode cX9_run 215 = .ok (.goto 34, 3) := by decide +kernel
theorem dX9_run_218 : decode cX9_run 218 = .ok (.aload_n 0, 1) := by decide +kernel
theorem dX9_run_219 : decode cX9_run 219 = .ok (.invokevirtual 65, 3) := by decide +kernel
theorem dX9_run_222 : decode cX9_run 222 = .ok (.istore 4, 2) := by decide +kernel
theorem dX9_run_224 : decode cX9_run 224 = .ok (.aload_n 0, 1) := by decide +kernel
theorem dX9_run_225 : decode cX9_run 225 = .ok (.aload_n 0, 1) := by decide +kernel
theorem dX9_run_226 : decode cX9_run 226 = .ok (.getfield 9, 3) := by decide +kernel
theorem dX9_run_229 : decode cX9_run 229 = .ok (.iload_n 2, 1) := by decide +kernel
theorem dX9_run_230 : decode cX9_run 230 = .ok (.iaload, 1) := by decide +kernel
theorem dX9_run_231 : decode cX9_run 231 = .ok (.bipush 16, 2) := by decide +kernel
theorem dX9_run_233 : decode cX9_run 233 = .ok (.ishr, 1) := by decide +kernel
theorem dX9_run_234 : decode cX9_run 234 = .ok (.aload_n 0, 1) := by decide +kernel
theorem dX9_run_235 : decode cX9_run 235 = .ok (.invokevirtual 65, 3) := by decide +kernel
theorem dX9_run_238 : decode cX9_run 238 = .ok (.iload 4, 2) := by decide +kernel
theorem dX9_run_240 : decode cX9_run 240 = .ok (.invokestatic 80, 3) := by decide +kernel
theorem dX9_run_243 : decode cX9_run 243 = .ok (.invokestatic 84, 3) := by decide +kernel
theorem dX9_run_246 : decode cX9_run 246 = .ok (.invokevirtual 57, 3) := by decide +kernel
theorem dX9_run_249 : decode cX9_run 249 = .ok (.iinc 2 1, 3) := by decide +kernel
theorem dX9_run_252 : decode cX9_run 252 = .ok (.goto (-217), 3) := by decide +kernel
theorem dX9_run_255 : decode cX9_run 255 = .ok (.return_, 1) := by decide +kernel
theorem okX9_run : ab_okM MX9_run 1 := ⟨by decide, ⟨by decide, by decide⟩, ab_in 1076 (by decide +kernel) (by decide +kernel), ab_in 93 (by decide +kernel) (by decide +kernel), by decide +kernel, by decide⟩
set_option maxHeartbeats 4000000 in
set_option maxRecDepth 100000 in
def wX9_run_157 (v0 : Nat) (v1 : Nat) (v2 : Int32) (s0 : Nat) (s1 : Int32) (x : ab_X) (K : ab_X → Prop) (L35 : Int32 → ab_X → Prop) : Prop := wX9_push s0 s1 x (fun x86 => L35 (v2 + 1) x86)
set_option maxHeartbeats 4000000 in
set_option maxRecDepth 100000 in
theorem sX9_run_157 (v0 : Nat) (v1 : Nat) (v2 : Int32) (s0 : Nat) (s1 : Int32) (hv0 : isT v0) (hv1 : isLA v1) (hs0 : isT s0) (x : ab_X) (K : ab_X → Prop) (L35 : Int32 → ab_X → Prop) (d bc bs : Nat) (hdp : 2 ≤ d) (hL35 : ∀ (v2 : Int32) (x : ab_X), L35 v2 x → EW MX9_run 35 [(0, .ref v0), (1, .ref v1), (2, .int v2)] [] (aS x) d bc bs (liV K)) (h : wX9_run_157 v0 v1 v2 s0 s1 x K L35) : EW MX9_run 157 [(0, .ref v0), (1, .ref v1), (2, .int v2)] [.int s1, .ref s0] (aS x) d bc bs (liV K) := by
  unfold wX9_run_157 at h
  refine AW_invV (M' := MX9_push) [.int s1] (rest := []) mlRX9_57 okX9_push (pc2 := 160) rfl dX9_run_157 rfl rfl (Nat.le_of_ble_eq_true rfl) (Nat.le_of_ble_eq_true rfl) (d' := 0) (by omega) (isT.o hs0) ⟨by decide, rfl⟩ (EW_mono (fun _ _ hr => ?_) (sX9_push s0 s1 hs0 x _ _ 0 0 (Nat.le_refl _) h))
  obtain ⟨x86, rfl, rfl, h⟩ := hr
  refine EW_goto (tgt := 249) dX9_run_160 (by decide) ?_
  refine EW_iinc (v2 + 1) (pc2 := 252) rfl dX9_run_249 2 rfl rfl (by decide) [1, 2, 0] [(0, .ref v0), (1, .ref v1), (2, .int (v2 + 1))] rfl ?_
  refine EW_goto (tgt := 35) dX9_run_252 (by decide) ?_
  exact hL35 (v2 + 1) x86 h
set_option maxHeartbeats 4000000 in
set_option maxRecDepth 100000 in
def wX9_run_189 (v0 : Nat) (v1 : Nat) (v2 : Int32) (s0 : Nat) (s1 : Int32) (x : ab_X) (K : ab_X → Prop) (L35 : Int32 → ab_X → Prop) : Prop := wX9_beginActions s0 s1 x (fun x87 => L35 (v2 + 1) x87)
set_option maxHeartbeats 4000000 in
set_option maxRecDepth 100000 in
theorem sX9_run_189 (v0 : Nat) (v1 : Nat) (v2 : Int32) (s0 : Nat) (s1 : Int32) (hv0 : isT v0) (hv1 : isLA v1) (hs0 : isT s0) (x : ab_X) (K : ab_X → Prop) (L35 : Int32 → ab_X → Prop) (d bc bs : Nat) (hdp : 2 ≤ d) (hL35 : ∀ (v2 : Int32) (x : ab_X), L35 v2 x → EW MX9_run 35 [(0, .ref v0), (1, .ref v1), (2, .int v2)] [] (aS x) d bc bs (liV K)) (h : wX9_run_189 v0 v1 v2 s0 s1 x K L35) : EW MX9_run 189 [(0, .ref v0), (1, .ref v1), (2, .int v2)] [.int s1, .ref s0] (aS x) d bc bs (liV K) := by
  unfold wX9_run_189 at h
  refine AW_invV (M' := MX9_beginActions) [.int s1] (rest := []) mlRX9_69 okX9_beginActions (pc2 := 192) rfl dX9_run_189 rfl rfl (Nat.le_of_ble_eq_true rfl) (Nat.le_of_ble_eq_true rfl) (d' := 0) (by omega) (isT.o hs0) ⟨by decide, rfl⟩ (EW_mono (fun _ _ hr => ?_) (sX9_beginActions s0 s1 hs0 x _ _ 0 0 (Nat.le_refl _) h))
  obtain ⟨x87, rfl, rfl, h⟩ := hr
  refine EW_goto (tgt := 249) dX9_run_192 (by decide) ?_
  refine EW_iinc (v2 + 1) (pc2 := 252) rfl dX9_run_249 2 rfl rfl (by decide) [1, 2, 0] [(0, .ref v0), (1, .ref v1), (2, .int (v2 + 1))] rfl ?_
  refine EW_goto (tgt := 35) dX9_run_252 (by decide) ?_
  exact hL35 (v2 + 1) x87 h
set_option maxHeartbeats 4000000 in
set_option maxRecDepth 100000 in
def lX9_run_35 (v0 : Nat) (v1 : Nat) (K : ab_X → Prop)  (L35 : Int32 → ab_X → Prop) (v2 : Int32) (x : ab_X) : Prop := (((x.1 v0 1) ≤ v2 → K x) ∧ (¬ (x.1 v0 1) ≤ v2 → (vp_in v2 200 ∧ vp_in v2 200 ∧ (((Int32.toInt ((x.1 (v0 + 1) (Int32.toNatClampNeg v2)) >>> (16 &&& 31)) < 0 ∨ 13 < Int32.toInt ((x.1 (v0 + 1) (Int32.toNatClampNeg v2)) >>> (16 &&& 31))) → wX9_pop v0 x (fun r4 x5 => (vp_in v2 200 ∧ wX9_pop v0 x5 (fun r7 x8 => wX9_joined ((x5.1 (v0 + 1) (Int32.toNatClampNeg v2)) >>> (16 &&& 31)) r7 r4 x8 (fun r9 => wX9_bounded r9 x8 (fun r10 => wX9_push v0 r10 x8 (fun x11 => L35 (v2 + 1) x11))))))) ∧ (((x.1 (v0 + 1) (Int32.toNatClampNeg v2)) >>> (16 &&& 31)) = 0 → wX9_push v0 ((x.1 (v0 + 1) (Int32.toNatClampNeg v2)) &&& 65535) x (fun x12 => L35 (v2 + 1) x12)) ∧ (((x.1 (v0 + 1) (Int32.toNatClampNeg v2)) >>> (16 &&& 31)) = 1 → wX11_below ((x.1 (v0 + 1) (Int32.toNatClampNeg v2)) &&& 65535) 11 x (fun r13 => ((r13 = 0 → wX9_run_157 v0 v1 v2 v0 0 x K L35) ∧ (¬ r13 = 0 → (vp_in ((x.1 (v0 + 1) (Int32.toNatClampNeg v2)) &&& 65535) 11 ∧ wX9_run_157 v0 v1 v2 v0 (x.1 v1 (Int32.toNatClampNeg ((x.1 (v0 + 1) (Int32.toNatClampNeg v2)) &&& 65535))) x K L35))))) ∧ (((x.1 (v0 + 1) (Int32.toNatClampNeg v2)) >>> (16 &&& 31)) = 2 → wX9_pop v0 x (fun r15 x16 => (vp_in v2 200 ∧ wX9_pop v0 x16 (fun r18 x19 => wX9_joined ((x16.1 (v0 + 1) (Int32.toNatClampNeg v2)) >>> (16 &&& 31)) r18 r15 x19 (fun r20 => wX9_bounded r20 x19 (fun r21 => wX9_push v0 r21 x19 (fun x22 => L35 (v2 + 1) x22))))))) ∧ (((x.1 (v0 + 1) (Int32.toNatClampNeg v2)) >>> (16 &&& 31)) = 3 → wX9_pop v0 x (fun r23 x24 => (vp_in v2 200 ∧ wX9_pop v0 x24 (fun r26 x27 => wX9_joined ((x24.1 (v0 + 1) (Int32.toNatClampNeg v2)) >>> (16 &&& 31)) r26 r23 x27 (fun r28 => wX9_bounded r28 x27 (fun r29 => wX9_push v0 r29 x27 (fun x30 => L35 (v2 + 1) x30))))))) ∧ (((x.1 (v0 + 1) (Int32.toNatClampNeg v2)) >>> (16 &&& 31)) = 4 → wX9_pop v0 x (fun r31 x32 => (vp_in v2 200 ∧ wX9_pop v0 x32 (fun r34 x35 => wX9_joined ((x32.1 (v0 + 1) (Int32.toNatClampNeg v2)) >>> (16 &&& 31)) r34 r31 x35 (fun r36 => wX9_bounded r36 x35 (fun r37 => wX9_push v0 r37 x35 (fun x38 => L35 (v2 + 1) x38))))))) ∧ (((x.1 (v0 + 1) (Int32.toNatClampNeg v2)) >>> (16 &&& 31)) = 5 → wX9_pop v0 x (fun r39 x40 => (vp_in v2 200 ∧ wX9_pop v0 x40 (fun r42 x43 => wX9_joined ((x40.1 (v0 + 1) (Int32.toNatClampNeg v2)) >>> (16 &&& 31)) r42 r39 x43 (fun r44 => wX9_bounded r44 x43 (fun r45 => wX9_push v0 r45 x43 (fun x46 => L35 (v2 + 1) x46))))))) ∧ (((x.1 (v0 + 1) (Int32.toNatClampNeg v2)) >>> (16 &&& 31)) = 6 → wX9_pop v0 x (fun r47 x48 => (vp_in v2 200 ∧ wX9_pop v0 x48 (fun r50 x51 => wX9_joined ((x48.1 (v0 + 1) (Int32.toNatClampNeg v2)) >>> (16 &&& 31)) r50 r47 x51 (fun r52 => wX9_bounded r52 x51 (fun r53 => wX9_push v0 r53 x51 (fun x54 => L35 (v2 + 1) x54))))))) ∧ (((x.1 (v0 + 1) (Int32.toNatClampNeg v2)) >>> (16 &&& 31)) = 7 → wX9_pop v0 x (fun r55 x56 => (vp_in v2 200 ∧ wX9_pop v0 x56 (fun r58 x59 => wX9_joined ((x56.1 (v0 + 1) (Int32.toNatClampNeg v2)) >>> (16 &&& 31)) r58 r55 x59 (fun r60 => wX9_bounded r60 x59 (fun r61 => wX9_push v0 r61 x59 (fun x62 => L35 (v2 + 1) x62))))))) ∧ (((x.1 (v0 + 1) (Int32.toNatClampNeg v2)) >>> (16 &&& 31)) = 8 → wX9_pop v0 x (fun r63 x64 => wX9_push v0 (1 - r63) x64 (fun x65 => L35 (v2 + 1) x65))) ∧ (((x.1 (v0 + 1) (Int32.toNatClampNeg v2)) >>> (16 &&& 31)) = 9 → wX9_pop v0 x (fun r66 x67 => (vp_in v2 200 ∧ wX9_pop v0 x67 (fun r69 x70 => wX9_joined ((x67.1 (v0 + 1) (Int32.toNatClampNeg v2)) >>> (16 &&& 31)) r69 r66 x70 (fun r71 => wX9_bounded r71 x70 (fun r72 => wX9_push v0 r72 x70 (fun x73 => L35 (v2 + 1) x73))))))) ∧ (((x.1 (v0 + 1) (Int32.toNatClampNeg v2)) >>> (16 &&& 31)) = 10 → wX9_pop v0 x (fun r74 x75 => (vp_in v2 200 ∧ wX9_pop v0 x75 (fun r77 x78 => wX9_joined ((x75.1 (v0 + 1) (Int32.toNatClampNeg v2)) >>> (16 &&& 31)) r77 r74 x78 (fun r79 => wX9_bounded r79 x78 (fun r80 => wX9_push v0 r80 x78 (fun x81 => L35 (v2 + 1) x81))))))) ∧ (((x.1 (v0 + 1) (Int32.toNatClampNeg v2)) >>> (16 &&& 31)) = 11 → wX9_pop v0 x (fun r82 x83 => ((r82 = 0 → wX9_run_189 v0 v1 v2 v0 0 x83 K L35) ∧ (¬ r82 = 0 → wX9_run_189 v0 v1 v2 v0 1 x83 K L35)))) ∧ (((x.1 (v0 + 1) (Int32.toNatClampNeg v2)) >>> (16 &&& 31)) = 12 → wX9_ask v0 (((x.1 (v0 + 1) (Int32.toNatClampNeg v2)) &&& 65535) / 10) (((x.1 (v0 + 1) (Int32.toNatClampNeg v2)) &&& 65535) - ((x.1 (v0 + 1) (Int32.toNatClampNeg v2)) &&& 65535) / 10 * 10) x (fun x84 => L35 (v2 + 1) x84)) ∧ (((x.1 (v0 + 1) (Int32.toNatClampNeg v2)) >>> (16 &&& 31)) = 13 → wX9_find v0 ((x.1 (v0 + 1) (Int32.toNatClampNeg v2)) &&& 65535) x (fun x85 => L35 (v2 + 1) x85))))))
set_option maxHeartbeats 4000000 in
set_option maxRecDepth 100000 in
theorem sX9_run_35 (v0 : Nat) (v1 : Nat) (v2 : Int32) (hv0 : isT v0) (hv1 : isLA v1) (x : ab_X) (K : ab_X → Prop)  (d bc bs : Nat) (hdp : 2 ≤ d)  (h : Lp2 (lX9_run_35 v0 v1 K ) v2 x) : EW MX9_run 35 [(0, .ref v0), (1, .ref v1), (2, .int v2)] [] (aS x) d bc bs (liV K) := by
  refine Lp2.use (P := fun v2 x => EW MX9_run 35 [(0, .ref v0), (1, .ref v1), (2, .int v2)] [] (aS x) d bc bs (liV K)) (fun L35 v2 x hL35 h => ?_) v2 x h
  unfold lX9_run_35 at h
  refine EW_iload_n (pc2 := 36) rfl dX9_run_35 2 rfl ?_
  refine EW_aload_n (pc2 := 37) rfl dX9_run_36 0 rfl ?_
  refine AW_geti ⟨gfRX9_24, rfl⟩ (pc2 := 40) rfl dX9_run_37 (isT.o hv0) ?_
  refine EW_icmp_ge (tgt := 255) (pc2 := 43) rfl dX9_run_40 (by decide) (fun q => ?_) (fun q => ?_)
  · replace h := h.1 q
    exact EW_vret rfl dX9_run_255 ⟨_, rfl, rfl, h⟩
  · replace h := h.2 q
    refine EW_aload_n (pc2 := 44) rfl dX9_run_43 0 rfl ?_
    refine AW_getr (r := (v0 + 1)) ⟨gfRX9_9, rfl⟩ (pc2 := 47) rfl dX9_run_44 (isT.o hv0) (isT.r0 hv0) ?_
    refine EW_iload_n (pc2 := 48) rfl dX9_run_47 2 rfl ?_
    obtain ⟨b2, h⟩ := h
    refine AW_iald (pc2 := 49) rfl dX9_run_48 (isT.a0 hv0) b2 ?_
    refine EW_ldc cnRX9_56 (pc2 := 51) rfl dX9_run_49 ?_
    refine EW_iand (pc2 := 52) rfl dX9_run_51 ?_
    refine EW_istore_n (pc2 := 53) rfl dX9_run_52 (by decide) [1, 2, 3, 0] [(0, .ref v0), (1, .ref v1), (2, .int v2), (3, .int ((x.1 (v0 + 1) (Int32.toNatClampNeg v2)) &&& 65535))] rfl ?_
    refine EW_aload_n (pc2 := 54) rfl dX9_run_53 0 rfl ?_
    refine AW_getr (r := (v0 + 1)) ⟨gfRX9_9, rfl⟩ (pc2 := 57) rfl dX9_run_54 (isT.o hv0) (isT.r0 hv0) ?_
    refine EW_iload_n (pc2 := 58) rfl dX9_run_57 2 rfl ?_
    obtain ⟨b3, h⟩ := h
    refine AW_iald (pc2 := 59) rfl dX9_run_58 (isT.a0 hv0) b3 ?_
    refine EW_bipush (pc2 := 61) (v := 16) rfl dX9_run_59 (by decide) ?_
    refine EW_ishr (pc2 := 62) rfl dX9_run_61 ?_
    by_cases qo : Int32.toInt ((x.1 (v0 + 1) (Int32.toNatClampNeg v2)) >>> (16 &&& 31)) < 0 ∨ 13 < Int32.toInt ((x.1 (v0 + 1) (Int32.toNatClampNeg v2)) >>> (16 &&& 31))
    · replace h := h.1 qo
      refine EW_tabOut (tgt := 218) dX9_run_62 qo (by decide) ?_
      refine EW_aload_n (pc2 := 219) rfl dX9_run_218 0 rfl ?_
      refine AW_invV (M' := MX9_pop) [] (rest := []) mlRX9_65 okX9_pop (pc2 := 222) rfl dX9_run_219 rfl rfl (Nat.le_of_ble_eq_true rfl) (Nat.le_of_ble_eq_true rfl) (d' := 0) (by omega) (isT.o hv0) ⟨by decide, rfl⟩ (EW_mono (fun _ _ hr => ?_) (sX9_pop v0 hv0 x _ _ 0 0 (Nat.le_refl _) h))
      obtain ⟨r4, x5, rfl, rfl, h⟩ := hr
      refine EW_istore (pc2 := 224) rfl dX9_run_222 (by decide) [1, 2, 3, 4, 0] [(0, .ref v0), (1, .ref v1), (2, .int v2), (3, .int ((x.1 (v0 + 1) (Int32.toNatClampNeg v2)) &&& 65535)), (4, .int r4)] rfl ?_
      refine EW_aload_n (pc2 := 225) rfl dX9_run_224 0 rfl ?_
      refine EW_aload_n (pc2 := 226) rfl dX9_run_225 0 rfl ?_
      refine AW_getr (r := (v0 + 1)) ⟨gfRX9_9, rfl⟩ (pc2 := 229) rfl dX9_run_226 (isT.o hv0) (isT.r0 hv0) ?_
      refine EW_iload_n (pc2 := 230) rfl dX9_run_229 2 rfl ?_
      obtain ⟨b6, h⟩ := h
      refine AW_iald (pc2 := 231) rfl dX9_run_230 (isT.a0 hv0) b6 ?_
      refine EW_bipush (pc2 := 233) (v := 16) rfl dX9_run_231 (by decide) ?_
      refine EW_ishr (pc2 := 234) rfl dX9_run_233 ?_
      refine EW_aload_n (pc2 := 235) rfl dX9_run_234 0 rfl ?_
      refine AW_invV (M' := MX9_pop) [] (rest := [.int ((x5.1 (v0 + 1) (Int32.toNatClampNeg v2)) >>> (16 &&& 31)), .ref v0]) mlRX9_65 okX9_pop (pc2 := 238) rfl dX9_run_235 rfl rfl (Nat.le_of_ble_eq_true rfl) (Nat.le_of_ble_eq_true rfl) (d' := 0) (by omega) (isT.o hv0) ⟨by decide, rfl⟩ (EW_mono (fun _ _ hr => ?_) (sX9_pop v0 hv0 x5 _ _ 0 0 (Nat.le_refl _) h))
      obtain ⟨r7, x8, rfl, rfl, h⟩ := hr
      refine EW_iload (pc2 := 240) rfl dX9_run_238 4 rfl ?_
      refine AW_invS (M' := MX9_joined) [.int ((x5.1 (v0 + 1) (Int32.toNatClampNeg v2)) >>> (16 &&& 31)), .int r7, .int r4] (rest := [.ref v0]) mlRX9_80 okX9_joined (pc2 := 243) rfl dX9_run_240 rfl rfl (Nat.le_of_ble_eq_true rfl) (Nat.le_of_ble_eq_true rfl) (d' := 0) (by omega) (EW_mono (fun _ _ hr => ?_) (sX9_joined ((x5.1 (v0 + 1) (Int32.toNatClampNeg v2)) >>> (16 &&& 31)) r7 r4  x8 _ _ 0 0 (Nat.le_refl _) h))
      obtain ⟨r9, rfl, rfl, h⟩ := hr
      refine AW_invS (M' := MX9_bounded) [.long r9] (rest := [.ref v0]) mlRX9_84 okX9_bounded (pc2 := 246) rfl dX9_run_243 rfl rfl (Nat.le_of_ble_eq_true rfl) (Nat.le_of_ble_eq_true rfl) (d' := 1) (by omega) (EW_mono (fun _ _ hr => ?_) (sX9_bounded r9  x8 _ _ 0 0 (Nat.le_refl _) h))
      obtain ⟨r10, rfl, rfl, h⟩ := hr
      refine AW_invV (M' := MX9_push) [.int r10] (rest := []) mlRX9_57 okX9_push (pc2 := 249) rfl dX9_run_246 rfl rfl (Nat.le_of_ble_eq_true rfl) (Nat.le_of_ble_eq_true rfl) (d' := 0) (by omega) (isT.o hv0) ⟨by decide, rfl⟩ (EW_mono (fun _ _ hr => ?_) (sX9_push v0 r10 hv0 x8 _ _ 0 0 (Nat.le_refl _) h))
      obtain ⟨x11, rfl, rfl, h⟩ := hr
      refine EW_iinc (v2 + 1) (pc2 := 252) rfl dX9_run_249 2 rfl rfl (by decide) [1, 2, 0, 3, 4] [(0, .ref v0), (1, .ref v1), (2, .int (v2 + 1)), (3, .int ((x.1 (v0 + 1) (Int32.toNatClampNeg v2)) &&& 65535)), (4, .int r4)] rfl ?_
      refine EW_goto (tgt := 35) dX9_run_252 (by decide) ?_
      refine EW_ls [0, 1, 2] rfl ?_
      exact hL35 (v2 + 1) x11 h
    · obtain ⟨kk, hkk, qk⟩ := sw_in 0 13 (by decide) qo
      match kk, hkk, qk with
      | 0, _, qk =>
        replace h := h.2.1 qk
        refine EW_tabIn (off := 70) (tgt := 132) dX9_run_62 (by rw [qk]; decide) (by rw [qk]; decide) (by rw [qk]; decide) (by decide) ?_
        refine EW_aload_n (pc2 := 133) rfl dX9_run_132 0 rfl ?_
        refine EW_iload_n (pc2 := 134) rfl dX9_run_133 3 rfl ?_
        refine AW_invV (M' := MX9_push) [.int ((x.1 (v0 + 1) (Int32.toNatClampNeg v2)) &&& 65535)] (rest := []) mlRX9_57 okX9_push (pc2 := 137) rfl dX9_run_134 rfl rfl (Nat.le_of_ble_eq_true rfl) (Nat.le_of_ble_eq_true rfl) (d' := 0) (by omega) (isT.o hv0) ⟨by decide, rfl⟩ (EW_mono (fun _ _ hr => ?_) (sX9_push v0 ((x.1 (v0 + 1) (Int32.toNatClampNeg v2)) &&& 65535) hv0 x _ _ 0 0 (Nat.le_refl _) h))
        obtain ⟨x12, rfl, rfl, h⟩ := hr
        refine EW_goto (tgt := 249) dX9_run_137 (by decide) ?_
        refine EW_iinc (v2 + 1) (pc2 := 252) rfl dX9_run_249 2 rfl rfl (by decide) [1, 2, 0, 3] [(0, .ref v0), (1, .ref v1), (2, .int (v2 + 1)), (3, .int ((x.1 (v0 + 1) (Int32.toNatClampNeg v2)) &&& 65535))] rfl ?_
        refine EW_goto (tgt := 35) dX9_run_252 (by decide) ?_
        refine EW_ls [0, 1, 2] rfl ?_
        exact hL35 (v2 + 1) x12 h
      | 1, _, qk =>
        replace h := h.2.2.1 qk
        refine EW_tabIn (off := 78) (tgt := 140) dX9_run_62 (by rw [qk]; decide) (by rw [qk]; decide) (by rw [qk]; decide) (by decide) ?_
        refine EW_aload_n (pc2 := 141) rfl dX9_run_140 0 rfl ?_
        refine EW_iload_n (pc2 := 142) rfl dX9_run_141 3 rfl ?_
        refine EW_aload_n (pc2 := 143) rfl dX9_run_142 1 rfl ?_
        refine AW_alen (t := 0) (by decide) (pc2 := 144) rfl dX9_run_143 (isLA.a hv1) (v := 11) rfl ?_
        refine AW_invSN (M' := MX11_below) [.int ((x.1 (v0 + 1) (Int32.toNatClampNeg v2)) &&& 65535), .int 11] (rest := [.ref v0]) mlRX9_61 okX11_below (pc2 := 147) rfl dX9_run_144 rfl rfl (Nat.le_of_ble_eq_true rfl) (Nat.le_of_ble_eq_true rfl) (d' := 0) (by omega) (EW_mono (fun _ _ hr => ?_) (sX11_below ((x.1 (v0 + 1) (Int32.toNatClampNeg v2)) &&& 65535) 11  x _ _ 0 0 (Nat.le_refl _) h))
        obtain ⟨r13, rfl, rfl, h⟩ := hr
        refine EW_if_eq (tgt := 156) (pc2 := 150) rfl dX9_run_147 (by decide) (fun q => ?_) (fun q => ?_)
        · replace h := h.1 q
          refine EW_iconst (pc2 := 157) (v := 0) rfl dX9_run_156 (by decide) ?_
          refine EW_ls [0, 1, 2] rfl ?_
          exact sX9_run_157 v0 v1 v2 v0 0 hv0 hv1 hv0 x K L35 d bc bs hdp hL35 h
        · replace h := h.2 q
          refine EW_aload_n (pc2 := 151) rfl dX9_run_150 1 rfl ?_
          refine EW_iload_n (pc2 := 152) rfl dX9_run_151 3 rfl ?_
          obtain ⟨b14, h⟩ := h
          refine AW_iald (pc2 := 153) rfl dX9_run_152 (isLA.a hv1) b14 ?_
          refine EW_goto (tgt := 157) dX9_run_153 (by decide) ?_
          refine EW_ls [0, 1, 2] rfl ?_
          exact sX9_run_157 v0 v1 v2 v0 (x.1 v1 (Int32.toNatClampNeg ((x.1 (v0 + 1) (Int32.toNatClampNeg v2)) &&& 65535))) hv0 hv1 hv0 x K L35 d bc bs hdp hL35 h
      | 2, _, qk =>
        replace h := h.2.2.2.1 qk
        refine EW_tabIn (off := 156) (tgt := 218) dX9_run_62 (by rw [qk]; decide) (by rw [qk]; decide) (by rw [qk]; decide) (by decide) ?_
        refine EW_aload_n (pc2 := 219) rfl dX9_run_218 0 rfl ?_
        refine AW_invV (M' := MX9_pop) [] (rest := []) mlRX9_65 okX9_pop (pc2 := 222) rfl dX9_run_219 rfl rfl (Nat.le_of_ble_eq_true rfl) (Nat.le_of_ble_eq_true rfl) (d' := 0) (by omega) (isT.o hv0) ⟨by decide, rfl⟩ (EW_mono (fun _ _ hr => ?_) (sX9_pop v0 hv0 x _ _ 0 0 (Nat.le_refl _) h))
        obtain ⟨r15, x16, rfl, rfl, h⟩ := hr
        refine EW_istore (pc2 := 224) rfl dX9_run_222 (by decide) [1, 2, 3, 4, 0] [(0, .ref v0), (1, .ref v1), (2, .int v2), (3, .int ((x.1 (v0 + 1) (Int32.toNatClampNeg v2)) &&& 65535)), (4, .int r15)] rfl ?_
        refine EW_aload_n (pc2 := 225) rfl dX9_run_224 0 rfl ?_
        refine EW_aload_n (pc2 := 226) rfl dX9_run_225 0 rfl ?_
        refine AW_getr (r := (v0 + 1)) ⟨gfRX9_9, rfl⟩ (pc2 := 229) rfl dX9_run_226 (isT.o hv0) (isT.r0 hv0) ?_
        refine EW_iload_n (pc2 := 230) rfl dX9_run_229 2 rfl ?_
        obtain ⟨b17, h⟩ := h
        refine AW_iald (pc2 := 231) rfl dX9_run_230 (isT.a0 hv0) b17 ?_
        refine EW_bipush (pc2 := 233) (v := 16) rfl dX9_run_231 (by decide) ?_
        refine EW_ishr (pc2 := 234) rfl dX9_run_233 ?_
        refine EW_aload_n (pc2 := 235) rfl dX9_run_234 0 rfl ?_
        refine AW_invV (M' := MX9_pop) [] (rest := [.int ((x16.1 (v0 + 1) (Int32.toNatClampNeg v2)) >>> (16 &&& 31)), .ref v0]) mlRX9_65 okX9_pop (pc2 := 238) rfl dX9_run_235 rfl rfl (Nat.le_of_ble_eq_true rfl) (Nat.le_of_ble_eq_true rfl) (d' := 0) (by omega) (isT.o hv0) ⟨by decide, rfl⟩ (EW_mono (fun _ _ hr => ?_) (sX9_pop v0 hv0 x16 _ _ 0 0 (Nat.le_refl _) h))
        obtain ⟨r18, x19, rfl, rfl, h⟩ := hr
        refine EW_iload (pc2 := 240) rfl dX9_run_238 4 rfl ?_
        refine AW_invS (M' := MX9_joined) [.int ((x16.1 (v0 + 1) (Int32.toNatClampNeg v2)) >>> (16 &&& 31)), .int r18, .int r15] (rest := [.ref v0]) mlRX9_80 okX9_joined (pc2 := 243) rfl dX9_run_240 rfl rfl (Nat.le_of_ble_eq_true rfl) (Nat.le_of_ble_eq_true rfl) (d' := 0) (by omega) (EW_mono (fun _ _ hr => ?_) (sX9_joined ((x16.1 (v0 + 1) (Int32.toNatClampNeg v2)) >>> (16 &&& 31)) r18 r15  x19 _ _ 0 0 (Nat.le_refl _) h))
        obtain ⟨r20, rfl, rfl, h⟩ := hr
        refine AW_invS (M' := MX9_bounded) [.long r20] (rest := [.ref v0]) mlRX9_84 okX9_bounded (pc2 := 246) rfl dX9_run_243 rfl rfl (Nat.le_of_ble_eq_true rfl) (Nat.le_of_ble_eq_true rfl) (d' := 1) (by omega) (EW_mono (fun _ _ hr => ?_) (sX9_bounded r20  x19 _ _ 0 0 (Nat.le_refl _) h))
        obtain ⟨r21, rfl, rfl, h⟩ := hr
        refine AW_invV (M' := MX9_push) [.int r21] (rest := []) mlRX9_57 okX9_push (pc2 := 249) rfl dX9_run_246 rfl rfl (Nat.le_of_ble_eq_true rfl) (Nat.le_of_ble_eq_true rfl) (d' := 0) (by omega) (isT.o hv0) ⟨by decide, rfl⟩ (EW_mono (fun _ _ hr => ?_) (sX9_push v0 r21 hv0 x19 _ _ 0 0 (Nat.le_refl _) h))
        obtain ⟨x22, rfl, rfl, h⟩ := hr
        refine EW_iinc (v2 + 1) (pc2 := 252) rfl dX9_run_249 2 rfl rfl (by decide) [1, 2, 0, 3, 4] [(0, .ref v0), (1, .ref v1), (2, .int (v2 + 1)), (3, .int ((x.1 (v0 + 1) (Int32.toNatClampNeg v2)) &&& 65535)), (4, .int r15)] rfl ?_
        refine EW_goto (tgt := 35) dX9_run_252 (by decide) ?_
        refine EW_ls [0, 1, 2] rfl ?_
        exact hL35 (v2 + 1) x22 h
      | 3, _, qk =>
        replace h := h.2.2.2.2.1 qk
        refine EW_tabIn (off := 156) (tgt := 218) dX9_run_62 (by rw [qk]; decide) (by rw [qk]; decide) (by rw [qk]; decide) (by decide) ?_
        refine EW_aload_n (pc2 := 219) rfl dX9_run_218 0 rfl ?_
        refine AW_invV (M' := MX9_pop) [] (rest := []) mlRX9_65 okX9_pop (pc2 := 222) rfl dX9_run_219 rfl rfl (Nat.le_of_ble_eq_true rfl) (Nat.le_of_ble_eq_true rfl) (d' := 0) (by omega) (isT.o hv0) ⟨by decide, rfl⟩ (EW_mono (fun _ _ hr => ?_) (sX9_pop v0 hv0 x _ _ 0 0 (Nat.le_refl _) h))
        obtain ⟨r23, x24, rfl, rfl, h⟩ := hr
        refine EW_istore (pc2 := 224) rfl dX9_run_222 (by decide) [1, 2, 3, 4, 0] [(0, .ref v0), (1, .ref v1), (2, .int v2), (3, .int ((x.1 (v0 + 1) (Int32.toNatClampNeg v2)) &&& 65535)), (4, .int r23)] rfl ?_
        refine EW_aload_n (pc2 := 225) rfl dX9_run_224 0 rfl ?_
        refine EW_aload_n (pc2 := 226) rfl dX9_run_225 0 rfl ?_
        refine AW_getr (r := (v0 + 1)) ⟨gfRX9_9, rfl⟩ (pc2 := 229) rfl dX9_run_226 (isT.o hv0) (isT.r0 hv0) ?_
        refine EW_iload_n (pc2 := 230) rfl dX9_run_229 2 rfl ?_
        obtain ⟨b25, h⟩ := h
        refine AW_iald (pc2 := 231) rfl dX9_run_230 (isT.a0 hv0) b25 ?_
        refine EW_bipush (pc2 := 233) (v := 16) rfl dX9_run_231 (by decide) ?_
        refine EW_ishr (pc2 := 234) rfl dX9_run_233 ?_
        refine EW_aload_n (pc2 := 235) rfl dX9_run_234 0 rfl ?_
        refine AW_invV (M' := MX9_pop) [] (rest := [.int ((x24.1 (v0 + 1) (Int32.toNatClampNeg v2)) >>> (16 &&& 31)), .ref v0]) mlRX9_65 okX9_pop (pc2 := 238) rfl dX9_run_235 rfl rfl (Nat.le_of_ble_eq_true rfl) (Nat.le_of_ble_eq_true rfl) (d' := 0) (by omega) (isT.o hv0) ⟨by decide, rfl⟩ (EW_mono (fun _ _ hr => ?_) (sX9_pop v0 hv0 x24 _ _ 0 0 (Nat.le_refl _) h))
        obtain ⟨r26, x27, rfl, rfl, h⟩ := hr
        refine EW_iload (pc2 := 240) rfl dX9_run_238 4 rfl ?_
        refine AW_invS (M' := MX9_joined) [.int ((x24.1 (v0 + 1) (Int32.toNatClampNeg v2)) >>> (16 &&& 31)), .int r26, .int r23] (rest := [.ref v0]) mlRX9_80 okX9_joined (pc2 := 243) rfl dX9_run_240 rfl rfl (Nat.le_of_ble_eq_true rfl) (Nat.le_of_ble_eq_true rfl) (d' := 0) (by omega) (EW_mono (fun _ _ hr => ?_) (sX9_joined ((x24.1 (v0 + 1) (Int32.toNatClampNeg v2)) >>> (16 &&& 31)) r26 r23  x27 _ _ 0 0 (Nat.le_refl _) h))
        obtain ⟨r28, rfl, rfl, h⟩ := hr
        refine AW_invS (M' := MX9_bounded) [.long r28] (rest := [.ref v0]) mlRX9_84 okX9_bounded (pc2 := 246) rfl dX9_run_243 rfl rfl (Nat.le_of_ble_eq_true rfl) (Nat.le_of_ble_eq_true rfl) (d' := 1) (by omega) (EW_mono (fun _ _ hr => ?_) (sX9_bounded r28  x27 _ _ 0 0 (Nat.le_refl _) h))
        obtain ⟨r29, rfl, rfl, h⟩ := hr
        refine AW_invV (M' := MX9_push) [.int r29] (rest := []) mlRX9_57 okX9_push (pc2 := 249) rfl dX9_run_246 rfl rfl (Nat.le_of_ble_eq_true rfl) (Nat.le_of_ble_eq_true rfl) (d' := 0) (by omega) (isT.o hv0) ⟨by decide, rfl⟩ (EW_mono (fun _ _ hr => ?_) (sX9_push v0 r29 hv0 x27 _ _ 0 0 (Nat.le_refl _) h))
        obtain ⟨x30, rfl, rfl, h⟩ := hr
        refine EW_iinc (v2 + 1) (pc2 := 252) rfl dX9_run_249 2 rfl rfl (by decide) [1, 2, 0, 3, 4] [(0, .ref v0), (1, .ref v1), (2, .int (v2 + 1)), (3, .int ((x.1 (v0 + 1) (Int32.toNatClampNeg v2)) &&& 65535)), (4, .int r23)] rfl ?_
        refine EW_goto (tgt := 35) dX9_run_252 (by decide) ?_
        refine EW_ls [0, 1, 2] rfl ?_
        exact hL35 (v2 + 1) x30 h
      | 4, _, qk =>
        replace h := h.2.2.2.2.2.1 qk
        refine EW_tabIn (off := 156) (tgt := 218) dX9_run_62 (by rw [qk]; decide) (by rw [qk]; decide) (by rw [qk]; decide) (by decide) ?_
        refine EW_aload_n (pc2 := 219) rfl dX9_run_218 0 rfl ?_
        refine AW_invV (M' := MX9_pop) [] (rest := []) mlRX9_65 okX9_pop (pc2 := 222) rfl dX9_run_219 rfl rfl (Nat.le_of_ble_eq_true rfl) (Nat.le_of_ble_eq_true rfl) (d' := 0) (by omega) (isT.o hv0) ⟨by decide, rfl⟩ (EW_mono (fun _ _ hr => ?_) (sX9_pop v0 hv0 x _ _ 0 0 (Nat.le_refl _) h))
        obtain ⟨r31, x32, rfl, rfl, h⟩ := hr
        refine EW_istore (pc2 := 224) rfl dX9_run_222 (by decide) [1, 2, 3, 4, 0] [(0, .ref v0), (1, .ref v1), (2, .int v2), (3, .int ((x.1 (v0 + 1) (Int32.toNatClampNeg v2)) &&& 65535)), (4, .int r31)] rfl ?_
        refine EW_aload_n (pc2 := 225) rfl dX9_run_224 0 rfl ?_
        refine EW_aload_n (pc2 := 226) rfl dX9_run_225 0 rfl ?_
        refine AW_getr (r := (v0 + 1)) ⟨gfRX9_9, rfl⟩ (pc2 := 229) rfl dX9_run_226 (isT.o hv0) (isT.r0 hv0) ?_
        refine EW_iload_n (pc2 := 230) rfl dX9_run_229 2 rfl ?_
        obtain ⟨b33, h⟩ := h
        refine AW_iald (pc2 := 231) rfl dX9_run_230 (isT.a0 hv0) b33 ?_
        refine EW_bipush (pc2 := 233) (v := 16) rfl dX9_run_231 (by decide) ?_
        refine EW_ishr (pc2 := 234) rfl dX9_run_233 ?_
        refine EW_aload_n (pc2 := 235) rfl dX9_run_234 0 rfl ?_
        refine AW_invV (M' := MX9_pop) [] (rest := [.int ((x32.1 (v0 + 1) (Int32.toNatClampNeg v2)) >>> (16 &&& 31)), .ref v0]) mlRX9_65 okX9_pop (pc2 := 238) rfl dX9_run_235 rfl rfl (Nat.le_of_ble_eq_true rfl) (Nat.le_of_ble_eq_true rfl) (d' := 0) (by omega) (isT.o hv0) ⟨by decide, rfl⟩ (EW_mono (fun _ _ hr => ?_) (sX9_pop v0 hv0 x32 _ _ 0 0 (Nat.le_refl _) h))
        obtain ⟨r34, x35, rfl, rfl, h⟩ := hr
        refine EW_iload (pc2 := 240) rfl dX9_run_238 4 rfl ?_
        refine AW_invS (M' := MX9_joined) [.int ((x32.1 (v0 + 1) (Int32.toNatClampNeg v2)) >>> (16 &&& 31)), .int r34, .int r31] (rest := [.ref v0]) mlRX9_80 okX9_joined (pc2 := 243) rfl dX9_run_240 rfl rfl (Nat.le_of_ble_eq_true rfl) (Nat.le_of_ble_eq_true rfl) (d' := 0) (by omega) (EW_mono (fun _ _ hr => ?_) (sX9_joined ((x32.1 (v0 + 1) (Int32.toNatClampNeg v2)) >>> (16 &&& 31)) r34 r31  x35 _ _ 0 0 (Nat.le_refl _) h))
        obtain ⟨r36, rfl, rfl, h⟩ := hr
        refine AW_invS (M' := MX9_bounded) [.long r36] (rest := [.ref v0]) mlRX9_84 okX9_bounded (pc2 := 246) rfl dX9_run_243 rfl rfl (Nat.le_of_ble_eq_true rfl) (Nat.le_of_ble_eq_true rfl) (d' := 1) (by omega) (EW_mono (fun _ _ hr => ?_) (sX9_bounded r36  x35 _ _ 0 0 (Nat.le_refl _) h))
        obtain ⟨r37, rfl, rfl, h⟩ := hr
        refine AW_invV (M' := MX9_push) [.int r37] (rest := []) mlRX9_57 okX9_push (pc2 := 249) rfl dX9_run_246 rfl rfl (Nat.le_of_ble_eq_true rfl) (Nat.le_of_ble_eq_true rfl) (d' := 0) (by omega) (isT.o hv0) ⟨by decide, rfl⟩ (EW_mono (fun _ _ hr => ?_) (sX9_push v0 r37 hv0 x35 _ _ 0 0 (Nat.le_refl _) h))
        obtain ⟨x38, rfl, rfl, h⟩ := hr
        refine EW_iinc (v2 + 1) (pc2 := 252) rfl dX9_run_249 2 rfl rfl (by decide) [1, 2, 0, 3, 4] [(0, .ref v0), (1, .ref v1), (2, .int (v2 + 1)), (3, .int ((x.1 (v0 + 1) (Int32.toNatClampNeg v2)) &&& 65535)), (4, .int r31)] rfl ?_
        refine EW_goto (tgt := 35) dX9_run_252 (by decide) ?_
        refine EW_ls [0, 1, 2] rfl ?_
        exact hL35 (v2 + 1) x38 h
      | 5, _, qk =>
        replace h := h.2.2.2.2.2.2.1 qk
        refine EW_tabIn (off := 156) (tgt := 218) dX9_run_62 (by rw [qk]; decide) (by rw [qk]; decide) (by rw [qk]; decide) (by decide) ?_
        refine EW_aload_n (pc2 := 219) rfl dX9_run_218 0 rfl ?_
        refine AW_invV (M' := MX9_pop) [] (rest := []) mlRX9_65 okX9_pop (pc2 := 222) rfl dX9_run_219 rfl rfl (Nat.le_of_ble_eq_true rfl) (Nat.le_of_ble_eq_true rfl) (d' := 0) (by omega) (isT.o hv0) ⟨by decide, rfl⟩ (EW_mono (fun _ _ hr => ?_) (sX9_pop v0 hv0 x _ _ 0 0 (Nat.le_refl _) h))
        obtain ⟨r39, x40, rfl, rfl, h⟩ := hr
        refine EW_istore (pc2 := 224) rfl dX9_run_222 (by decide) [1, 2, 3, 4, 0] [(0, .ref v0), (1, .ref v1), (2, .int v2), (3, .int ((x.1 (v0 + 1) (Int32.toNatClampNeg v2)) &&& 65535)), (4, .int r39)] rfl ?_
        refine EW_aload_n (pc2 := 225) rfl dX9_run_224 0 rfl ?_
        refine EW_aload_n (pc2 := 226) rfl dX9_run_225 0 rfl ?_
        refine AW_getr (r := (v0 + 1)) ⟨gfRX9_9, rfl⟩ (pc2 := 229) rfl dX9_run_226 (isT.o hv0) (isT.r0 hv0) ?_
        refine EW_iload_n (pc2 := 230) rfl dX9_run_229 2 rfl ?_
        obtain ⟨b41, h⟩ := h
        refine AW_iald (pc2 := 231) rfl dX9_run_230 (isT.a0 hv0) b41 ?_
        refine EW_bipush (pc2 := 233) (v := 16) rfl dX9_run_231 (by decide) ?_
        refine EW_ishr (pc2 := 234) rfl dX9_run_233 ?_
        refine EW_aload_n (pc2 := 235) rfl dX9_run_234 0 rfl ?_
        refine AW_invV (M' := MX9_pop) [] (rest := [.int ((x40.1 (v0 + 1) (Int32.toNatClampNeg v2)) >>> (16 &&& 31)), .ref v0]) mlRX9_65 okX9_pop (pc2 := 238) rfl dX9_run_235 rfl rfl (Nat.le_of_ble_eq_true rfl) (Nat.le_of_ble_eq_true rfl) (d' := 0) (by omega) (isT.o hv0) ⟨by decide, rfl⟩ (EW_mono (fun _ _ hr => ?_) (sX9_pop v0 hv0 x40 _ _ 0 0 (Nat.le_refl _) h))
        obtain ⟨r42, x43, rfl, rfl, h⟩ := hr
        refine EW_iload (pc2 := 240) rfl dX9_run_238 4 rfl ?_
        refine AW_invS (M' := MX9_joined) [.int ((x40.1 (v0 + 1) (Int32.toNatClampNeg v2)) >>> (16 &&& 31)), .int r42, .int r39] (rest := [.ref v0]) mlRX9_80 okX9_joined (pc2 := 243) rfl dX9_run_240 rfl rfl (Nat.le_of_ble_eq_true rfl) (Nat.le_of_ble_eq_true rfl) (d' := 0) (by omega) (EW_mono (fun _ _ hr => ?_) (sX9_joined ((x40.1 (v0 + 1) (Int32.toNatClampNeg v2)) >>> (16 &&& 31)) r42 r39  x43 _ _ 0 0 (Nat.le_refl _) h))
        obtain ⟨r44, rfl, rfl, h⟩ := hr
        refine AW_invS (M' := MX9_bounded) [.long r44] (rest := [.ref v0]) mlRX9_84 okX9_bounded (pc2 := 246) rfl dX9_run_243 rfl rfl (Nat.le_of_ble_eq_true rfl) (Nat.le_of_ble_eq_true rfl) (d' := 1) (by omega) (EW_mono (fun _ _ hr => ?_) (sX9_bounded r44  x43 _ _ 0 0 (Nat.le_refl _) h))
        obtain ⟨r45, rfl, rfl, h⟩ := hr
        refine AW_invV (M' := MX9_push) [.int r45] (rest := []) mlRX9_57 okX9_push (pc2 := 249) rfl dX9_run_246 rfl rfl (Nat.le_of_ble_eq_true rfl) (Nat.le_of_ble_eq_true rfl) (d' := 0) (by omega) (isT.o hv0) ⟨by decide, rfl⟩ (EW_mono (fun _ _ hr => ?_) (sX9_push v0 r45 hv0 x43 _ _ 0 0 (Nat.le_refl _) h))
        obtain ⟨x46, rfl, rfl, h⟩ := hr
        refine EW_iinc (v2 + 1) (pc2 := 252) rfl dX9_run_249 2 rfl rfl (by decide) [1, 2, 0, 3, 4] [(0, .ref v0), (1, .ref v1), (2, .int (v2 + 1)), (3, .int ((x.1 (v0 + 1) (Int32.toNatClampNeg v2)) &&& 65535)), (4, .int r39)] rfl ?_
        refine EW_goto (tgt := 35) dX9_run_252 (by decide) ?_
        refine EW_ls [0, 1, 2] rfl ?_
        exact hL35 (v2 + 1) x46 h
      | 6, _, qk =>
        replace h := h.2.2.2.2.2.2.2.1 qk
        refine EW_tabIn (off := 156) (tgt := 218) dX9_run_62 (by rw [qk]; decide) (by rw [qk]; decide) (by rw [qk]; decide) (by decide) ?_
        refine EW_aload_n (pc2 := 219) rfl dX9_run_218 0 rfl ?_
        refine AW_invV (M' := MX9_pop) [] (rest := []) mlRX9_65 okX9_pop (pc2 := 222) rfl dX9_run_219 rfl rfl (Nat.le_of_ble_eq_true rfl) (Nat.le_of_ble_eq_true rfl) (d' := 0) (by omega) (isT.o hv0) ⟨by decide, rfl⟩ (EW_mono (fun _ _ hr => ?_) (sX9_pop v0 hv0 x _ _ 0 0 (Nat.le_refl _) h))
        obtain ⟨r47, x48, rfl, rfl, h⟩ := hr
        refine EW_istore (pc2 := 224) rfl dX9_run_222 (by decide) [1, 2, 3, 4, 0] [(0, .ref v0), (1, .ref v1), (2, .int v2), (3, .int ((x.1 (v0 + 1) (Int32.toNatClampNeg v2)) &&& 65535)), (4, .int r47)] rfl ?_
        refine EW_aload_n (pc2 := 225) rfl dX9_run_224 0 rfl ?_
        refine EW_aload_n (pc2 := 226) rfl dX9_run_225 0 rfl ?_
        refine AW_getr (r := (v0 + 1)) ⟨gfRX9_9, rfl⟩ (pc2 := 229) rfl dX9_run_226 (isT.o hv0) (isT.r0 hv0) ?_
        refine EW_iload_n (pc2 := 230) rfl dX9_run_229 2 rfl ?_
        obtain ⟨b49, h⟩ := h
        refine AW_iald (pc2 := 231) rfl dX9_run_230 (isT.a0 hv0) b49 ?_
        refine EW_bipush (pc2 := 233) (v := 16) rfl dX9_run_231 (by decide) ?_
        refine EW_ishr (pc2 := 234) rfl dX9_run_233 ?_
        refine EW_aload_n (pc2 := 235) rfl dX9_run_234 0 rfl ?_
        refine AW_invV (M' := MX9_pop) [] (rest := [.int ((x48.1 (v0 + 1) (Int32.toNatClampNeg v2)) >>> (16 &&& 31)), .ref v0]) mlRX9_65 okX9_pop (pc2 := 238) rfl dX9_run_235 rfl rfl (Nat.le_of_ble_eq_true rfl) (Nat.le_of_ble_eq_true rfl) (d' := 0) (by omega) (isT.o hv0) ⟨by decide, rfl⟩ (EW_mono (fun _ _ hr => ?_) (sX9_pop v0 hv0 x48 _ _ 0 0 (Nat.le_refl _) h))
        obtain ⟨r50, x51, rfl, rfl, h⟩ := hr
        refine EW_iload (pc2 := 240) rfl dX9_run_238 4 rfl ?_
        refine AW_invS (M' := MX9_joined) [.int ((x48.1 (v0 + 1) (Int32.toNatClampNeg v2)) >>> (16 &&& 31)), .int r50, .int r47] (rest := [.ref v0]) mlRX9_80 okX9_joined (pc2 := 243) rfl dX9_run_240 rfl rfl (Nat.le_of_ble_eq_true rfl) (Nat.le_of_ble_eq_true rfl) (d' := 0) (by omega) (EW_mono (fun _ _ hr => ?_) (sX9_joined ((x48.1 (v0 + 1) (Int32.toNatClampNeg v2)) >>> (16 &&& 31)) r50 r47  x51 _ _ 0 0 (Nat.le_refl _) h))
        obtain ⟨r52, rfl, rfl, h⟩ := hr
        refine AW_invS (M' := MX9_bounded) [.long r52] (rest := [.ref v0]) mlRX9_84 okX9_bounded (pc2 := 246) rfl dX9_run_243 rfl rfl (Nat.le_of_ble_eq_true rfl) (Nat.le_of_ble_eq_true rfl) (d' := 1) (by omega) (EW_mono (fun _ _ hr => ?_) (sX9_bounded r52  x51 _ _ 0 0 (Nat.le_refl _) h))
        obtain ⟨r53, rfl, rfl, h⟩ := hr
        refine AW_invV (M' := MX9_push) [.int r53] (rest := []) mlRX9_57 okX9_push (pc2 := 249) rfl dX9_run_246 rfl rfl (Nat.le_of_ble_eq_true rfl) (Nat.le_of_ble_eq_true rfl) (d' := 0) (by omega) (isT.o hv0) ⟨by decide, rfl⟩ (EW_mono (fun _ _ hr => ?_) (sX9_push v0 r53 hv0 x51 _ _ 0 0 (Nat.le_refl _) h))
        obtain ⟨x54, rfl, rfl, h⟩ := hr
        refine EW_iinc (v2 + 1) (pc2 := 252) rfl dX9_run_249 2 rfl rfl (by decide) [1, 2, 0, 3, 4] [(0, .ref v0), (1, .ref v1), (2, .int (v2 + 1)), (3, .int ((x.1 (v0 + 1) (Int32.toNatClampNeg v2)) &&& 65535)), (4, .int r47)] rfl ?_
        refine EW_goto (tgt := 35) dX9_run_252 (by decide) ?_
        refine EW_ls [0, 1, 2] rfl ?_
        exact hL35 (v2 + 1) x54 h
      | 7, _, qk =>
        replace h := h.2.2.2.2.2.2.2.2.1 qk
        refine EW_tabIn (off := 156) (tgt := 218) dX9_run_62 (by rw [qk]; decide) (by rw [qk]; decide) (by rw [qk]; decide) (by decide) ?_
        refine EW_aload_n (pc2 := 219) rfl dX9_run_218 0 rfl ?_
        refine AW_invV (M' := MX9_pop) [] (rest := []) mlRX9_65 okX9_pop (pc2 := 222) rfl dX9_run_219 rfl rfl (Nat.le_of_ble_eq_true rfl) (Nat.le_of_ble_eq_true rfl) (d' := 0) (by omega) (isT.o hv0) ⟨by decide, rfl⟩ (EW_mono (fun _ _ hr => ?_) (sX9_pop v0 hv0 x _ _ 0 0 (Nat.le_refl _) h))
        obtain ⟨r55, x56, rfl, rfl, h⟩ := hr
        refine EW_istore (pc2 := 224) rfl dX9_run_222 (by decide) [1, 2, 3, 4, 0] [(0, .ref v0), (1, .ref v1), (2, .int v2), (3, .int ((x.1 (v0 + 1) (Int32.toNatClampNeg v2)) &&& 65535)), (4, .int r55)] rfl ?_
        refine EW_aload_n (pc2 := 225) rfl dX9_run_224 0 rfl ?_
        refine EW_aload_n (pc2 := 226) rfl dX9_run_225 0 rfl ?_
        refine AW_getr (r := (v0 + 1)) ⟨gfRX9_9, rfl⟩ (pc2 := 229) rfl dX9_run_226 (isT.o hv0) (isT.r0 hv0) ?_
        refine EW_iload_n (pc2 := 230) rfl dX9_run_229 2 rfl ?_
        obtain ⟨b57, h⟩ := h
        refine AW_iald (pc2 := 231) rfl dX9_run_230 (isT.a0 hv0) b57 ?_
        refine EW_bipush (pc2 := 233) (v := 16) rfl dX9_run_231 (by decide) ?_
        refine EW_ishr (pc2 := 234) rfl dX9_run_233 ?_
        refine EW_aload_n (pc2 := 235) rfl dX9_run_234 0 rfl ?_
        refine AW_invV (M' := MX9_pop) [] (rest := [.int ((x56.1 (v0 + 1) (Int32.toNatClampNeg v2)) >>> (16 &&& 31)), .ref v0]) mlRX9_65 okX9_pop (pc2 := 238) rfl dX9_run_235 rfl rfl (Nat.le_of_ble_eq_true rfl) (Nat.le_of_ble_eq_true rfl) (d' := 0) (by omega) (isT.o hv0) ⟨by decide, rfl⟩ (EW_mono (fun _ _ hr => ?_) (sX9_pop v0 hv0 x56 _ _ 0 0 (Nat.le_refl _) h))
        obtain ⟨r58, x59, rfl, rfl, h⟩ := hr
        refine EW_iload (pc2 := 240) rfl dX9_run_238 4 rfl ?_
        refine AW_invS (M' := MX9_joined) [.int ((x56.1 (v0 + 1) (Int32.toNatClampNeg v2)) >>> (16 &&& 31)), .int r58, .int r55] (rest := [.ref v0]) mlRX9_80 okX9_joined (pc2 := 243) rfl dX9_run_240 rfl rfl (Nat.le_of_ble_eq_true rfl) (Nat.le_of_ble_eq_true rfl) (d' := 0) (by omega) (EW_mono (fun _ _ hr => ?_) (sX9_joined ((x56.1 (v0 + 1) (Int32.toNatClampNeg v2)) >>> (16 &&& 31)) r58 r55  x59 _ _ 0 0 (Nat.le_refl _) h))
        obtain ⟨r60, rfl, rfl, h⟩ := hr
        refine AW_invS (M' := MX9_bounded) [.long r60] (rest := [.ref v0]) mlRX9_84 okX9_bounded (pc2 := 246) rfl dX9_run_243 rfl rfl (Nat.le_of_ble_eq_true rfl) (Nat.le_of_ble_eq_true rfl) (d' := 1) (by omega) (EW_mono (fun _ _ hr => ?_) (sX9_bounded r60  x59 _ _ 0 0 (Nat.le_refl _) h))
        obtain ⟨r61, rfl, rfl, h⟩ := hr
        refine AW_invV (M' := MX9_push) [.int r61] (rest := []) mlRX9_57 okX9_push (pc2 := 249) rfl dX9_run_246 rfl rfl (Nat.le_of_ble_eq_true rfl) (Nat.le_of_ble_eq_true rfl) (d' := 0) (by omega) (isT.o hv0) ⟨by decide, rfl⟩ (EW_mono (fun _ _ hr => ?_) (sX9_push v0 r61 hv0 x59 _ _ 0 0 (Nat.le_refl _) h))
        obtain ⟨x62, rfl, rfl, h⟩ := hr
        refine EW_iinc (v2 + 1) (pc2 := 252) rfl dX9_run_249 2 rfl rfl (by decide) [1, 2, 0, 3, 4] [(0, .ref v0), (1, .ref v1), (2, .int (v2 + 1)), (3, .int ((x.1 (v0 + 1) (Int32.toNatClampNeg v2)) &&& 65535)), (4, .int r55)] rfl ?_
        refine EW_goto (tgt := 35) dX9_run_252 (by decide) ?_
        refine EW_ls [0, 1, 2] rfl ?_
        exact hL35 (v2 + 1) x62 h
      | 8, _, qk =>
        replace h := h.2.2.2.2.2.2.2.2.2.1 qk
        refine EW_tabIn (off := 101) (tgt := 163) dX9_run_62 (by rw [qk]; decide) (by rw [qk]; decide) (by rw [qk]; decide) (by decide) ?_
        refine EW_aload_n (pc2 := 164) rfl dX9_run_163 0 rfl ?_
        refine EW_iconst (pc2 := 165) (v := 1) rfl dX9_run_164 (by decide) ?_
        refine EW_aload_n (pc2 := 166) rfl dX9_run_165 0 rfl ?_
        refine AW_invV (M' := MX9_pop) [] (rest := [.int 1, .ref v0]) mlRX9_65 okX9_pop (pc2 := 169) rfl dX9_run_166 rfl rfl (Nat.le_of_ble_eq_true rfl) (Nat.le_of_ble_eq_true rfl) (d' := 0) (by omega) (isT.o hv0) ⟨by decide, rfl⟩ (EW_mono (fun _ _ hr => ?_) (sX9_pop v0 hv0 x _ _ 0 0 (Nat.le_refl _) h))
        obtain ⟨r63, x64, rfl, rfl, h⟩ := hr
        refine EW_isub (pc2 := 170) rfl dX9_run_169 ?_
        refine AW_invV (M' := MX9_push) [.int (1 - r63)] (rest := []) mlRX9_57 okX9_push (pc2 := 173) rfl dX9_run_170 rfl rfl (Nat.le_of_ble_eq_true rfl) (Nat.le_of_ble_eq_true rfl) (d' := 0) (by omega) (isT.o hv0) ⟨by decide, rfl⟩ (EW_mono (fun _ _ hr => ?_) (sX9_push v0 (1 - r63) hv0 x64 _ _ 0 0 (Nat.le_refl _) h))
        obtain ⟨x65, rfl, rfl, h⟩ := hr
        refine EW_goto (tgt := 249) dX9_run_173 (by decide) ?_
        refine EW_iinc (v2 + 1) (pc2 := 252) rfl dX9_run_249 2 rfl rfl (by decide) [1, 2, 0, 3] [(0, .ref v0), (1, .ref v1), (2, .int (v2 + 1)), (3, .int ((x.1 (v0 + 1) (Int32.toNatClampNeg v2)) &&& 65535))] rfl ?_
        refine EW_goto (tgt := 35) dX9_run_252 (by decide) ?_
        refine EW_ls [0, 1, 2] rfl ?_
        exact hL35 (v2 + 1) x65 h
      | 9, _, qk =>
        replace h := h.2.2.2.2.2.2.2.2.2.2.1 qk
        refine EW_tabIn (off := 156) (tgt := 218) dX9_run_62 (by rw [qk]; decide) (by rw [qk]; decide) (by rw [qk]; decide) (by decide) ?_
        refine EW_aload_n (pc2 := 219) rfl dX9_run_218 0 rfl ?_
        refine AW_invV (M' := MX9_pop) [] (rest := []) mlRX9_65 okX9_pop (pc2 := 222) rfl dX9_run_219 rfl rfl (Nat.le_of_ble_eq_true rfl) (Nat.le_of_ble_eq_true rfl) (d' := 0) (by omega) (isT.o hv0) ⟨by decide, rfl⟩ (EW_mono (fun _ _ hr => ?_) (sX9_pop v0 hv0 x _ _ 0 0 (Nat.le_refl _) h))
        obtain ⟨r66, x67, rfl, rfl, h⟩ := hr
        refine EW_istore (pc2 := 224) rfl dX9_run_222 (by decide) [1, 2, 3, 4, 0] [(0, .ref v0), (1, .ref v1), (2, .int v2), (3, .int ((x.1 (v0 + 1) (Int32.toNatClampNeg v2)) &&& 65535)), (4, .int r66)] rfl ?_
        refine EW_aload_n (pc2 := 225) rfl dX9_run_224 0 rfl ?_
        refine EW_aload_n (pc2 := 226) rfl dX9_run_225 0 rfl ?_
        refine AW_getr (r := (v0 + 1)) ⟨gfRX9_9, rfl⟩ (pc2 := 229) rfl dX9_run_226 (isT.o hv0) (isT.r0 hv0) ?_
        refine EW_iload_n (pc2 := 230) rfl dX9_run_229 2 rfl ?_
        obtain ⟨b68, h⟩ := h
        refine AW_iald (pc2 := 231) rfl dX9_run_230 (isT.a0 hv0) b68 ?_
        refine EW_bipush (pc2 := 233) (v := 16) rfl dX9_run_231 (by decide) ?_
        refine EW_ishr (pc2 := 234) rfl dX9_run_233 ?_
        refine EW_aload_n (pc2 := 235) rfl dX9_run_234 0 rfl ?_
        refine AW_invV (M' := MX9_pop) [] (rest := [.int ((x67.1 (v0 + 1) (Int32.toNatClampNeg v2)) >>> (16 &&& 31)), .ref v0]) mlRX9_65 okX9_pop (pc2 := 238) rfl dX9_run_235 rfl rfl (Nat.le_of_ble_eq_true rfl) (Nat.le_of_ble_eq_true rfl) (d' := 0) (by omega) (isT.o hv0) ⟨by decide, rfl⟩ (EW_mono (fun _ _ hr => ?_) (sX9_pop v0 hv0 x67 _ _ 0 0 (Nat.le_refl _) h))
        obtain ⟨r69, x70, rfl, rfl, h⟩ := hr
        refine EW_iload (pc2 := 240) rfl dX9_run_238 4 rfl ?_
        refine AW_invS (M' := MX9_joined) [.int ((x67.1 (v0 + 1) (Int32.toNatClampNeg v2)) >>> (16 &&& 31)), .int r69, .int r66] (rest := [.ref v0]) mlRX9_80 okX9_joined (pc2 := 243) rfl dX9_run_240 rfl rfl (Nat.le_of_ble_eq_true rfl) (Nat.le_of_ble_eq_true rfl) (d' := 0) (by omega) (EW_mono (fun _ _ hr => ?_) (sX9_joined ((x67.1 (v0 + 1) (Int32.toNatClampNeg v2)) >>> (16 &&& 31)) r69 r66  x70 _ _ 0 0 (Nat.le_refl _) h))
        obtain ⟨r71, rfl, rfl, h⟩ := hr
        refine AW_invS (M' := MX9_bounded) [.long r71] (rest := [.ref v0]) mlRX9_84 okX9_bounded (pc2 := 246) rfl dX9_run_243 rfl rfl (Nat.le_of_ble_eq_true rfl) (Nat.le_of_ble_eq_true rfl) (d' := 1) (by omega) (EW_mono (fun _ _ hr => ?_) (sX9_bounded r71  x70 _ _ 0 0 (Nat.le_refl _) h))
        obtain ⟨r72, rfl, rfl, h⟩ := hr
        refine AW_invV (M' := MX9_push) [.int r72] (rest := []) mlRX9_57 okX9_push (pc2 := 249) rfl dX9_run_246 rfl rfl (Nat.le_of_ble_eq_true rfl) (Nat.le_of_ble_eq_true rfl) (d' := 0) (by omega) (isT.o hv0) ⟨by decide, rfl⟩ (EW_mono (fun _ _ hr => ?_) (sX9_push v0 r72 hv0 x70 _ _ 0 0 (Nat.le_refl _) h))
        obtain ⟨x73, rfl, rfl, h⟩ := hr
        refine EW_iinc (v2 + 1) (pc2 := 252) rfl dX9_run_249 2 rfl rfl (by decide) [1, 2, 0, 3, 4] [(0, .ref v0), (1, .ref v1), (2, .int (v2 + 1)), (3, .int ((x.1 (v0 + 1) (Int32.toNatClampNeg v2)) &&& 65535)), (4, .int r66)] rfl ?_
        refine EW_goto (tgt := 35) dX9_run_252 (by decide) ?_
        refine EW_ls [0, 1, 2] rfl ?_
        exact hL35 (v2 + 1) x73 h
      | 10, _, qk =>
        replace h := h.2.2.2.2.2.2.2.2.2.2.2.1 qk
        refine EW_tabIn (off := 156) (tgt := 218) dX9_run_62 (by rw [qk]; decide) (by rw [qk]; decide) (by rw [qk]; decide) (by decide) ?_
        refine EW_aload_n (pc2 := 219) rfl dX9_run_218 0 rfl ?_
        refine AW_invV (M' := MX9_pop) [] (rest := []) mlRX9_65 okX9_pop (pc2 := 222) rfl dX9_run_219 rfl rfl (Nat.le_of_ble_eq_true rfl) (Nat.le_of_ble_eq_true rfl) (d' := 0) (by omega) (isT.o hv0) ⟨by decide, rfl⟩ (EW_mono (fun _ _ hr => ?_) (sX9_pop v0 hv0 x _ _ 0 0 (Nat.le_refl _) h))
        obtain ⟨r74, x75, rfl, rfl, h⟩ := hr
        refine EW_istore (pc2 := 224) rfl dX9_run_222 (by decide) [1, 2, 3, 4, 0] [(0, .ref v0), (1, .ref v1), (2, .int v2), (3, .int ((x.1 (v0 + 1) (Int32.toNatClampNeg v2)) &&& 65535)), (4, .int r74)] rfl ?_
        refine EW_aload_n (pc2 := 225) rfl dX9_run_224 0 rfl ?_
        refine EW_aload_n (pc2 := 226) rfl dX9_run_225 0 rfl ?_
        refine AW_getr (r := (v0 + 1)) ⟨gfRX9_9, rfl⟩ (pc2 := 229) rfl dX9_run_226 (isT.o hv0) (isT.r0 hv0) ?_
        refine EW_iload_n (pc2 := 230) rfl dX9_run_229 2 rfl ?_
        obtain ⟨b76, h⟩ := h
        refine AW_iald (pc2 := 231) rfl dX9_run_230 (isT.a0 hv0) b76 ?_
        refine EW_bipush (pc2 := 233) (v := 16) rfl dX9_run_231 (by decide) ?_
        refine EW_ishr (pc2 := 234) rfl dX9_run_233 ?_
        refine EW_aload_n (pc2 := 235) rfl dX9_run_234 0 rfl ?_
        refine AW_invV (M' := MX9_pop) [] (rest := [.int ((x75.1 (v0 + 1) (Int32.toNatClampNeg v2)) >>> (16 &&& 31)), .ref v0]) mlRX9_65 okX9_pop (pc2 := 238) rfl dX9_run_235 rfl rfl (Nat.le_of_ble_eq_true rfl) (Nat.le_of_ble_eq_true rfl) (d' := 0) (by omega) (isT.o hv0) ⟨by decide, rfl⟩ (EW_mono (fun _ _ hr => ?_) (sX9_pop v0 hv0 x75 _ _ 0 0 (Nat.le_refl _) h))
        obtain ⟨r77, x78, rfl, rfl, h⟩ := hr
        refine EW_iload (pc2 := 240) rfl dX9_run_238 4 rfl ?_
        refine AW_invS (M' := MX9_joined) [.int ((x75.1 (v0 + 1) (Int32.toNatClampNeg v2)) >>> (16 &&& 31)), .int r77, .int r74] (rest := [.ref v0]) mlRX9_80 okX9_joined (pc2 := 243) rfl dX9_run_240 rfl rfl (Nat.le_of_ble_eq_true rfl) (Nat.le_of_ble_eq_true rfl) (d' := 0) (by omega) (EW_mono (fun _ _ hr => ?_) (sX9_joined ((x75.1 (v0 + 1) (Int32.toNatClampNeg v2)) >>> (16 &&& 31)) r77 r74  x78 _ _ 0 0 (Nat.le_refl _) h))
        obtain ⟨r79, rfl, rfl, h⟩ := hr
        refine AW_invS (M' := MX9_bounded) [.long r79] (rest := [.ref v0]) mlRX9_84 okX9_bounded (pc2 := 246) rfl dX9_run_243 rfl rfl (Nat.le_of_ble_eq_true rfl) (Nat.le_of_ble_eq_true rfl) (d' := 1) (by omega) (EW_mono (fun _ _ hr => ?_) (sX9_bounded r79  x78 _ _ 0 0 (Nat.le_refl _) h))
        obtain ⟨r80, rfl, rfl, h⟩ := hr
        refine AW_invV (M' := MX9_push) [.int r80] (rest := []) mlRX9_57 okX9_push (pc2 := 249) rfl dX9_run_246 rfl rfl (Nat.le_of_ble_eq_true rfl) (Nat.le_of_ble_eq_true rfl) (d' := 0) (by omega) (isT.o hv0) ⟨by decide, rfl⟩ (EW_mono (fun _ _ hr => ?_) (sX9_push v0 r80 hv0 x78 _ _ 0 0 (Nat.le_refl _) h))
        obtain ⟨x81, rfl, rfl, h⟩ := hr
        refine EW_iinc (v2 + 1) (pc2 := 252) rfl dX9_run_249 2 rfl rfl (by decide) [1, 2, 0, 3, 4] [(0, .ref v0), (1, .ref v1), (2, .int (v2 + 1)), (3, .int ((x.1 (v0 + 1) (Int32.toNatClampNeg v2)) &&& 65535)), (4, .int r74)] rfl ?_
        refine EW_goto (tgt := 35) dX9_run_252 (by decide) ?_
        refine EW_ls [0, 1, 2] rfl ?_
        exact hL35 (v2 + 1) x81 h
      | 11, _, qk =>
        replace h := h.2.2.2.2.2.2.2.2.2.2.2.2.1 qk
        refine EW_tabIn (off := 114) (tgt := 176) dX9_run_62 (by rw [qk]; decide) (by rw [qk]; decide) (by rw [qk]; decide) (by decide) ?_
        refine EW_aload_n (pc2 := 177) rfl dX9_run_176 0 rfl ?_
        refine EW_aload_n (pc2 := 178) rfl dX9_run_177 0 rfl ?_
        refine AW_invV (M' := MX9_pop) [] (rest := [.ref v0]) mlRX9_65 okX9_pop (pc2 := 181) rfl dX9_run_178 rfl rfl (Nat.le_of_ble_eq_true rfl) (Nat.le_of_ble_eq_true rfl) (d' := 0) (by omega) (isT.o hv0) ⟨by decide, rfl⟩ (EW_mono (fun _ _ hr => ?_) (sX9_pop v0 hv0 x _ _ 0 0 (Nat.le_refl _) h))
        obtain ⟨r82, x83, rfl, rfl, h⟩ := hr
        refine EW_if_eq (tgt := 188) (pc2 := 184) rfl dX9_run_181 (by decide) (fun q => ?_) (fun q => ?_)
        · replace h := h.1 q
          refine EW_iconst (pc2 := 189) (v := 0) rfl dX9_run_188 (by decide) ?_
          refine EW_ls [0, 1, 2] rfl ?_
          exact sX9_run_189 v0 v1 v2 v0 0 hv0 hv1 hv0 x83 K L35 d bc bs hdp hL35 h
        · replace h := h.2 q
          refine EW_iconst (pc2 := 185) (v := 1) rfl dX9_run_184 (by decide) ?_
          refine EW_goto (tgt := 189) dX9_run_185 (by decide) ?_
          refine EW_ls [0, 1, 2] rfl ?_
          exact sX9_run_189 v0 v1 v2 v0 1 hv0 hv1 hv0 x83 K L35 d bc bs hdp hL35 h
      | 12, _, qk =>
        replace h := h.2.2.2.2.2.2.2.2.2.2.2.2.2.1 qk
        refine EW_tabIn (off := 133) (tgt := 195) dX9_run_62 (by rw [qk]; decide) (by rw [qk]; decide) (by rw [qk]; decide) (by decide) ?_
        refine EW_aload_n (pc2 := 196) rfl dX9_run_195 0 rfl ?_
        refine EW_iload_n (pc2 := 197) rfl dX9_run_196 3 rfl ?_
        refine EW_bipush (pc2 := 199) (v := 10) rfl dX9_run_197 (by decide) ?_
        refine EW_idiv (pc2 := 200) rfl dX9_run_199 (by decide) ?_
        refine EW_iload_n (pc2 := 201) rfl dX9_run_200 3 rfl ?_
        refine EW_bipush (pc2 := 203) (v := 10) rfl dX9_run_201 (by decide) ?_
        refine EW_irem (pc2 := 204) rfl dX9_run_203 (by decide) ?_
        refine AW_invV (M' := MX9_ask) [.int (((x.1 (v0 + 1) (Int32.toNatClampNeg v2)) &&& 65535) / 10), .int (((x.1 (v0 + 1) (Int32.toNatClampNeg v2)) &&& 65535) - ((x.1 (v0 + 1) (Int32.toNatClampNeg v2)) &&& 65535) / 10 * 10)] (rest := []) mlRX9_73 okX9_ask (pc2 := 207) rfl dX9_run_204 rfl rfl (Nat.le_of_ble_eq_true rfl) (Nat.le_of_ble_eq_true rfl) (d' := 1) (by omega) (isT.o hv0) ⟨by decide, rfl⟩ (EW_mono (fun _ _ hr => ?_) (sX9_ask v0 (((x.1 (v0 + 1) (Int32.toNatClampNeg v2)) &&& 65535) / 10) (((x.1 (v0 + 1) (Int32.toNatClampNeg v2)) &&& 65535) - ((x.1 (v0 + 1) (Int32.toNatClampNeg v2)) &&& 65535) / 10 * 10) hv0 x _ _ 0 0 (Nat.le_refl _) h))
        obtain ⟨x84, rfl, rfl, h⟩ := hr
        refine EW_goto (tgt := 249) dX9_run_207 (by decide) ?_
        refine EW_iinc (v2 + 1) (pc2 := 252) rfl dX9_run_249 2 rfl rfl (by decide) [1, 2, 0, 3] [(0, .ref v0), (1, .ref v1), (2, .int (v2 + 1)), (3, .int ((x.1 (v0 + 1) (Int32.toNatClampNeg v2)) &&& 65535))] rfl ?_
        refine EW_goto (tgt := 35) dX9_run_252 (by decide) ?_
        refine EW_ls [0, 1, 2] rfl ?_
        exact hL35 (v2 + 1) x84 h
      | 13, _, qk =>
        replace h := h.2.2.2.2.2.2.2.2.2.2.2.2.2.2 qk
        refine EW_tabIn (off := 148) (tgt := 210) dX9_run_62 (by rw [qk]; decide) (by rw [qk]; decide) (by rw [qk]; decide) (by decide) ?_
        refine EW_aload_n (pc2 := 211) rfl dX9_run_210 0 rfl ?_
        refine EW_iload_n (pc2 := 212) rfl dX9_run_211 3 rfl ?_
        refine AW_invV (M' := MX9_find) [.int ((x.1 (v0 + 1) (Int32.toNatClampNeg v2)) &&& 65535)] (rest := []) mlRX9_77 okX9_find (pc2 := 215) rfl dX9_run_212 rfl rfl (Nat.le_of_ble_eq_true rfl) (Nat.le_of_ble_eq_true rfl) (d' := 0) (by omega) (isT.o hv0) ⟨by decide, rfl⟩ (EW_mono (fun _ _ hr => ?_) (sX9_find v0 ((x.1 (v0 + 1) (Int32.toNatClampNeg v2)) &&& 65535) hv0 x _ _ 0 0 (Nat.le_refl _) h))
        obtain ⟨x85, rfl, rfl, h⟩ := hr
        refine EW_goto (tgt := 249) dX9_run_215 (by decide) ?_
        refine EW_iinc (v2 + 1) (pc2 := 252) rfl dX9_run_249 2 rfl rfl (by decide) [1, 2, 0, 3] [(0, .ref v0), (1, .ref v1), (2, .int (v2 + 1)), (3, .int ((x.1 (v0 + 1) (Int32.toNatClampNeg v2)) &&& 65535))] rfl ?_
        refine EW_goto (tgt := 35) dX9_run_252 (by decide) ?_
        refine EW_ls [0, 1, 2] rfl ?_
        exact hL35 (v2 + 1) x85 h
      | n9 + 14, hkk, _ => exact absurd hkk (by omega)
set_option maxHeartbeats 4000000 in
set_option maxRecDepth 100000 in
def wX9_run (v0 : Nat) (v1 : Nat) (x : ab_X) (K : ab_X → Prop) : Prop := wJ7_fill_53178 (v0 + 3) 5 0 (wr (wr (wr (wr (wr x v0 3 0) v0 4 0) v0 5 0) v0 6 0) v0 9 0) (fun x1 => Lp2 (lX9_run_35 v0 v1 K ) 0 x1)
set_option maxHeartbeats 4000000 in
set_option maxRecDepth 100000 in
theorem sX9_run (v0 : Nat) (v1 : Nat) (hv0 : isT v0) (hv1 : isLA v1) (x : ab_X) (K : ab_X → Prop) (d bc bs : Nat) (hdp : 2 ≤ d) (h : wX9_run v0 v1 x K) : EW MX9_run 0 [(0, .ref v0), (1, .ref v1)] [] (aS x) d bc bs (liV K) := by
  unfold wX9_run at h
  refine EW_aload_n (pc2 := 1) rfl dX9_run_0 0 rfl ?_
  refine EW_iconst (pc2 := 2) (v := 0) rfl dX9_run_1 (by decide) ?_
  refine AW_puti ⟨gfRX9_34, rfl, rfl⟩ (pc2 := 5) rfl dX9_run_2 (isT.o hv0) ?_
  refine EW_aload_n (pc2 := 6) rfl dX9_run_5 0 rfl ?_
  refine EW_iconst (pc2 := 7) (v := 0) rfl dX9_run_6 (by decide) ?_
  refine AW_puti ⟨gfRX9_37, rfl, rfl⟩ (pc2 := 10) rfl dX9_run_7 (isT.o hv0) ?_
  refine EW_aload_n (pc2 := 11) rfl dX9_run_10 0 rfl ?_
  refine EW_iconst (pc2 := 12) (v := 0) rfl dX9_run_11 (by decide) ?_
  refine AW_putz ⟨gfRX9_40, rfl, rfl⟩ isB0 (pc2 := 15) rfl dX9_run_12 (isT.o hv0) ?_
  refine EW_aload_n (pc2 := 16) rfl dX9_run_15 0 rfl ?_
  refine EW_iconst (pc2 := 17) (v := 0) rfl dX9_run_16 (by decide) ?_
  refine AW_puti ⟨gfRX9_44, rfl, rfl⟩ (pc2 := 20) rfl dX9_run_17 (isT.o hv0) ?_
  refine EW_aload_n (pc2 := 21) rfl dX9_run_20 0 rfl ?_
  refine EW_iconst (pc2 := 22) (v := 0) rfl dX9_run_21 (by decide) ?_
  refine AW_puti ⟨gfRX9_47, rfl, rfl⟩ (pc2 := 25) rfl dX9_run_22 (isT.o hv0) ?_
  refine EW_aload_n (pc2 := 26) rfl dX9_run_25 0 rfl ?_
  refine AW_getr (r := (v0 + 3)) ⟨gfRX9_18, rfl⟩ (pc2 := 29) rfl dX9_run_26 (isT.o hv0) (isT.r7 hv0) ?_
  refine EW_iconst (pc2 := 30) (v := 0) rfl dX9_run_29 (by decide) ?_
  refine AW_invS (M' := MJ7_fill_53178) [.ref (v0 + 3), .int 0] (rest := []) mlRX9_50 okJ7_fill_53178 (pc2 := 33) rfl dX9_run_30 rfl rfl (Nat.le_of_ble_eq_true rfl) (Nat.le_of_ble_eq_true rfl) (d' := 0) (by omega) (EW_mono (fun _ _ hr => ?_) (sJ7_fill_53178 (v0 + 3) 5 0 (isT.a7 hv0) (wr (wr (wr (wr (wr x v0 3 0) v0 4 0) v0 5 0) v0 6 0) v0 9 0) _ _ 0 0 (Nat.le_refl _) h))
  obtain ⟨x1, rfl, rfl, h⟩ := hr
  refine EW_iconst (pc2 := 34) (v := 0) rfl dX9_run_33 (by decide) ?_
  refine EW_istore_n (pc2 := 35) rfl dX9_run_34 (by decide) [1, 2, 0] [(0, .ref v0), (1, .ref v1), (2, .int 0)] rfl ?_
  exact sX9_run_35 v0 v1 0 hv0 hv1 x1 K d bc bs hdp h
