theorem gfRX12_56 : ab_L RX12 56 12 18 := ⟨by decide, by decide, ab_in 1867 (by decide +kernel) (by decide +kernel)⟩
theorem gfRX12_386 : ab_L RX12 386 12 56 := ⟨by decide, by decide, ab_in 1905 (by decide +kernel) (by decide +kernel)⟩
theorem gfRX12_389 : ab_L RX12 389 12 57 := ⟨by decide, by decide, ab_in 1906 (by decide +kernel) (by decide +kernel)⟩
abbrev MX12_count : ab_M := (yX12_count, cX12_count, 4, (some .int))
theorem dX12_count_0 : decode cX12_count 0 = .ok (.aload_n 0, 1) := by decide +kernel
theorem dX12_count_1 : decode cX12_count 1 = .ok (.iconst 0, 1) := by decide +kernel
theorem dX12_count_2 : decode cX12_count 2 = .ok (.putfield 297, 3) := by decide +kernel
theorem dX12_count_5 : decode cX12_count 5 = .ok (.iconst 0, 1) := by decide +kernel
theorem dX12_count_6 : decode cX12_count 6 = .ok (.istore_n 2, 1) := by decide +kernel
theorem dX12_count_7 : decode cX12_count 7 = .ok (.iload_n 1, 1) := by decide +kernel
theorem dX12_count_8 : decode cX12_count 8 = .ok (.tableswitch 301 0 16 #[84, 89, 94, 99, 104, 109, 109, 154, 181, 208, 235, 271, 276, 281, 286, 291, 296], 84) := by decide +kernel
theorem dX12_count_92 : decode cX12_count 92 = .ok (.aload_n 0, 1) := by decide +kernel
theorem dX12_count_93 : decode cX12_count 93 = .ok (.getfield 395, 3) := by decide +kernel
theorem dX12_count_96 : decode cX12_count 96 = .ok (.ireturn, 1) := by decide +kernel
theorem dX12_count_97 : decode cX12_count 97 = .ok (.aload_n 0, 1) := by decide +kernel
theorem dX12_count_98 : decode cX12_count 98 = .ok (.getfield 300, 3) := by decide +kernel
theorem dX12_count_101 : decode cX12_count 101 = .ok (.ireturn, 1) := by decide +kernel
theorem dX12_count_102 : decode cX12_count 102 = .ok (.aload_n 0, 1) := by decide +kernel
theorem dX12_count_103 : decode cX12_count 103 = .ok (.getfield 331, 3) := by decide +kernel
theorem dX12_count_106 : decode cX12_count 106 = .ok (.ireturn, 1) := by decide +kernel
theorem dX12_count_107 : decode cX12_count 107 = .ok (.aload_n 0, 1) := by decide +kernel
theorem dX12_count_108 : decode cX12_count 108 = .ok (.getfield 366, 3) := by decide +kernel
theorem dX12_count_111 : decode cX12_count 111 = .ok (.ireturn, 1) := by decide +kernel
theorem dX12_count_112 : decode cX12_count 112 = .ok (.aload_n 0, 1) := by decide +kernel
theorem dX12_count_113 : decode cX12_count 113 = .ok (.getfield 525, 3) := by decide +kernel
theorem dX12_count_116 : decode cX12_count 116 = .ok (.ireturn, 1) := by decide +kernel
theorem dX12_count_117 : decode cX12_count 117 = .ok (.iconst 0, 1) := by decide +kernel
theorem dX12_count_118 : decode cX12_count 118 = .ok (.istore_n 3, 1) := by decide +kernel
theorem dX12_count_119 : decode cX12_count 119 = .ok (.iload_n 3, 1) := by decide +kernel
theorem dX12_count_120 : decode cX12_count 120 = .ok (.aload_n 0, 1) := by decide +kernel
theorem dX12_count_121 : decode cX12_count 121 = .ok (.getfield 525, 3) := by decide +kernel
theorem dX12_count_124 : decode cX12_count 124 = .ok (.if_icmp .ge 36, 3) := by decide +kernel
theorem dX12_count_127 : decode cX12_count 127 = .ok (.iload_n 2, 1) := by decide +kernel
theorem dX12_count_128 : decode cX12_count 128 = .ok (.aload_n 0, 1) := by decide +kernel
theorem dX12_count_129 : decode cX12_count 129 = .ok (.getfield 220, 3) := by decide +kernel
theorem dX12_count_132 : decode cX12_count 132 = .ok (.iload_n 3, 1) := by decide +kernel
theorem dX12_count_133 : decode cX12_count 133 = .ok (.iaload, 1) := by decide +kernel
theorem dX12_count_134 : decode cX12_count 134 = .ok (.iload_n 1, 1) := by decide +kernel
theorem dX12_count_135 : decode cX12_count 135 = .ok (.iconst 5, 1) := by decide +kernel
theorem dX12_count_136 : decode cX12_count 136 = .ok (.if_icmp .ne 7, 3) := by decide +kernel
theorem dX12_count_139 : decode cX12_count 139 = .ok (.iconst 0, 1) := by decide +kernel
theorem dX12_count_140 : decode cX12_count 140 = .ok (.goto 4, 3) := by decide +kernel
theorem dX12_count_143 : decode cX12_count 143 = .ok (.iconst 2, 1) := by decide +kernel
theorem dX12_count_144 : decode cX12_count 144 = .ok (.if_icmp .ne 7, 3) := by decide +kernel
theorem dX12_count_147 : decode cX12_count 147 = .ok (.iconst 1, 1) := by decide +kernel
theorem dX12_count_148 : decode cX12_count 148 = .ok (.goto 4, 3) := by decide +kernel
theorem dX12_count_151 : decode cX12_count 151 = .ok (.iconst 0, 1) := by decide +kernel
theorem dX12_count_152 : decode cX12_count 152 = .ok (.iadd, 1) := by decide +kernel
theorem dX12_count_153 : decode cX12_count 153 = .ok (.istore_n 2, 1) := by decide +kernel
theorem dX12_count_154 : decode cX12_count 154 = .ok (.iinc 3 1, 3) := by decide +kernel
theorem dX12_count_157 : decode cX12_count 157 = .ok (.goto (-38), 3) := by decide +kernel
theorem dX12_count_160 : decode cX12_count 160 = .ok (.iload_n 2, 1) := by decide +kernel
theorem dX12_count_161 : decode cX12_count 161 = .ok (.ireturn, 1) := by decide +kernel
theorem dX12_count_162 : decode cX12_count 162 = .ok (.iconst 0, 1) := by decide +kernel
theorem dX12_count_163 : decode cX12_count 163 = .ok (.istore_n 3, 1) := by decide +kernel
theorem dX12_count_164 : decode cX12_count 164 = .ok (.iload_n 3, 1) := by decide +kernel
theorem dX12_count_165 : decode cX12_count 165 = .ok (.aload_n 0, 1) := by decide +kernel
theorem dX12_count_166 : decode cX12_count 166 = .ok (.getfield 525, 3) := by decide +kernel
theorem dX12_count_169 : decode cX12_count 169 = .ok (.if_icmp .ge 18, 3) := by decide +kernel
theorem dX12_count_172 : decode cX12_count 172 = .ok (.iload_n 2, 1) := by decide +kernel
theorem dX12_count_173 : decode cX12_count 173 = .ok (.aload_n 0, 1) := by decide +kernel
theorem dX12_count_174 : decode cX12_count 174 = .ok (.getfield 232, 3) := by decide +kernel
theorem dX12_count_177 : decode cX12_count 177 = .ok (.iload_n 3, 1) := by decide +kernel
theorem dX12_count_178 : decode cX12_count 178 = .ok (.iaload, 1) := by decide +kernel
theorem dX12_count_179 : decode cX12_count 179 = .ok (.iadd, 1) := by decide +kernel
theorem dX12_count_180 : decode cX12_count 180 = .ok (.istore_n 2, 1) := by decide +kernel
theorem dX12_count_181 : decode cX12_count 181 = .ok (.iinc 3 1, 3) := by decide +kernel
theorem dX12_count_184 : decode cX12_count 184 = .ok (.goto (-20), 3) := by decide +kernel
theorem dX12_count_187 : decode cX12_count 187 = .ok (.iload_n 2, 1) := by decide +kernel
theorem dX12_count_188 : decode cX12_count 188 = .ok (.ireturn, 1) := by decide +kernel
theorem dX12_count_189 : decode cX12_count 189 = .ok (.iconst 0, 1) := by decide +kernel
theorem dX12_count_190 : decode cX12_count 190 = .ok (.istore_n 3, 1) := by decide +kernel
theorem dX12_count_191 : decode cX12_count 191 = .ok (.iload_n 3, 1) := by decide +kernel
theorem dX12_count_192 : decode cX12_count 192 = .ok (.aload_n 0, 1) := by decide +kernel
theorem dX12_count_193 : decode cX12_count 193 = .ok (.getfield 331, 3) := by decide +kernel
theorem dX12_count_196 : decode cX12_count 196 = .ok (.if_icmp .ge 18, 3) := by decide +kernel
theorem dX12_count_199 : decode cX12_count 199 = .ok (.iload_n 2, 1) := by decide +kernel
theorem dX12_count_200 : decode cX12_count 200 = .ok (.aload_n 0, 1) := by decide +kernel
theorem dX12_count_201 : decode cX12_count 201 = .ok (.getfield 56, 3) := by decide +kernel
theorem dX12_count_204 : decode cX12_count 204 = .ok (.iload_n 3, 1) := by decide +kernel
theorem dX12_count_205 : decode cX12_count 205 = .ok (.iaload, 1) := by decide +kernel
theorem dX12_count_206 : decode cX12_count 206 = .ok (.iadd, 1) := by decide +kernel
theorem dX12_count_207 : decode cX12_count 207 = .ok (.istore_n 2, 1) := by decide +kernel
theorem dX12_count_208 : decode cX12_count 208 = .ok (.iinc 3 1, 3) := by decide +kernel
theorem dX12_count_211 : decode cX12_count 211 = .ok (.goto (-20), 3) := by decide +kernel
theorem dX12_count_214 : decode cX12_count 214 = .ok (.iload_n 2, 1) := by decide +kernel
theorem dX12_count_215 : decode cX12_count 215 = .ok (.ireturn, 1) := by decide +kernel
theorem dX12_count_216 : decode cX12_count 216 = .ok (.iconst 0, 1) := by decide +kernel
theorem dX12_count_217 : decode cX12_count 217 = .ok (.istore_n 3, 1) := by decide +kernel
theorem dX12_count_218 : decode cX12_count 218 = .ok (.iload_n 3, 1) := by decide +kernel
theorem dX12_count_219 : decode cX12_count 219 = .ok (.aload_n 0, 1) := by decide +kernel
theorem dX12_count_220 : decode cX12_count 220 = .ok (.getfield 331, 3) := by decide +kernel
theorem dX12_count_223 : decode cX12_count 223 = .ok (.if_icmp .ge 18, 3) := by decide +kernel
theorem dX12_count_226 : decode cX12_count 226 = .ok (.iload_n 2, 1) := by decide +kernel
theorem dX12_count_227 : decode cX12_count 227 = .ok (.aload_n 0, 1) := by decide +kernel
theorem dX12_count_228 : decode cX12_count 228 = .ok (.getfield 59, 3) := by decide +kernel
theorem dX12_count_231 : decode cX12_count 231 = .ok (.iload_n 3, 1) := by decide +kernel
theorem dX12_count_232 : decode cX12_count 232 = .ok (.iaload, 1) := by decide +kernel
theorem dX12_count_233 : decode cX12_count 233 = .ok (.iadd, 1) := by decide +kernel
theorem dX12_count_234 : decode cX12_count 234 = .ok (.istore_n 2, 1) := by decide +kernel
theorem dX12_count_235 : decode cX12_count 235 = .ok (.iinc 3 1, 3) := by decide +kernel
theorem dX12_count_238 : decode cX12_count 238 = .ok (.goto (-20), 3) := by decide +kernel
theorem dX12_count_241 : decode cX12_count 241 = .ok (.iload_n 2, 1) := by decide +kernel
theorem dX12_count_242 : decode cX12_count 242 = .ok (.ireturn, 1) := by decide +kernel
theorem dX12_count_243 : decode cX12_count 243 = .ok (.iconst 0, 1) := by decide +kernel
theorem dX12_count_244 : decode cX12_count 244 = .ok (.istore_n 3, 1) := by decide +kernel
theorem dX12_count_245 : decode cX12_count 245 = .ok (.iload_n 3, 1) := by decide +kernel
theorem dX12_count_246 : decode cX12_count 246 = .ok (.aload_n 0, 1) := by decide +kernel
theorem dX12_count_247 : decode cX12_count 247 = .ok (.getfield 366, 3) := by decide +kernel
theorem dX12_count_250 : decode cX12_count 250 = .ok (.if_icmp .ge 27, 3) := by decide +kernel
theorem dX12_count_253 : decode cX12_count 253 = .ok (.iload_n 2, 1) := by decide +kernel
theorem dX12_count_254 : decode cX12_count 254 = .ok (.aload_n 0, 1) := by decide +kernel
theorem dX12_count_255 : decode cX12_count 255 = .ok (.getfield 128, 3) := by decide +kernel
theorem dX12_count_258 : decode cX12_count 258 = .ok (.iload_n 3, 1) := by decide +kernel
theorem dX12_count_259 : decode cX12_count 259 = .ok (.iaload, 1) := by decide +kernel
theorem dX12_count_260 : decode cX12_count 260 = .ok (.iconst 4, 1) := by decide +kernel
theorem dX12_count_261 : decode cX12_count 261 = .ok (.if_icmp .ne 7, 3) := by decide +kernel
theorem dX12_count_264 : decode cX12_count 264 = .ok (.iconst 1, 1) := by decide +kernel
theorem dX12_count_265 : decode cX12_count 265 = .ok (.goto 4, 3) := by decide +kernel
theorem dX12_count_268 : decode cX12_count 268 = .ok (.iconst 0, 1) := by decide +kernel
theorem dX12_count_269 : decode cX12_count 269 = .ok (.iadd, 1) := by decide +kernel
theorem dX12_count_270 : decode cX12_count 270 = .ok (.istore_n 2, 1) := by decide +kernel
theorem dX12_count_271 : decode cX12_count 271 = .ok (.iinc 3 1, 3) := by decide +kernel
theorem dX12_count_274 : decode cX12_count 274 = .ok (.goto (-29), 3) := by decide +kernel
theorem dX12_count_277 : decode cX12_count 277 = .ok (.iload_n 2, 1) := by decide +kernel
theorem dX12_count_278 : decode cX12_count 278 = .ok (.ireturn, 1) := by decide +kernel
theorem dX12_count_279 : decode cX12_count 279 = .ok (.aload_n 0, 1) := by decide +kernel
theorem dX12_count_280 : decode cX12_count 280 = .ok (.getfield 522, 3) := by decide +kernel
theorem dX12_count_283 : decode cX12_count 283 = .ok (.ireturn, 1) := by decide +kernel
theorem dX12_count_284 : decode cX12_count 284 = .ok (.aload_n 0, 1) := by decide +kernel
theorem dX12_count_285 : decode cX12_count 285 = .ok (.getfield 519, 3) := by decide +kernel
theorem dX12_count_288 : decode cX12_count 288 = .ok (.ireturn, 1) := by decide +kernel
theorem dX12_count_289 : decode cX12_count 289 = .ok (.aload_n 0, 1) := by decide +kernel
theorem dX12_count_290 : decode cX12_count 290 = .ok (.getfield 414, 3) := by decide +kernel
theorem dX12_count_293 : decode cX12_count 293 = .ok (.ireturn, 1) := by decide +kernel
theorem dX12_count_294 : decode cX12_count 294 = .ok (.aload_n 0, 1) := by decide +kernel
theorem dX12_count_295 : decode cX12_count 295 = .ok (.getfield 386, 3) := by decide +kernel
theorem dX12_count_298 : decode cX12_count 298 = .ok (.ireturn, 1) := by decide +kernel
theorem dX12_count_299 : decode cX12_count 299 = .ok (.aload_n 0, 1) := by decide +kernel
theorem dX12_count_300 : decode cX12_count 300 = .ok (.getfield 389, 3) := by decide +kernel
theorem dX12_count_303 : decode cX12_count 303 = .ok (.ireturn, 1) := by decide +kernel
theorem dX12_count_304 : decode cX12_count 304 = .ok (.aload_n 0, 1) := by decide +kernel
theorem dX12_count_305 : decode cX12_count 305 = .ok (.getfield 648, 3) := by decide +kernel
theorem dX12_count_308 : decode cX12_count 308 = .ok (.ireturn, 1) := by decide +kernel
theorem dX12_count_309 : decode cX12_count 309 = .ok (.iconst (-1), 1) := by decide +kernel
theorem dX12_count_310 : decode cX12_count 310 = .ok (.ireturn, 1) := by decide +kernel
theorem okX12_count : ab_okM MX12_count 1 := ⟨by decide, ⟨by decide, by decide⟩, ab_in 2749 (by decide +kernel) (by decide +kernel), ab_in 99 (by decide +kernel) (by decide +kernel), by decide +kernel, by decide⟩
set_option maxHeartbeats 4000000 in
set_option maxRecDepth 100000 in
def wX12_count_152 (v1 : Int32) (v3 : Int32) (s0 : Int32) (s1 : Int32) (x : ab_X) (K : Int32 → ab_X → Prop) (L119 : Int32 → Int32 → Prop) : Prop := L119 (s0 + s1) (v3 + 1)
set_option maxHeartbeats 4000000 in
set_option maxRecDepth 100000 in
theorem sX12_count_152 (v1 : Int32) (v3 : Int32) (s0 : Int32) (s1 : Int32)  (x : ab_X) (K : Int32 → ab_X → Prop) (L119 : Int32 → Int32 → Prop) (d bc bs : Nat) (hdp : 0 ≤ d) (hL119 : ∀ (v2 : Int32) (v3 : Int32), L119 v2 v3 → EW MX12_count 119 [(0, .ref 246), (1, .int v1), (2, .int v2), (3, .int v3)] [] (aS x) d bc bs (liI K)) (h : wX12_count_152 v1 v3 s0 s1 x K L119) : EW MX12_count 152 [(0, .ref 246), (1, .int v1), (3, .int v3)] [.int s1, .int s0] (aS x) d bc bs (liI K) := by
  unfold wX12_count_152 at h
  refine EW_iadd (pc2 := 153) rfl dX12_count_152 ?_
  refine EW_istore_n (pc2 := 154) rfl dX12_count_153 (by decide) [1, 2, 0, 3] [(0, .ref 246), (1, .int v1), (2, .int (s0 + s1)), (3, .int v3)] rfl ?_
  refine EW_iinc (v3 + 1) (pc2 := 157) rfl dX12_count_154 3 rfl rfl (by decide) [1, 2, 3, 0] [(0, .ref 246), (1, .int v1), (2, .int (s0 + s1)), (3, .int (v3 + 1))] rfl ?_
  refine EW_goto (tgt := 119) dX12_count_157 (by decide) ?_
  exact hL119 (s0 + s1) (v3 + 1) h
set_option maxHeartbeats 4000000 in
set_option maxRecDepth 100000 in
def wX12_count_144 (v1 : Int32) (v3 : Int32) (s0 : Int32) (s1 : Int32) (s2 : Int32) (x : ab_X) (K : Int32 → ab_X → Prop) (L119 : Int32 → Int32 → Prop) : Prop := ((¬ s1 = s2 → wX12_count_152 v1 v3 s0 0 x K L119) ∧ (s1 = s2 → wX12_count_152 v1 v3 s0 1 x K L119))
set_option maxHeartbeats 4000000 in
set_option maxRecDepth 100000 in
theorem sX12_count_144 (v1 : Int32) (v3 : Int32) (s0 : Int32) (s1 : Int32) (s2 : Int32)  (x : ab_X) (K : Int32 → ab_X → Prop) (L119 : Int32 → Int32 → Prop) (d bc bs : Nat) (hdp : 0 ≤ d) (hL119 : ∀ (v2 : Int32) (v3 : Int32), L119 v2 v3 → EW MX12_count 119 [(0, .ref 246), (1, .int v1), (2, .int v2), (3, .int v3)] [] (aS x) d bc bs (liI K)) (h : wX12_count_144 v1 v3 s0 s1 s2 x K L119) : EW MX12_count 144 [(0, .ref 246), (1, .int v1), (3, .int v3)] [.int s2, .int s1, .int s0] (aS x) d bc bs (liI K) := by
  unfold wX12_count_144 at h
  refine EW_icmp_ne (tgt := 151) (pc2 := 147) rfl dX12_count_144 (by decide) (fun q => ?_) (fun q => ?_)
  · replace h := h.1 q
    refine EW_iconst (pc2 := 152) (v := 0) rfl dX12_count_151 (by decide) ?_
    exact sX12_count_152 v1 v3 s0 0 x K L119 d bc bs hdp hL119 h
  · replace h := h.2 q
    refine EW_iconst (pc2 := 148) (v := 1) rfl dX12_count_147 (by decide) ?_
    refine EW_goto (tgt := 152) dX12_count_148 (by decide) ?_
    exact sX12_count_152 v1 v3 s0 1 x K L119 d bc bs hdp hL119 h
set_option maxHeartbeats 4000000 in
set_option maxRecDepth 100000 in
def lX12_count_119 (v1 : Int32) (x : ab_X) (K : Int32 → ab_X → Prop)  (L119 : Int32 → Int32 → Prop) (v2 : Int32) (v3 : Int32) : Prop := (((x.1 246 92) ≤ v3 → K v2 x) ∧ (¬ (x.1 246 92) ≤ v3 → (vp_in v3 60 ∧ ((¬ v1 = 5 → wX12_count_144 v1 v3 v2 (x.1 312 (Int32.toNatClampNeg v3)) 2 x K L119) ∧ (v1 = 5 → wX12_count_144 v1 v3 v2 (x.1 312 (Int32.toNatClampNeg v3)) 0 x K L119)))))
set_option maxHeartbeats 4000000 in
set_option maxRecDepth 100000 in
theorem sX12_count_119 (v1 : Int32) (v2 : Int32) (v3 : Int32)  (x : ab_X) (K : Int32 → ab_X → Prop)  (d bc bs : Nat) (hdp : 0 ≤ d)  (h : Lp2 (lX12_count_119 v1 x K ) v2 v3) : EW MX12_count 119 [(0, .ref 246), (1, .int v1), (2, .int v2), (3, .int v3)] [] (aS x) d bc bs (liI K) := by
  refine Lp2.use (P := fun v2 v3 => EW MX12_count 119 [(0, .ref 246), (1, .int v1), (2, .int v2), (3, .int v3)] [] (aS x) d bc bs (liI K)) (fun L119 v2 v3 hL119 h => ?_) v2 v3 h
  unfold lX12_count_119 at h
  refine EW_iload_n (pc2 := 120) rfl dX12_count_119 3 rfl ?_
  refine EW_aload_n (pc2 := 121) rfl dX12_count_120 0 rfl ?_
  refine AW_geti ⟨gfRX12_525, rfl⟩ (pc2 := 124) rfl dX12_count_121 q246 ?_
  refine EW_icmp_ge (tgt := 160) (pc2 := 127) rfl dX12_count_124 (by decide) (fun q => ?_) (fun q => ?_)
  · replace h := h.1 q
    refine EW_iload_n (pc2 := 161) rfl dX12_count_160 2 rfl ?_
    exact AW_iret rfl dX12_count_161 ⟨_, _, rfl, rfl, h⟩
  · replace h := h.2 q
    refine EW_iload_n (pc2 := 128) rfl dX12_count_127 2 rfl ?_
    refine EW_aload_n (pc2 := 129) rfl dX12_count_128 0 rfl ?_
    refine AW_getr (r := 312) ⟨gfRX12_220, rfl⟩ (pc2 := 132) rfl dX12_count_129 q246 rfl ?_
    refine EW_iload_n (pc2 := 133) rfl dX12_count_132 3 rfl ?_
    obtain ⟨b1, h⟩ := h
    refine AW_iald (pc2 := 134) rfl dX12_count_133 q312 b1 ?_
    refine EW_iload_n (pc2 := 135) rfl dX12_count_134 1 rfl ?_
    refine EW_iconst (pc2 := 136) (v := 5) rfl dX12_count_135 (by decide) ?_
    refine EW_icmp_ne (tgt := 143) (pc2 := 139) rfl dX12_count_136 (by decide) (fun q => ?_) (fun q => ?_)
    · replace h := h.1 q
      refine EW_iconst (pc2 := 144) (v := 2) rfl dX12_count_143 (by decide) ?_
      refine EW_ls [0, 1, 3] rfl ?_
      exact sX12_count_144 v1 v3 v2 (x.1 312 (Int32.toNatClampNeg v3)) 2 x K L119 d bc bs hdp hL119 h
    · replace h := h.2 q
      refine EW_iconst (pc2 := 140) (v := 0) rfl dX12_count_139 (by decide) ?_
      refine EW_goto (tgt := 144) dX12_count_140 (by decide) ?_
      refine EW_ls [0, 1, 3] rfl ?_
      exact sX12_count_144 v1 v3 v2 (x.1 312 (Int32.toNatClampNeg v3)) 0 x K L119 d bc bs hdp hL119 h
set_option maxHeartbeats 4000000 in
set_option maxRecDepth 100000 in
def lX12_count_164  (x : ab_X) (K : Int32 → ab_X → Prop)  (L164 : Int32 → Int32 → Prop) (v2 : Int32) (v3 : Int32) : Prop := (((x.1 246 92) ≤ v3 → K v2 x) ∧ (¬ (x.1 246 92) ≤ v3 → (vp_in v3 60 ∧ L164 (v2 + (x.1 316 (Int32.toNatClampNeg v3))) (v3 + 1))))
set_option maxHeartbeats 4000000 in
set_option maxRecDepth 100000 in
theorem sX12_count_164 (v2 : Int32) (v3 : Int32)  (x : ab_X) (K : Int32 → ab_X → Prop)  (d bc bs : Nat) (hdp : 0 ≤ d)  (h : Lp2 (lX12_count_164  x K ) v2 v3) : EW MX12_count 164 [(0, .ref 246), (2, .int v2), (3, .int v3)] [] (aS x) d bc bs (liI K) := by
  refine Lp2.use (P := fun v2 v3 => EW MX12_count 164 [(0, .ref 246), (2, .int v2), (3, .int v3)] [] (aS x) d bc bs (liI K)) (fun L164 v2 v3 hL164 h => ?_) v2 v3 h
  unfold lX12_count_164 at h
  refine EW_iload_n (pc2 := 165) rfl dX12_count_164 2 rfl ?_
  refine EW_aload_n (pc2 := 166) rfl dX12_count_165 0 rfl ?_
  refine AW_geti ⟨gfRX12_525, rfl⟩ (pc2 := 169) rfl dX12_count_166 q246 ?_
  refine EW_icmp_ge (tgt := 187) (pc2 := 172) rfl dX12_count_169 (by decide) (fun q => ?_) (fun q => ?_)
  · replace h := h.1 q
    refine EW_iload_n (pc2 := 188) rfl dX12_count_187 1 rfl ?_
    exact AW_iret rfl dX12_count_188 ⟨_, _, rfl, rfl, h⟩
  · replace h := h.2 q
    refine EW_iload_n (pc2 := 173) rfl dX12_count_172 1 rfl ?_
    refine EW_aload_n (pc2 := 174) rfl dX12_count_173 0 rfl ?_
    refine AW_getr (r := 316) ⟨gfRX12_232, rfl⟩ (pc2 := 177) rfl dX12_count_174 q246 rfl ?_
    refine EW_iload_n (pc2 := 178) rfl dX12_count_177 2 rfl ?_
    obtain ⟨b2, h⟩ := h
    refine AW_iald (pc2 := 179) rfl dX12_count_178 q316 b2 ?_
    refine EW_iadd (pc2 := 180) rfl dX12_count_179 ?_
    refine EW_istore_n (pc2 := 181) rfl dX12_count_180 (by decide) [1, 0, 2] [(0, .ref 246), (2, .int (v2 + (x.1 316 (Int32.toNatClampNeg v3)))), (3, .int v3)] rfl ?_
    refine EW_iinc (v3 + 1) (pc2 := 184) rfl dX12_count_181 2 rfl rfl (by decide) [1, 2, 0] [(0, .ref 246), (2, .int (v2 + (x.1 316 (Int32.toNatClampNeg v3)))), (3, .int (v3 + 1))] rfl ?_
    refine EW_goto (tgt := 164) dX12_count_184 (by decide) ?_
    exact hL164 (v2 + (x.1 316 (Int32.toNatClampNeg v3))) (v3 + 1) h
set_option maxHeartbeats 4000000 in
set_option maxRecDepth 100000 in
def lX12_count_191  (x : ab_X) (K : Int32 → ab_X → Prop)  (L191 : Int32 → Int32 → Prop) (v2 : Int32) (v3 : Int32) : Prop := (((x.1 246 31) ≤ v3 → K v2 x) ∧ (¬ (x.1 246 31) ≤ v3 → (vp_in v3 12 ∧ L191 (v2 + (x.1 262 (Int32.toNatClampNeg v3))) (v3 + 1))))
set_option maxHeartbeats 4000000 in
set_option maxRecDepth 100000 in
theorem sX12_count_191 (v2 : Int32) (v3 : Int32)  (x : ab_X) (K : Int32 → ab_X → Prop)  (d bc bs : Nat) (hdp : 0 ≤ d)  (h : Lp2 (lX12_count_191  x K ) v2 v3) : EW MX12_count 191 [(0, .ref 246), (2, .int v2), (3, .int v3)] [] (aS x) d bc bs (liI K) := by
  refine Lp2.use (P := fun v2 v3 => EW MX12_count 191 [(0, .ref 246), (2, .int v2), (3, .int v3)] [] (aS x) d bc bs (liI K)) (fun L191 v2 v3 hL191 h => ?_) v2 v3 h
  unfold lX12_count_191 at h
  refine EW_iload_n (pc2 := 192) rfl dX12_count_191 2 rfl ?_
  refine EW_aload_n (pc2 := 193) rfl dX12_count_192 0 rfl ?_
  refine AW_geti ⟨gfRX12_331, rfl⟩ (pc2 := 196) rfl dX12_count_193 q246 ?_
  refine EW_icmp_ge (tgt := 214) (pc2 := 199) rfl dX12_count_196 (by decide) (fun q => ?_) (fun q => ?_)
  · replace h := h.1 q
    refine EW_iload_n (pc2 := 215) rfl dX12_count_214 1 rfl ?_
    exact AW_iret rfl dX12_count_215 ⟨_, _, rfl, rfl, h⟩
  · replace h := h.2 q
    refine EW_iload_n (pc2 := 200) rfl dX12_count_199 1 rfl ?_
    refine EW_aload_n (pc2 := 201) rfl dX12_count_200 0 rfl ?_
    refine AW_getr (r := 262) ⟨gfRX12_56, rfl⟩ (pc2 := 204) rfl dX12_count_201 q246 rfl ?_
    refine EW_iload_n (pc2 := 205) rfl dX12_count_204 2 rfl ?_
    obtain ⟨b3, h⟩ := h
    refine AW_iald (pc2 := 206) rfl dX12_count_205 q262 b3 ?_
    refine EW_iadd (pc2 := 207) rfl dX12_count_206 ?_
    refine EW_istore_n (pc2 := 208) rfl dX12_count_207 (by decide) [1, 0, 2] [(0, .ref 246), (2, .int (v2 + (x.1 262 (Int32.toNatClampNeg v3)))), (3, .int v3)] rfl ?_
    refine EW_iinc (v3 + 1) (pc2 := 211) rfl dX12_count_208 2 rfl rfl (by decide) [1, 2, 0] [(0, .ref 246), (2, .int (v2 + (x.1 262 (Int32.toNatClampNeg v3)))), (3, .int (v3 + 1))] rfl ?_
    refine EW_goto (tgt := 191) dX12_count_211 (by decide) ?_
    exact hL191 (v2 + (x.1 262 (Int32.toNatClampNeg v3))) (v3 + 1) h
set_option maxHeartbeats 4000000 in
set_option maxRecDepth 100000 in
def lX12_count_218  (x : ab_X) (K : Int32 → ab_X → Prop)  (L218 : Int32 → Int32 → Prop) (v2 : Int32) (v3 : Int32) : Prop := (((x.1 246 31) ≤ v3 → K v2 x) ∧ (¬ (x.1 246 31) ≤ v3 → (vp_in v3 12 ∧ L218 (v2 + (x.1 263 (Int32.toNatClampNeg v3))) (v3 + 1))))
set_option maxHeartbeats 4000000 in
set_option maxRecDepth 100000 in
theorem sX12_count_218 (v2 : Int32) (v3 : Int32)  (x : ab_X) (K : Int32 → ab_X → Prop)  (d bc bs : Nat) (hdp : 0 ≤ d)  (h : Lp2 (lX12_count_218  x K ) v2 v3) : EW MX12_count 218 [(0, .ref 246), (2, .int v2), (3, .int v3)] [] (aS x) d bc bs (liI K) := by
  refine Lp2.use (P := fun v2 v3 => EW MX12_count 218 [(0, .ref 246), (2, .int v2), (3, .int v3)] [] (aS x) d bc bs (liI K)) (fun L218 v2 v3 hL218 h => ?_) v2 v3 h
  unfold lX12_count_218 at h
  refine EW_iload_n (pc2 := 219) rfl dX12_count_218 2 rfl ?_
  refine EW_aload_n (pc2 := 220) rfl dX12_count_219 0 rfl ?_
  refine AW_geti ⟨gfRX12_331, rfl⟩ (pc2 := 223) rfl dX12_count_220 q246 ?_
  refine EW_icmp_ge (tgt := 241) (pc2 := 226) rfl dX12_count_223 (by decide) (fun q => ?_) (fun q => ?_)
  · replace h := h.1 q
    refine EW_iload_n (pc2 := 242) rfl dX12_count_241 1 rfl ?_
    exact AW_iret rfl dX12_count_242 ⟨_, _, rfl, rfl, h⟩
  · replace h := h.2 q
    refine EW_iload_n (pc2 := 227) rfl dX12_count_226 1 rfl ?_
    refine EW_aload_n (pc2 := 228) rfl dX12_count_227 0 rfl ?_
    refine AW_getr (r := 263) ⟨gfRX12_59, rfl⟩ (pc2 := 231) rfl dX12_count_228 q246 rfl ?_
    refine EW_iload_n (pc2 := 232) rfl dX12_count_231 2 rfl ?_
    obtain ⟨b4, h⟩ := h
    refine AW_iald (pc2 := 233) rfl dX12_count_232 q263 b4 ?_
    refine EW_iadd (pc2 := 234) rfl dX12_count_233 ?_
    refine EW_istore_n (pc2 := 235) rfl dX12_count_234 (by decide) [1, 0, 2] [(0, .ref 246), (2, .int (v2 + (x.1 263 (Int32.toNatClampNeg v3)))), (3, .int v3)] rfl ?_
    refine EW_iinc (v3 + 1) (pc2 := 238) rfl dX12_count_235 2 rfl rfl (by decide) [1, 2, 0] [(0, .ref 246), (2, .int (v2 + (x.1 263 (Int32.toNatClampNeg v3)))), (3, .int (v3 + 1))] rfl ?_
    refine EW_goto (tgt := 218) dX12_count_238 (by decide) ?_
    exact hL218 (v2 + (x.1 263 (Int32.toNatClampNeg v3))) (v3 + 1) h
set_option maxHeartbeats 4000000 in
set_option maxRecDepth 100000 in
def wX12_count_269 (v3 : Int32) (s0 : Int32) (s1 : Int32) (x : ab_X) (K : Int32 → ab_X → Prop) (L245 : Int32 → Int32 → Prop) : Prop := L245 (s0 + s1) (v3 + 1)
set_option maxHeartbeats 4000000 in
set_option maxRecDepth 100000 in
theorem sX12_count_269 (v3 : Int32) (s0 : Int32) (s1 : Int32)  (x : ab_X) (K : Int32 → ab_X → Prop) (L245 : Int32 → Int32 → Prop) (d bc bs : Nat) (hdp : 0 ≤ d) (hL245 : ∀ (v2 : Int32) (v3 : Int32), L245 v2 v3 → EW MX12_count 245 [(0, .ref 246), (2, .int v2), (3, .int v3)] [] (aS x) d bc bs (liI K)) (h : wX12_count_269 v3 s0 s1 x K L245) : EW MX12_count 269 [(0, .ref 246), (3, .int v3)] [.int s1, .int s0] (aS x) d bc bs (liI K) := by
  unfold wX12_count_269 at h
  refine EW_iadd (pc2 := 270) rfl dX12_count_269 ?_
  refine EW_istore_n (pc2 := 271) rfl dX12_count_270 (by decide) [1, 0, 2] [(0, .ref 246), (2, .int (s0 + s1)), (3, .int v3)] rfl ?_
  refine EW_iinc (v3 + 1) (pc2 := 274) rfl dX12_count_271 2 rfl rfl (by decide) [1, 2, 0] [(0, .ref 246), (2, .int (s0 + s1)), (3, .int (v3 + 1))] rfl ?_
  refine EW_goto (tgt := 245) dX12_count_274 (by decide) ?_
  exact hL245 (s0 + s1) (v3 + 1) h
set_option maxHeartbeats 4000000 in
set_option maxRecDepth 100000 in
def lX12_count_245  (x : ab_X) (K : Int32 → ab_X → Prop)  (L245 : Int32 → Int32 → Prop) (v2 : Int32) (v3 : Int32) : Prop := (((x.1 246 58) ≤ v3 → K v2 x) ∧ (¬ (x.1 246 58) ≤ v3 → (vp_in v3 16 ∧ ((¬ (x.1 286 (Int32.toNatClampNeg v3)) = 4 → wX12_count_269 v3 v2 0 x K L245) ∧ ((x.1 286 (Int32.toNatClampNeg v3)) = 4 → wX12_count_269 v3 v2 1 x K L245)))))
set_option maxHeartbeats 4000000 in
set_option maxRecDepth 100000 in
theorem sX12_count_245 (v2 : Int32) (v3 : Int32)  (x : ab_X) (K : Int32 → ab_X → Prop)  (d bc bs : Nat) (hdp : 0 ≤ d)  (h : Lp2 (lX12_count_245  x K ) v2 v3) : EW MX12_count 245 [(0, .ref 246), (2, .int v2), (3, .int v3)] [] (aS x) d bc bs (liI K) := by
  refine Lp2.use (P := fun v2 v3 => EW MX12_count 245 [(0, .ref 246), (2, .int v2), (3, .int v3)] [] (aS x) d bc bs (liI K)) (fun L245 v2 v3 hL245 h => ?_) v2 v3 h
  unfold lX12_count_245 at h
  refine EW_iload_n (pc2 := 246) rfl dX12_count_245 2 rfl ?_
  refine EW_aload_n (pc2 := 247) rfl dX12_count_246 0 rfl ?_
  refine AW_geti ⟨gfRX12_366, rfl⟩ (pc2 := 250) rfl dX12_count_247 q246 ?_
  refine EW_icmp_ge (tgt := 277) (pc2 := 253) rfl dX12_count_250 (by decide) (fun q => ?_) (fun q => ?_)
  · replace h := h.1 q
    refine EW_iload_n (pc2 := 278) rfl dX12_count_277 1 rfl ?_
    exact AW_iret rfl dX12_count_278 ⟨_, _, rfl, rfl, h⟩
  · replace h := h.2 q
    refine EW_iload_n (pc2 := 254) rfl dX12_count_253 1 rfl ?_
    refine EW_aload_n (pc2 := 255) rfl dX12_count_254 0 rfl ?_
    refine AW_getr (r := 286) ⟨gfRX12_128, rfl⟩ (pc2 := 258) rfl dX12_count_255 q246 rfl ?_
    refine EW_iload_n (pc2 := 259) rfl dX12_count_258 2 rfl ?_
    obtain ⟨b5, h⟩ := h
    refine AW_iald (pc2 := 260) rfl dX12_count_259 q286 b5 ?_
    refine EW_iconst (pc2 := 261) (v := 4) rfl dX12_count_260 (by decide) ?_
    refine EW_icmp_ne (tgt := 268) (pc2 := 264) rfl dX12_count_261 (by decide) (fun q => ?_) (fun q => ?_)
    · replace h := h.1 q
      refine EW_iconst (pc2 := 269) (v := 0) rfl dX12_count_268 (by decide) ?_
      refine EW_ls [0, 2] rfl ?_
      exact sX12_count_269 v3 v2 0 x K L245 d bc bs hdp hL245 h
    · replace h := h.2 q
      refine EW_iconst (pc2 := 265) (v := 1) rfl dX12_count_264 (by decide) ?_
      refine EW_goto (tgt := 269) dX12_count_265 (by decide) ?_
      refine EW_ls [0, 2] rfl ?_
      exact sX12_count_269 v3 v2 1 x K L245 d bc bs hdp hL245 h
set_option maxHeartbeats 4000000 in
set_option maxRecDepth 100000 in
def wX12_count (v1 : Int32) (x : ab_X) (K : Int32 → ab_X → Prop) : Prop := (((v1.toInt < 0 ∨ 16 < v1.toInt) → K (-1) (wr x 246 0 0)) ∧ (v1 = 0 → K ((wr x 246 0 0).1 246 1) (wr x 246 0 0)) ∧ (v1 = 1 → K ((wr x 246 0 0).1 246 9) (wr x 246 0 0)) ∧ (v1 = 2 → K ((wr x 246 0 0).1 246 31) (wr x 246 0 0)) ∧ (v1 = 3 → K ((wr x 246 0 0).1 246 58) (wr x 246 0 0)) ∧ (v1 = 4 → K ((wr x 246 0 0).1 246 92) (wr x 246 0 0)) ∧ (v1 = 5 → Lp2 (lX12_count_119 v1 (wr x 246 0 0) K ) 0 0) ∧ (v1 = 6 → Lp2 (lX12_count_119 v1 (wr x 246 0 0) K ) 0 0) ∧ (v1 = 7 → Lp2 (lX12_count_164 (wr x 246 0 0) K ) 0 0) ∧ (v1 = 8 → Lp2 (lX12_count_191 (wr x 246 0 0) K ) 0 0) ∧ (v1 = 9 → Lp2 (lX12_count_218 (wr x 246 0 0) K ) 0 0) ∧ (v1 = 10 → Lp2 (lX12_count_245 (wr x 246 0 0) K ) 0 0) ∧ (v1 = 11 → K ((wr x 246 0 0).1 246 72) (wr x 246 0 0)) ∧ (v1 = 12 → K ((wr x 246 0 0).1 246 71) (wr x 246 0 0)) ∧ (v1 = 13 → K ((wr x 246 0 0).1 246 70) (wr x 246 0 0)) ∧ (v1 = 14 → K ((wr x 246 0 0).1 246 56) (wr x 246 0 0)) ∧ (v1 = 15 → K ((wr x 246 0 0).1 246 57) (wr x 246 0 0)) ∧ (v1 = 16 → K ((wr x 246 0 0).1 246 116) (wr x 246 0 0)))
set_option maxHeartbeats 4000000 in
set_option maxRecDepth 100000 in
theorem sX12_count (v1 : Int32)  (x : ab_X) (K : Int32 → ab_X → Prop) (d bc bs : Nat) (hdp : 0 ≤ d) (h : wX12_count v1 x K) : EW MX12_count 0 [(0, .ref 246), (1, .int v1)] [] (aS x) d bc bs (liI K) := by
  unfold wX12_count at h
  refine EW_aload_n (pc2 := 1) rfl dX12_count_0 0 rfl ?_
  refine EW_iconst (pc2 := 2) (v := 0) rfl dX12_count_1 (by decide) ?_
  refine AW_puti ⟨gfRX12_297, rfl, rfl⟩ (pc2 := 5) rfl dX12_count_2 q246 ?_
  refine EW_iconst (pc2 := 6) (v := 0) rfl dX12_count_5 (by decide) ?_
  refine EW_istore_n (pc2 := 7) rfl dX12_count_6 (by decide) [1, 2, 0] [(0, .ref 246), (1, .int v1), (2, .int 0)] rfl ?_
  refine EW_iload_n (pc2 := 8) rfl dX12_count_7 1 rfl ?_
  by_cases qo : Int32.toInt v1 < 0 ∨ 16 < Int32.toInt v1
  · replace h := h.1 qo
    refine EW_tabOut (tgt := 309) dX12_count_8 qo (by decide) ?_
    refine EW_iconst (pc2 := 310) (v := (-1)) rfl dX12_count_309 (by decide) ?_
    exact AW_iret rfl dX12_count_310 ⟨_, _, rfl, rfl, h⟩
  · obtain ⟨kk, hkk, qk⟩ := sw_in 0 16 (by decide) qo
    match kk, hkk, qk with
    | 0, _, qk =>
      replace h := h.2.1 qk
      refine EW_tabIn (off := 84) (tgt := 92) dX12_count_8 (by rw [qk]; decide) (by rw [qk]; decide) (by rw [qk]; decide) (by decide) ?_
      refine EW_aload_n (pc2 := 93) rfl dX12_count_92 0 rfl ?_
      refine AW_geti ⟨gfRX12_395, rfl⟩ (pc2 := 96) rfl dX12_count_93 q246 ?_
      exact AW_iret rfl dX12_count_96 ⟨_, _, rfl, rfl, h⟩
    | 1, _, qk =>
      replace h := h.2.2.1 qk
      refine EW_tabIn (off := 89) (tgt := 97) dX12_count_8 (by rw [qk]; decide) (by rw [qk]; decide) (by rw [qk]; decide) (by decide) ?_
      refine EW_aload_n (pc2 := 98) rfl dX12_count_97 0 rfl ?_
      refine AW_geti ⟨gfRX12_300, rfl⟩ (pc2 := 101) rfl dX12_count_98 q246 ?_
      exact AW_iret rfl dX12_count_101 ⟨_, _, rfl, rfl, h⟩
    | 2, _, qk =>
      replace h := h.2.2.2.1 qk
      refine EW_tabIn (off := 94) (tgt := 102) dX12_count_8 (by rw [qk]; decide) (by rw [qk]; decide) (by rw [qk]; decide) (by decide) ?_
      refine EW_aload_n (pc2 := 103) rfl dX12_count_102 0 rfl ?_
      refine AW_geti ⟨gfRX12_331, rfl⟩ (pc2 := 106) rfl dX12_count_103 q246 ?_
      exact AW_iret rfl dX12_count_106 ⟨_, _, rfl, rfl, h⟩
    | 3, _, qk =>
      replace h := h.2.2.2.2.1 qk
      refine EW_tabIn (off := 99) (tgt := 107) dX12_count_8 (by rw [qk]; decide) (by rw [qk]; decide) (by rw [qk]; decide) (by decide) ?_
      refine EW_aload_n (pc2 := 108) rfl dX12_count_107 0 rfl ?_
      refine AW_geti ⟨gfRX12_366, rfl⟩ (pc2 := 111) rfl dX12_count_108 q246 ?_
      exact AW_iret rfl dX12_count_111 ⟨_, _, rfl, rfl, h⟩
    | 4, _, qk =>
      replace h := h.2.2.2.2.2.1 qk
      refine EW_tabIn (off := 104) (tgt := 112) dX12_count_8 (by rw [qk]; decide) (by rw [qk]; decide) (by rw [qk]; decide) (by decide) ?_
      refine EW_aload_n (pc2 := 113) rfl dX12_count_112 0 rfl ?_
      refine AW_geti ⟨gfRX12_525, rfl⟩ (pc2 := 116) rfl dX12_count_113 q246 ?_
      exact AW_iret rfl dX12_count_116 ⟨_, _, rfl, rfl, h⟩
    | 5, _, qk =>
      replace h := h.2.2.2.2.2.2.1 qk
      refine EW_tabIn (off := 109) (tgt := 117) dX12_count_8 (by rw [qk]; decide) (by rw [qk]; decide) (by rw [qk]; decide) (by decide) ?_
      refine EW_iconst (pc2 := 118) (v := 0) rfl dX12_count_117 (by decide) ?_
      refine EW_istore_n (pc2 := 119) rfl dX12_count_118 (by decide) [1, 2, 3, 0] [(0, .ref 246), (1, .int v1), (2, .int 0), (3, .int 0)] rfl ?_
      exact sX12_count_119 v1 0 0 (wr x 246 0 0) K d bc bs hdp h
    | 6, _, qk =>
      replace h := h.2.2.2.2.2.2.2.1 qk
      refine EW_tabIn (off := 109) (tgt := 117) dX12_count_8 (by rw [qk]; decide) (by rw [qk]; decide) (by rw [qk]; decide) (by decide) ?_
      refine EW_iconst (pc2 := 118) (v := 0) rfl dX12_count_117 (by decide) ?_
      refine EW_istore_n (pc2 := 119) rfl dX12_count_118 (by decide) [1, 2, 3, 0] [(0, .ref 246), (1, .int v1), (2, .int 0), (3, .int 0)] rfl ?_
      exact sX12_count_119 v1 0 0 (wr x 246 0 0) K d bc bs hdp h
    | 7, _, qk =>
      replace h := h.2.2.2.2.2.2.2.2.1 qk
      refine EW_tabIn (off := 154) (tgt := 162) dX12_count_8 (by rw [qk]; decide) (by rw [qk]; decide) (by rw [qk]; decide) (by decide) ?_
      refine EW_iconst (pc2 := 163) (v := 0) rfl dX12_count_162 (by decide) ?_
      refine EW_istore_n (pc2 := 164) rfl dX12_count_163 (by decide) [1, 2, 3, 0] [(0, .ref 246), (1, .int v1), (2, .int 0), (3, .int 0)] rfl ?_
      refine EW_ls [0, 2, 3] rfl ?_
      exact sX12_count_164 0 0 (wr x 246 0 0) K d bc bs hdp h
    | 8, _, qk =>
      replace h := h.2.2.2.2.2.2.2.2.2.1 qk
      refine EW_tabIn (off := 181) (tgt := 189) dX12_count_8 (by rw [qk]; decide) (by rw [qk]; decide) (by rw [qk]; decide) (by decide) ?_
      refine EW_iconst (pc2 := 190) (v := 0) rfl dX12_count_189 (by decide) ?_
      refine EW_istore_n (pc2 := 191) rfl dX12_count_190 (by decide) [1, 2, 3, 0] [(0, .ref 246), (1, .int v1), (2, .int 0), (3, .int 0)] rfl ?_
      refine EW_ls [0, 2, 3] rfl ?_
      exact sX12_count_191 0 0 (wr x 246 0 0) K d bc bs hdp h
    | 9, _, qk =>
      replace h := h.2.2.2.2.2.2.2.2.2.2.1 qk
      refine EW_tabIn (off := 208) (tgt := 216) dX12_count_8 (by rw [qk]; decide) (by rw [qk]; decide) (by rw [qk]; decide) (by decide) ?_
      refine EW_iconst (pc2 := 217) (v := 0) rfl dX12_count_216 (by decide) ?_
      refine EW_istore_n (pc2 := 218) rfl dX12_count_217 (by decide) [1, 2, 3, 0] [(0, .ref 246), (1, .int v1), (2, .int 0), (3, .int 0)] rfl ?_
      refine EW_ls [0, 2, 3] rfl ?_
      exact sX12_count_218 0 0 (wr x 246 0 0) K d bc bs hdp h
    | 10, _, qk =>
      replace h := h.2.2.2.2.2.2.2.2.2.2.2.1 qk
      refine EW_tabIn (off := 235) (tgt := 243) dX12_count_8 (by rw [qk]; decide) (by rw [qk]; decide) (by rw [qk]; decide) (by decide) ?_
      refine EW_iconst (pc2 := 244) (v := 0) rfl dX12_count_243 (by decide) ?_
      refine EW_istore_n (pc2 := 245) rfl dX12_count_244 (by decide) [1, 2, 3, 0] [(0, .ref 246), (1, .int v1), (2, .int 0), (3, .int 0)] rfl ?_
      refine EW_ls [0, 2, 3] rfl ?_
      exact sX12_count_245 0 0 (wr x 246 0 0) K d bc bs hdp h
    | 11, _, qk =>
      replace h := h.2.2.2.2.2.2.2.2.2.2.2.2.1 qk
      refine EW_tabIn (off := 271) (tgt := 279) dX12_count_8 (by rw [qk]; decide) (by rw [qk]; decide) (by rw [qk]; decide) (by decide) ?_
      refine EW_aload_n (pc2 := 280) rfl dX12_count_279 0 rfl ?_
      refine AW_geti ⟨gfRX12_522, rfl⟩ (pc2 := 283) rfl dX12_count_280 q246 ?_
      exact AW_iret rfl dX12_count_283 ⟨_, _, rfl, rfl, h⟩
    | 12, _, qk =>
      replace h := h.2.2.2.2.2.2.2.2.2.2.2.2.2.1 qk
      refine EW_tabIn (off := 276) (tgt := 284) dX12_count_8 (by rw [qk]; decide) (by rw [qk]; decide) (by rw [qk]; decide) (by decide) ?_
      refine EW_aload_n (pc2 := 285) rfl dX12_count_284 0 rfl ?_
      refine AW_geti ⟨gfRX12_519, rfl⟩ (pc2 := 288) rfl dX12_count_285 q246 ?_
      exact AW_iret rfl dX12_count_288 ⟨_, _, rfl, rfl, h⟩
    | 13, _, qk =>
      replace h := h.2.2.2.2.2.2.2.2.2.2.2.2.2.2.1 qk
      refine EW_tabIn (off := 281) (tgt := 289) dX12_count_8 (by rw [qk]; decide) (by rw [qk]; decide) (by rw [qk]; decide) (by decide) ?_
      refine EW_aload_n (pc2 := 290) rfl dX12_count_289 0 rfl ?_
      refine AW_geti ⟨gfRX12_414, rfl⟩ (pc2 := 293) rfl dX12_count_290 q246 ?_
      exact AW_iret rfl dX12_count_293 ⟨_, _, rfl, rfl, h⟩
    | 14, _, qk =>
      replace h := h.2.2.2.2.2.2.2.2.2.2.2.2.2.2.2.1 qk
      refine EW_tabIn (off := 286) (tgt := 294) dX12_count_8 (by rw [qk]; decide) (by rw [qk]; decide) (by rw [qk]; decide) (by decide) ?_
      refine EW_aload_n (pc2 := 295) rfl dX12_count_294 0 rfl ?_
      refine AW_geti ⟨gfRX12_386, rfl⟩ (pc2 := 298) rfl dX12_count_295 q246 ?_
      exact AW_iret rfl dX12_count_298 ⟨_, _, rfl, rfl, h⟩
    | 15, _, qk =>
      replace h := h.2.2.2.2.2.2.2.2.2.2.2.2.2.2.2.2.1 qk
      refine EW_tabIn (off := 291) (tgt := 299) dX12_count_8 (by rw [qk]; decide) (by rw [qk]; decide) (by rw [qk]; decide) (by decide) ?_
      refine EW_aload_n (pc2 := 300) rfl dX12_count_299 0 rfl ?_
      refine AW_geti ⟨gfRX12_389, rfl⟩ (pc2 := 303) rfl dX12_count_300 q246 ?_
      exact AW_iret rfl dX12_count_303 ⟨_, _, rfl, rfl, h⟩
    | 16, _, qk =>
      replace h := h.2.2.2.2.2.2.2.2.2.2.2.2.2.2.2.2.2 qk
      refine EW_tabIn (off := 296) (tgt := 304) dX12_count_8 (by rw [qk]; decide) (by rw [qk]; decide) (by rw [qk]; decide) (by decide) ?_
      refine EW_aload_n (pc2 := 305) rfl dX12_count_304 0 rfl ?_
      refine AW_geti ⟨gfRX12_648, rfl⟩ (pc2 := 308) rfl dX12_count_305 q246 ?_
      exact AW_iret rfl dX12_count_308 ⟨_, _, rfl, rfl, h⟩
    | n9 + 17, hkk, _ => exact absurd hkk (by omega)
