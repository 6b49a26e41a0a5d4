def tL_would_J265 (x : HV) (v : SV) (v2 : SV) (x1 : Int32) (y10_265 : Int32) (z0_265 : Int32) (v_265 : SV × HV) : (SV × HV) × Int32 := if y10_265 = 0 then (((v_265.1, v_265.2), 0)) else (let r_26 := fX5_betterWay v_265.2 x1
  if r_26.2 = z0_265 then (((v_265.1, r_26.1), 1)) else (((v_265.1, r_26.1), 0)))
def tL_would_J186 (x : HV) (v : SV) (v2 : SV) (x1 : Int32) (z0_186 : Int32) (v_186 : SV × HV) : (SV × HV) × Int32 := let w_19 : Int32 := (1 : Int32) - ((v 4) 5); let r_22 := fL_prints (mkL (fL_copy 24 (v 0) 24 (v_186.1 0)) (v_186.1 1) (v_186.1 2) (v_186.1 3) (upd (fL_copy 21 (v 4) 21 (v_186.1 4)) 5 w_19)) x1
  if ((v_186.1 4) 16) = ((r_22 4) 16) then (tL_would_J265 x v v2 x1 z0_186 0 (r_22, v_186.2)) else (if ((r_22 4) 16) ≤ ((v_186.1 4) 16) then (tL_would_J265 x v v2 x1 z0_186 ((1 : Int32) - ((v 4) 5)) (r_22, v_186.2)) else (tL_would_J265 x v v2 x1 z0_186 ((v 4) 5) (r_22, v_186.2)))
def tL_would_66 (x : HV) (v : SV) (v2 : SV) (x1 : Int32) (v_66 : SV × HV) (s : Int32) : (SV × HV) × Int32 := let y9_66 := s; let r_11 := fX5_ifPrinted v_66.2 x1 0
  if r_11.2 = ((v_66.1 4) 16) then (let r_35 := fX5_ifPrinted r_11.1 x1 1
  if r_35.2 = ((v_66.1 4) 17) then (let r_39 := fX5_ifPrinted r_35.1 x1 2
  if r_39.2 = ((v_66.1 4) 18) then (let r_43 := fX5_ifPrinted r_39.1 x1 3
  if r_43.2 = ((v_66.1 4) 19) then (let r_47 := fX5_ifPrinted r_43.1 x1 4
  if r_47.2 = y9_66 then (let r_51 := fX5_ifPrinted r_47.1 0 4
  if r_51.2 = (fX5_count r_51.1 7) then (tL_would_J186 x v v2 x1 1 (v_66.1, r_51.1)) else (tL_would_J186 x v v2 x1 0 (v_66.1, r_51.1))) else (tL_would_J186 x v v2 x1 0 (v_66.1, r_47.1))) else (tL_would_J186 x v v2 x1 0 (v_66.1, r_43.1))) else (tL_would_J186 x v v2 x1 0 (v_66.1, r_39.1))) else (tL_would_J186 x v v2 x1 0 (v_66.1, r_35.1))) else (tL_would_J186 x v v2 x1 0 (v_66.1, r_11.1))
def tL_would_J91 (x : HV) (v : SV) (v2 : SV) (x1 : Int32) (v_66 : SV × HV) (d66 : Nat) (z0_91 : Int32) : Int32 := z0_91
def bL_would_66 (x : HV) (v : SV) (v2 : SV) (x1 : Int32) (v_66 : SV × HV) (d66 : Nat) (s : Int32) : Int32 := let y9_66 := s; if ((v 0) d66) ≤ y9_66 then (tL_would_J91 x v v2 x1 v_66 d66 y9_66) else (tL_would_J91 x v v2 x1 v_66 d66 ((v 0) d66))
def fL_would (x : HV) (v : SV) (v2 : SV) (x1 : Int32) : (SV × HV) × Int32 := let r_8 := fL_prints (mkL (fL_copy 24 (v 0) 24 (v2 0)) (v2 1) (v2 2) (v2 3) (fL_copy 21 (v 4) 21 (v2 4))) x1
  tL_would_66 x v v2 x1 (r_8, x) (lpF 24 0 (bL_would_66 x v v2 x1 (r_8, x)) ((r_8 4) 20))
theorem LSn_way {v : SV} {n : Nat → Int32} {w : Int32} (h : Lgs v) (g : LSn n) (e : w = 1 - v 4 5) : LSn (upd n 5 w) := by
  obtain ⟨-, -, -, -, -, ⟨c, c1, c2⟩, -⟩ := h
  obtain ⟨a0, a1, a2, a3, a4, -, a6, a7⟩ := g
  refine ⟨a0, a1, a2, a3, a4, ⟨1 - c, by omega, ?_⟩, a6, a7⟩
  show w = _
  rw [e, c2]
  exact nE_sub (a := 1) (b := c) rfl rfl c1
theorem dL_would_0 : decode cL_would 0 = .ok (.bipush 24, 2) := by decide +kernel
theorem dL_would_2 : decode cL_would 2 = .ok (.newarray .int, 2) := by decide +kernel
theorem dL_would_4 : decode cL_would 4 = .ok (.astore 4, 2) := by decide +kernel
theorem dL_would_6 : decode cL_would 6 = .ok (.bipush 21, 2) := by decide +kernel
theorem dL_would_8 : decode cL_would 8 = .ok (.newarray .int, 2) := by decide +kernel
theorem dL_would_10 : decode cL_would 10 = .ok (.astore 5, 2) := by decide +kernel
theorem dL_would_12 : decode cL_would 12 = .ok (.bipush 24, 2) := by decide +kernel
theorem dL_would_14 : decode cL_would 14 = .ok (.newarray .int, 2) := by decide +kernel
theorem dL_would_16 : decode cL_would 16 = .ok (.astore 6, 2) := by decide +kernel
theorem dL_would_18 : decode cL_would 18 = .ok (.bipush 24, 2) := by decide +kernel
theorem dL_would_20 : decode cL_would 20 = .ok (.newarray .int, 2) := by decide +kernel
theorem dL_would_22 : decode cL_would 22 = .ok (.astore 7, 2) := by decide +kernel
theorem dL_would_24 : decode cL_would 24 = .ok (.bipush 36, 2) := by decide +kernel
theorem dL_would_26 : decode cL_would 26 = .ok (.newarray .int, 2) := by decide +kernel
theorem dL_would_28 : decode cL_would 28 = .ok (.astore 8, 2) := by decide +kernel
theorem dL_would_30 : decode cL_would 30 = .ok (.aload_n 1, 1) := by decide +kernel
theorem dL_would_31 : decode cL_would 31 = .ok (.aload 4, 2) := by decide +kernel
theorem dL_would_33 : decode cL_would 33 = .ok (.invokestatic 58, 3) := by decide +kernel
theorem dL_would_36 : decode cL_would 36 = .ok (.aload_n 2, 1) := by decide +kernel
theorem dL_would_37 : decode cL_would 37 = .ok (.aload 5, 2) := by decide +kernel
theorem dL_would_39 : decode cL_would 39 = .ok (.invokestatic 58, 3) := by decide +kernel
theorem dL_would_42 : decode cL_would 42 = .ok (.aload 4, 2) := by decide +kernel
theorem dL_would_44 : decode cL_would 44 = .ok (.aload 6, 2) := by decide +kernel
theorem dL_would_46 : decode cL_would 46 = .ok (.aload 7, 2) := by decide +kernel
theorem dL_would_48 : decode cL_would 48 = .ok (.aload 8, 2) := by decide +kernel
theorem dL_would_50 : decode cL_would 50 = .ok (.aload 5, 2) := by decide +kernel
theorem dL_would_52 : decode cL_would 52 = .ok (.iload_n 3, 1) := by decide +kernel
theorem dL_would_53 : decode cL_would 53 = .ok (.invokestatic 62, 3) := by decide +kernel
theorem dL_would_56 : decode cL_would 56 = .ok (.aload 5, 2) := by decide +kernel
theorem dL_would_58 : decode cL_would 58 = .ok (.bipush 20, 2) := by decide +kernel
theorem dL_would_60 : decode cL_would 60 = .ok (.iaload, 1) := by decide +kernel
theorem dL_would_61 : decode cL_would 61 = .ok (.istore 9, 2) := by decide +kernel
theorem dL_would_63 : decode cL_would 63 = .ok (.iconst 0, 1) := by decide +kernel
theorem dL_would_64 : decode cL_would 64 = .ok (.istore 10, 2) := by decide +kernel
theorem dL_would_66 : decode cL_would 66 = .ok (.iload 10, 2) := by decide +kernel
theorem dL_would_68 : decode cL_would 68 = .ok (.bipush 24, 2) := by decide +kernel
theorem dL_would_70 : decode cL_would 70 = .ok (.if_icmp .ge 29, 3) := by decide +kernel
theorem dL_would_73 : decode cL_would 73 = .ok (.aload_n 1, 1) := by decide +kernel
theorem dL_would_74 : decode cL_would 74 = .ok (.iload 10, 2) := by decide +kernel
theorem dL_would_76 : decode cL_would 76 = .ok (.iaload, 1) := by decide +kernel
theorem dL_would_77 : decode cL_would 77 = .ok (.iload 9, 2) := by decide +kernel
theorem dL_would_79 : decode cL_would 79 = .ok (.if_icmp .le 10, 3) := by decide +kernel
theorem dL_would_82 : decode cL_would 82 = .ok (.aload_n 1, 1) := by decide +kernel
theorem dL_would_83 : decode cL_would 83 = .ok (.iload 10, 2) := by decide +kernel
theorem dL_would_85 : decode cL_would 85 = .ok (.iaload, 1) := by decide +kernel
theorem dL_would_86 : decode cL_would 86 = .ok (.goto 5, 3) := by decide +kernel
theorem dL_would_89 : decode cL_would 89 = .ok (.iload 9, 2) := by decide +kernel
theorem dL_would_91 : decode cL_would 91 = .ok (.istore 9, 2) := by decide +kernel
theorem dL_would_93 : decode cL_would 93 = .ok (.iinc 10 1, 3) := by decide +kernel
theorem dL_would_96 : decode cL_would 96 = .ok (.goto (-30), 3) := by decide +kernel
theorem dL_would_99 : decode cL_would 99 = .ok (.aload_n 0, 1) := by decide +kernel
theorem dL_would_100 : decode cL_would 100 = .ok (.iload_n 3, 1) := by decide +kernel
theorem dL_would_101 : decode cL_would 101 = .ok (.iconst 0, 1) := by decide +kernel
theorem dL_would_102 : decode cL_would 102 = .ok (.invokevirtual 66, 3) := by decide +kernel
theorem dL_would_105 : decode cL_would 105 = .ok (.aload 5, 2) := by decide +kernel
theorem dL_would_107 : decode cL_would 107 = .ok (.bipush 16, 2) := by decide +kernel
theorem dL_would_109 : decode cL_would 109 = .ok (.iaload, 1) := by decide +kernel
theorem dL_would_110 : decode cL_would 110 = .ok (.if_icmp .ne 75, 3) := by decide +kernel
theorem dL_would_113 : decode cL_would 113 = .ok (.aload_n 0, 1) := by decide +kernel
theorem dL_would_114 : decode cL_would 114 = .ok (.iload_n 3, 1) := by decide +kernel
theorem dL_would_115 : decode cL_would 115 = .ok (.iconst 1, 1) := by decide +kernel
theorem dL_would_116 : decode cL_would 116 = .ok (.invokevirtual 66, 3) := by decide +kernel
theorem dL_would_119 : decode cL_would 119 = .ok (.aload 5, 2) := by decide +kernel
theorem dL_would_121 : decode cL_would 121 = .ok (.bipush 17, 2) := by decide +kernel
theorem dL_would_123 : decode cL_would 123 = .ok (.iaload, 1) := by decide +kernel
theorem dL_would_124 : decode cL_would 124 = .ok (.if_icmp .ne 61, 3) := by decide +kernel
theorem dL_would_127 : decode cL_would 127 = .ok (.aload_n 0, 1) := by decide +kernel
theorem dL_would_128 : decode cL_would 128 = .ok (.iload_n 3, 1) := by decide +kernel
theorem dL_would_129 : decode cL_would 129 = .ok (.iconst 2, 1) := by decide +kernel
theorem dL_would_130 : decode cL_would 130 = .ok (.invokevirtual 66, 3) := by decide +kernel
theorem dL_would_133 : decode cL_would 133 = .ok (.aload 5, 2) := by decide +kernel
theorem dL_would_135 : decode cL_would 135 = .ok (.bipush 18, 2) := by decide +kernel
theorem dL_would_137 : decode cL_would 137 = .ok (.iaload, 1) := by decide +kernel
theorem dL_would_138 : decode cL_would 138 = .ok (.if_icmp .ne 47, 3) := by decide +kernel
theorem dL_would_141 : decode cL_would 141 = .ok (.aload_n 0, 1) := by decide +kernel
theorem dL_would_142 : decode cL_would 142 = .ok (.iload_n 3, 1) := by decide +kernel
theorem dL_would_143 : decode cL_would 143 = .ok (.iconst 3, 1) := by decide +kernel
theorem dL_would_144 : decode cL_would 144 = .ok (.invokevirtual 66, 3) := by decide +kernel
theorem dL_would_147 : decode cL_would 147 = .ok (.aload 5, 2) := by decide +kernel
theorem dL_would_149 : decode cL_would 149 = .ok (.bipush 19, 2) := by decide +kernel
theorem dL_would_151 : decode cL_would 151 = .ok (.iaload, 1) := by decide +kernel
theorem dL_would_152 : decode cL_would 152 = .ok (.if_icmp .ne 33, 3) := by decide +kernel
theorem dL_would_155 : decode cL_would 155 = .ok (.aload_n 0, 1) := by decide +kernel
theorem dL_would_156 : decode cL_would 156 = .ok (.iload_n 3, 1) := by decide +kernel
theorem dL_would_157 : decode cL_would 157 = .ok (.iconst 4, 1) := by decide +kernel
theorem dL_would_158 : decode cL_would 158 = .ok (.invokevirtual 66, 3) := by decide +kernel
theorem dL_would_161 : decode cL_would 161 = .ok (.iload 9, 2) := by decide +kernel
theorem dL_would_163 : decode cL_would 163 = .ok (.if_icmp .ne 22, 3) := by decide +kernel
theorem dL_would_166 : decode cL_would 166 = .ok (.aload_n 0, 1) := by decide +kernel
theorem dL_would_167 : decode cL_would 167 = .ok (.iconst 0, 1) := by decide +kernel
theorem dL_would_168 : decode cL_would 168 = .ok (.iconst 4, 1) := by decide +kernel
theorem dL_would_169 : decode cL_would 169 = .ok (.invokevirtual 66, 3) := by decide +kernel
theorem dL_would_172 : decode cL_would 172 = .ok (.aload_n 0, 1) := by decide +kernel
theorem dL_would_173 : decode cL_would 173 = .ok (.bipush 7, 2) := by decide +kernel
theorem dL_would_175 : decode cL_would 175 = .ok (.invokevirtual 40, 3) := by decide +kernel
theorem dL_would_178 : decode cL_would 178 = .ok (.if_icmp .ne 7, 3) := by decide +kernel
theorem dL_would_181 : decode cL_would 181 = .ok (.iconst 1, 1) := by decide +kernel
theorem dL_would_182 : decode cL_would 182 = .ok (.goto 4, 3) := by decide +kernel
theorem dL_would_185 : decode cL_would 185 = .ok (.iconst 0, 1) := by decide +kernel
theorem dL_would_186 : decode cL_would 186 = .ok (.istore 10, 2) := by decide +kernel
theorem dL_would_188 : decode cL_would 188 = .ok (.aload 5, 2) := by decide +kernel
theorem dL_would_190 : decode cL_would 190 = .ok (.bipush 16, 2) := by decide +kernel
theorem dL_would_192 : decode cL_would 192 = .ok (.iaload, 1) := by decide +kernel
theorem dL_would_193 : decode cL_would 193 = .ok (.istore 11, 2) := by decide +kernel
theorem dL_would_195 : decode cL_would 195 = .ok (.aload_n 1, 1) := by decide +kernel
theorem dL_would_196 : decode cL_would 196 = .ok (.aload 4, 2) := by decide +kernel
theorem dL_would_198 : decode cL_would 198 = .ok (.invokestatic 58, 3) := by decide +kernel
theorem dL_would_201 : decode cL_would 201 = .ok (.aload_n 2, 1) := by decide +kernel
theorem dL_would_202 : decode cL_would 202 = .ok (.aload 5, 2) := by decide +kernel
theorem dL_would_204 : decode cL_would 204 = .ok (.invokestatic 58, 3) := by decide +kernel
theorem dL_would_207 : decode cL_would 207 = .ok (.aload 5, 2) := by decide +kernel
theorem dL_would_209 : decode cL_would 209 = .ok (.iconst 5, 1) := by decide +kernel
theorem dL_would_210 : decode cL_would 210 = .ok (.iconst 1, 1) := by decide +kernel
theorem dL_would_211 : decode cL_would 211 = .ok (.aload_n 2, 1) := by decide +kernel
theorem dL_would_212 : decode cL_would 212 = .ok (.iconst 5, 1) := by decide +kernel
theorem dL_would_213 : decode cL_would 213 = .ok (.iaload, 1) := by decide +kernel
theorem dL_would_214 : decode cL_would 214 = .ok (.isub, 1) := by decide +kernel
theorem dL_would_215 : decode cL_would 215 = .ok (.iastore, 1) := by decide +kernel
theorem dL_would_216 : decode cL_would 216 = .ok (.aload 4, 2) := by decide +kernel
theorem dL_would_218 : decode cL_would 218 = .ok (.aload 6, 2) := by decide +kernel
theorem dL_would_220 : decode cL_would 220 = .ok (.aload 7, 2) := by decide +kernel
theorem dL_would_222 : decode cL_would 222 = .ok (.aload 8, 2) := by decide +kernel
theorem dL_would_224 : decode cL_would 224 = .ok (.aload 5, 2) := by decide +kernel
theorem dL_would_226 : decode cL_would 226 = .ok (.iload_n 3, 1) := by decide +kernel
theorem dL_would_227 : decode cL_would 227 = .ok (.invokestatic 62, 3) := by decide +kernel
theorem dL_would_230 : decode cL_would 230 = .ok (.iload 11, 2) := by decide +kernel
theorem dL_would_232 : decode cL_would 232 = .ok (.aload 5, 2) := by decide +kernel
theorem dL_would_234 : decode cL_would 234 = .ok (.bipush 16, 2) := by decide +kernel
theorem dL_would_236 : decode cL_would 236 = .ok (.iaload, 1) := by decide +kernel
theorem dL_would_237 : decode cL_would 237 = .ok (.if_icmp .ne 7, 3) := by decide +kernel
theorem dL_would_240 : decode cL_would 240 = .ok (.iconst 0, 1) := by decide +kernel
theorem dL_would_241 : decode cL_would 241 = .ok (.goto 24, 3) := by decide +kernel
theorem dL_would_244 : decode cL_would 244 = .ok (.iload 11, 2) := by decide +kernel
theorem dL_would_246 : decode cL_would 246 = .ok (.aload 5, 2) := by decide +kernel
theorem dL_would_248 : decode cL_would 248 = .ok (.bipush 16, 2) := by decide +kernel
theorem dL_would_250 : decode cL_would 250 = .ok (.iaload, 1) := by decide +kernel
theorem dL_would_251 : decode cL_would 251 = .ok (.if_icmp .ge 9, 3) := by decide +kernel
theorem dL_would_254 : decode cL_would 254 = .ok (.aload_n 2, 1) := by decide +kernel
theorem dL_would_255 : decode cL_would 255 = .ok (.iconst 5, 1) := by decide +kernel
theorem dL_would_256 : decode cL_would 256 = .ok (.iaload, 1) := by decide +kernel
theorem dL_would_257 : decode cL_would 257 = .ok (.goto 8, 3) := by decide +kernel
theorem dL_would_260 : decode cL_would 260 = .ok (.iconst 1, 1) := by decide +kernel
theorem dL_would_261 : decode cL_would 261 = .ok (.aload_n 2, 1) := by decide +kernel
theorem dL_would_262 : decode cL_would 262 = .ok (.iconst 5, 1) := by decide +kernel
theorem dL_would_263 : decode cL_would 263 = .ok (.iaload, 1) := by decide +kernel
theorem dL_would_264 : decode cL_would 264 = .ok (.isub, 1) := by decide +kernel
theorem dL_would_265 : decode cL_would 265 = .ok (.istore 12, 2) := by decide +kernel
theorem dL_would_267 : decode cL_would 267 = .ok (.iload 10, 2) := by decide +kernel
theorem dL_would_269 : decode cL_would 269 = .ok (.ifCond .eq 17, 3) := by decide +kernel
theorem dL_would_272 : decode cL_would 272 = .ok (.aload_n 0, 1) := by decide +kernel
theorem dL_would_273 : decode cL_would 273 = .ok (.iload_n 3, 1) := by decide +kernel
theorem dL_would_274 : decode cL_would 274 = .ok (.invokevirtual 69, 3) := by decide +kernel
theorem dL_would_277 : decode cL_would 277 = .ok (.iload 12, 2) := by decide +kernel
theorem dL_would_279 : decode cL_would 279 = .ok (.if_icmp .ne 7, 3) := by decide +kernel
theorem dL_would_282 : decode cL_would 282 = .ok (.iconst 1, 1) := by decide +kernel
theorem dL_would_283 : decode cL_would 283 = .ok (.goto 4, 3) := by decide +kernel
theorem dL_would_286 : decode cL_would 286 = .ok (.iconst 0, 1) := by decide +kernel
theorem dL_would_287 : decode cL_would 287 = .ok (.ireturn, 1) := by decide +kernel
set_option maxHeartbeats 4000000 in
set_option maxRecDepth 100000 in
theorem w_L_would {p : Program} {l : Launch} {e : Env} {s : State} {m : MethodId} {below : List Frame} {meth : Method} {c : Code} {G : GT} {a : Nat → Nat} {b : Nat → Nat} {x : HV} {q : Nat → Nat} {v : SV} {q2 : Nat → Nat} {v2 : SV} {x1 : Int32} {N : Nat} {H : Heap} {locs : List Loc} {ls : Array Slot} (hC : CX p s m meth c yL_would cL_would 13 (some .boolean) ([.ref (a 0), .ref (q 0), .ref (q 4), .int x1] : List Value).toArray) (hKN : KN G s s.heap) (hNL : gL G ≤ N) (hql : lwD G q2) (hq : hdD G a b) (hN : ∀ z, lwA q2 z → ¬ hdA a b z) (hqN : ∀ z, lwA q2 z → N ≤ z) (hqm : ∀ z, lwA q z → ¬ wdA a b N z) (hqq : ∀ i j, i < 5 → j < 5 → ¬ q i = q2 j) (hLS : Lgs v) (hx : ¬ fX5_isLine x1 = 0) (hP2 : PW G (lwW G q v) s.heap) (hP : PW G (lwW G q2 v2 ++ hdW G a b x) H) (hS : va_S (wdA a b N) s.heap H locs) (hl : lv_has ls 13 [(0, .ref (a 0)), (1, .ref (q 0)), (2, .ref (q 4)), (3, .int x1), (4, .ref (q2 0)), (5, .ref (q2 4)), (6, .ref (q2 1)), (7, .ref (q2 2)), (8, .ref (q2 3))]) : W p l e ({ frames := 7, cells := 5, slots := 129, locals := 164 }) s m ([.ref (a 0), .ref (q 0), .ref (q 4), .int x1] : List Value).toArray below meth c H locs 5 129 (MQ below (QE (some (.int (fL_would x v v2 x1).2)) (fun H => PW G (hdW G a b (fL_would x v v2 x1).1.2) H) (wdA a b N)) ([.ref (a 0), .ref (q 0), .ref (q 4), .int x1] : List Value).toArray s 5 129 (wdA a b N)) (F0 m 30 ls []) := by
  have hAL : ∀ z, wdA a b N z → gL G ≤ z := fun z h => h.elim (hdD_low hq z) (fun h => Nat.le_trans hNL h)
  have hAq : ∀ z, lwA q2 z → wdA a b N z := fun z h => Or.inr (hqN z h)
  have hAb : ∀ z, hdA a b z → wdA a b N z := fun _ h => Or.inl h
  have hI : True := trivial
  have hg : fL_would x v v2 x1 = fL_would x v v2 x1 := rfl
  refine lv_aload_n hC.1 hC.2.1 dL_would_30 rfl (lv_at hl 1 rfl) ?_
  refine lv_aload hC.1 hC.2.1 dL_would_31 (lv_at hl 4 rfl) ?_
  refine runE (rS (B := fun U H => RD (q 0) 24 (v 0) U H ∧ PW G (a1W G (q2 0) 24 (v2 0)) H) (As := [.ref (q 0), .ref (q2 0)]) (rest := []) hC mwL_copy (c_L_copy l G (q 0) 24 (v 0) (q2 0) 24 (v2 0) (hql.1 0 (by decide)) (by decide) (by decide) (hqq 0 0 (by decide) (by decide))) wd_428 wd_427 ⟨rfl, rfl⟩ ⟨Nat.le_of_ble_eq_true rfl, Nat.le_of_ble_eq_true rfl⟩ (stb_and (stb_RD _ _ _) (stb_h (fun H => PW G (a1W G (q2 0) 24 (v2 0)) H))) (hKN.go hAL hS) ⟨(RD.ofP (hKN.go hAL hS) (keepS hP2 hS (lw_na hqm v)) 0 rfl), (one_of hP 0 rfl)⟩ rfl hl.1 rfl (Nat.le_of_ble_eq_true rfl) dL_would_33 ⟨Nat.le_refl _, Nat.le_refl _⟩) hS (fun _ h => (hAq _ ⟨0, by decide, h⟩)) (fun _ h => (hAq _ ⟨0, by decide, h⟩)) (fun H locs hq_1 _ hk_3 hS => ?_)
  have hP : PW G (lwW G q2 (mkL (fL_copy 24 (v 0) 24 (v2 0)) (v2 1) (v2 2) (v2 3) (v2 4)) ++ hdW G a b x) H := one_set hP (jn_D hql hq hN hAq hAb v2 x) 0 rfl hq_1 hk_3
  have hI : True := trivial
  refine lv_aload_n hC.1 hC.2.1 dL_would_36 rfl (lv_at hl 2 rfl) ?_
  refine lv_aload hC.1 hC.2.1 dL_would_37 (lv_at hl 5 rfl) ?_
  refine runE (rS (B := fun U H => RD (q 4) 21 (v 4) U H ∧ PW G (a1W G (q2 4) 21 (v2 4)) H) (As := [.ref (q 4), .ref (q2 4)]) (rest := []) hC mwL_copy (c_L_copy l G (q 4) 21 (v 4) (q2 4) 21 (v2 4) (hql.1 4 (by decide)) (by decide) (by decide) (hqq 4 4 (by decide) (by decide))) wd_428 wd_427 ⟨rfl, rfl⟩ ⟨Nat.le_of_ble_eq_true rfl, Nat.le_of_ble_eq_true rfl⟩ (stb_and (stb_RD _ _ _) (stb_h (fun H => PW G (a1W G (q2 4) 21 (v2 4)) H))) (hKN.go hAL hS) ⟨(RD.ofP (hKN.go hAL hS) (keepS hP2 hS (lw_na hqm v)) 4 rfl), (one_of hP 4 rfl)⟩ rfl hl.1 rfl (Nat.le_of_ble_eq_true rfl) dL_would_39 ⟨Nat.le_refl _, Nat.le_refl _⟩) hS (fun _ h => (hAq _ ⟨4, by decide, h⟩)) (fun _ h => (hAq _ ⟨4, by decide, h⟩)) (fun H locs hq_4 _ hk_6 hS => ?_)
  have hP : PW G (lwW G q2 (mkL (fL_copy 24 (v 0) 24 (v2 0)) (v2 1) (v2 2) (v2 3) (fL_copy 21 (v 4) 21 (v2 4))) ++ hdW G a b x) H := one_set hP (jn_D hql hq hN hAq hAb (mkL (fL_copy 24 (v 0) 24 (v2 0)) (v2 1) (v2 2) (v2 3) (v2 4)) x) 4 rfl hq_4 hk_6
  have hI : Lgs ((mkL (fL_copy 24 (v 0) 24 (v2 0)) (v2 1) (v2 2) (v2 3) (fL_copy 21 (v 4) 21 (v2 4)), x)).1 := (LS_copy hLS)
  refine lv_aload hC.1 hC.2.1 dL_would_42 (lv_at hl 4 rfl) ?_
  refine lv_aload hC.1 hC.2.1 dL_would_44 (lv_at hl 6 rfl) ?_
  refine lv_aload hC.1 hC.2.1 dL_would_46 (lv_at hl 7 rfl) ?_
  refine lv_aload hC.1 hC.2.1 dL_would_48 (lv_at hl 8 rfl) ?_
  refine lv_aload hC.1 hC.2.1 dL_would_50 (lv_at hl 5 rfl) ?_
  refine lv_iload_n hC.1 hC.2.1 dL_would_52 rfl (lv_at hl 3 rfl) ?_
  refine runE (rS (B := fun U H => PW G (lwW G q2 (mkL (fL_copy 24 (v 0) 24 (v2 0)) (v2 1) (v2 2) (v2 3) (fL_copy 21 (v 4) 21 (v2 4)))) H) (As := [.ref (q2 0), .ref (q2 1), .ref (q2 2), .ref (q2 3), .ref (q2 4), .int x1]) (rest := []) hC mwL_prints (c_L_prints l G q2 (mkL (fL_copy 24 (v 0) 24 (v2 0)) (v2 1) (v2 2) (v2 3) (fL_copy 21 (v 4) 21 (v2 4))) x1 hql hI) wd_431 wd_430 ⟨rfl, rfl⟩ ⟨Nat.le_of_ble_eq_true rfl, Nat.le_of_ble_eq_true rfl⟩ (stb_h (fun H => PW G (lwW G q2 (mkL (fL_copy 24 (v 0) 24 (v2 0)) (v2 1) (v2 2) (v2 3) (fL_copy 21 (v 4) 21 (v2 4)))) H)) (hKN.go hAL hS) (PW_app.mp hP).1 rfl hl.1 rfl (Nat.le_of_ble_eq_true rfl) dL_would_53 ⟨Nat.le_refl _, Nat.le_refl _⟩) hS (fun _ h => hAq _ h) (fun _ h => hAq _ h) (fun H locs hq_7 _ hk_9 hS => ?_)
  have hP := jn_lw hq hN hP hk_9 hq_7
  obtain ⟨r_8, er_8⟩ : ∃ z, z = fL_prints (mkL (fL_copy 24 (v 0) 24 (v2 0)) (v2 1) (v2 2) (v2 3) (fL_copy 21 (v 4) 21 (v2 4))) x1 := ⟨_, rfl⟩
  rw [← er_8] at hP
  have hI : Lgs ((r_8, x)).1 := by rw [er_8]; exact (I_L_prints _ _ hI)
  refine lv_aload hC.1 hC.2.1 dL_would_56 (lv_at hl 5 rfl) ?_
  refine lv_bipush (v := 20) hC.1 hC.2.1 dL_would_58 (by decide +kernel) ?_
  refine iald_k hC (hKN.go hAL hS) hP 4 rfl (n := 21) (f := (r_8 4)) 20 (rfl) (by omega) (by first | decide | omega) dL_would_60 ?_
  refine lv_istore (lv' := [(9, .int ((r_8 4) 20)), (0, .ref (a 0)), (1, .ref (q 0)), (2, .ref (q 4)), (3, .int x1), (4, .ref (q2 0)), (5, .ref (q2 4)), (6, .ref (q2 1)), (7, .ref (q2 2)), (8, .ref (q2 3))]) hC.1 hC.2.1 dL_would_61 hl (by decide) rfl (fun ls hl => ?_)
  refine lv_iconst (v := 0) hC.1 hC.2.1 dL_would_63 (by decide) ?_
  refine lv_istore (lv' := [(10, .int 0), (9, .int ((r_8 4) 20)), (0, .ref (a 0)), (1, .ref (q 0)), (2, .ref (q 4)), (3, .int x1), (4, .ref (q2 0)), (5, .ref (q2 4)), (6, .ref (q2 1)), (7, .ref (q2 2)), (8, .ref (q2 3))]) hC.1 hC.2.1 dL_would_64 hl (by decide) rfl (fun ls hl => ?_)
  have A66 : ∀ (v_66 : SV × HV), ∀ (y9_66 : Int32), fL_would x v v2 x1 = (tL_would_66 x v v2 x1 v_66 y9_66) → Lgs ((v_66.1, v_66.2)).1 → ∀ (H : Heap) (locs : List Loc), PW G (lwW G q2 v_66.1 ++ hdW G a b v_66.2) H → va_S (wdA a b N) s.heap H locs → ∀ (ls : Array Slot), lv_has ls 13 [(0, .ref (a 0)), (1, .ref (q 0)), (2, .ref (q 4)), (3, .int x1), (4, .ref (q2 0)), (5, .ref (q2 4)), (6, .ref (q2 1)), (7, .ref (q2 2)), (8, .ref (q2 3)), (9, .int y9_66)] → W p l e ({ frames := 7, cells := 5, slots := 129, locals := 164 }) s m ([.ref (a 0), .ref (q 0), .ref (q 4), .int x1] : List Value).toArray below meth c H locs 5 129 (MQ below (QE (some (.int (fL_would x v v2 x1).2)) (fun H => PW G (hdW G a b (fL_would x v v2 x1).1.2) H) (wdA a b N)) ([.ref (a 0), .ref (q 0), .ref (q 4), .int x1] : List Value).toArray s 5 129 (wdA a b N)) (F0 m 99 ls []) := by
    intro v_66 y9_66 hg hI H locs hP hS ls hl
    refine lv_aload_n hC.1 hC.2.1 dL_would_99 rfl (lv_at hl 0 rfl) ?_
    refine lv_iload_n hC.1 hC.2.1 dL_would_100 rfl (lv_at hl 3 rfl) ?_
    refine lv_iconst (v := 0) hC.1 hC.2.1 dL_would_101 (by decide) ?_
    refine runE (rV (B := fun U H => PW G (hdW G a b v_66.2) H) (As := [.int x1, .int 0]) (rest := []) hC mwX5_ifPrinted (c_X5_ifPrinted l G a b v_66.2 x1 0 hq hx (by decide +kernel)) iwX5_ifPrinted wd_445 ⟨rfl, rfl⟩ ⟨Nat.le_of_ble_eq_true rfl, Nat.le_of_ble_eq_true rfl⟩ (stb_h (fun H => PW G (hdW G a b v_66.2) H)) (hKN.go hAL hS) (PW_app.mp hP).2 (va_recv (hKN.go hAL hS).k (PW_app.mp hP).2 (ci := 5) (q0 := 0) rfl rfl) rfl hl.1 rfl (Nat.le_of_ble_eq_true rfl) dL_would_102 ⟨Nat.le_refl _, Nat.le_refl _⟩) hS (fun _ h => hAb _ h) (fun _ h => hAb _ h) (fun H locs hq_10 _ hk_12 hS => ?_)
    have hP := jn_hd hql hN hP hk_12 hq_10
    obtain ⟨r_11, er_11⟩ : ∃ z, z = fX5_ifPrinted v_66.2 x1 0 := ⟨_, rfl⟩
    rw [← er_11] at hP
    show W p l e ({ frames := 7, cells := 5, slots := 129, locals := 164 }) s m ([.ref (a 0), .ref (q 0), .ref (q 4), .int x1] : List Value).toArray below meth c H locs (5 + 0) (129 + 0) _ (F0 m (102 + 3) ls [.int ((fX5_ifPrinted v_66.2 x1 0).2)])
    rw [← er_11]
    have hI : Lgs ((v_66.1, r_11.1)).1 := by rw [er_11]; exact hI
    refine lv_aload hC.1 hC.2.1 dL_would_105 (lv_at hl 5 rfl) ?_
    refine lv_bipush (v := 16) hC.1 hC.2.1 dL_would_107 (by decide +kernel) ?_
    refine iald_k hC (hKN.go hAL hS) hP 4 rfl (n := 21) (f := (v_66.1 4)) 16 (rfl) (by omega) (by first | decide | omega) dL_would_109 ?_
    have J186 : ∀ (z0_186 : Int32) (v_186 : SV × HV), fL_would x v v2 x1 = tL_would_J186 x v v2 x1 z0_186 v_186 → Lgs ((v_186.1, v_186.2)).1 → ∀ (H : Heap) (locs : List Loc), PW G (lwW G q2 v_186.1 ++ hdW G a b v_186.2) H → va_S (wdA a b N) s.heap H locs → ∀ (ls : Array Slot), lv_has ls 13 [(0, .ref (a 0)), (1, .ref (q 0)), (2, .ref (q 4)), (3, .int x1), (4, .ref (q2 0)), (5, .ref (q2 4)), (6, .ref (q2 1)), (7, .ref (q2 2)), (8, .ref (q2 3))] → W p l e ({ frames := 7, cells := 5, slots := 129, locals := 164 }) s m ([.ref (a 0), .ref (q 0), .ref (q 4), .int x1] : List Value).toArray below meth c H locs 5 129 (MQ below (QE (some (.int (fL_would x v v2 x1).2)) (fun H => PW G (hdW G a b (fL_would x v v2 x1).1.2) H) (wdA a b N)) ([.ref (a 0), .ref (q 0), .ref (q 4), .int x1] : List Value).toArray s 5 129 (wdA a b N)) (F0 m 186 ls [.int z0_186]) := by
      intro z0_186 v_186 hg hI H locs hP hS ls hl
      refine lv_istore (lv' := [(10, .int z0_186), (0, .ref (a 0)), (1, .ref (q 0)), (2, .ref (q 4)), (3, .int x1), (4, .ref (q2 0)), (5, .ref (q2 4)), (6, .ref (q2 1)), (7, .ref (q2 2)), (8, .ref (q2 3))]) hC.1 hC.2.1 dL_would_186 hl (by decide) rfl (fun ls hl => ?_)
      refine lv_aload hC.1 hC.2.1 dL_would_188 (lv_at hl 6 rfl) ?_
      refine lv_bipush (v := 16) hC.1 hC.2.1 dL_would_190 (by decide +kernel) ?_
      refine iald_k hC (hKN.go hAL hS) hP 4 rfl (n := 21) (f := (v_186.1 4)) 16 (rfl) (by omega) (by first | decide | omega) dL_would_192 ?_
      refine lv_istore (lv' := [(11, .int ((v_186.1 4) 16)), (10, .int z0_186), (0, .ref (a 0)), (1, .ref (q 0)), (2, .ref (q 4)), (3, .int x1), (4, .ref (q2 0)), (5, .ref (q2 4)), (6, .ref (q2 1)), (7, .ref (q2 2)), (8, .ref (q2 3))]) hC.1 hC.2.1 dL_would_193 hl (by decide) rfl (fun ls hl => ?_)
      refine lv_aload_n hC.1 hC.2.1 dL_would_195 rfl (lv_at hl 3 rfl) ?_
      refine lv_aload hC.1 hC.2.1 dL_would_196 (lv_at hl 6 rfl) ?_
      refine runE (rS (B := fun U H => RD (q 0) 24 (v 0) U H ∧ PW G (a1W G (q2 0) 24 (v_186.1 0)) H) (As := [.ref (q 0), .ref (q2 0)]) (rest := []) hC mwL_copy (c_L_copy l G (q 0) 24 (v 0) (q2 0) 24 (v_186.1 0) (hql.1 0 (by decide)) (by decide) (by decide) (hqq 0 0 (by decide) (by decide))) wd_428 wd_427 ⟨rfl, rfl⟩ ⟨Nat.le_of_ble_eq_true rfl, Nat.le_of_ble_eq_true rfl⟩ (stb_and (stb_RD _ _ _) (stb_h (fun H => PW G (a1W G (q2 0) 24 (v_186.1 0)) H))) (hKN.go hAL hS) ⟨(RD.ofP (hKN.go hAL hS) (keepS hP2 hS (lw_na hqm v)) 0 rfl), (one_of hP 0 rfl)⟩ rfl hl.1 rfl (Nat.le_of_ble_eq_true rfl) dL_would_198 ⟨Nat.le_refl _, Nat.le_refl _⟩) hS (fun _ h => (hAq _ ⟨0, by decide, h⟩)) (fun _ h => (hAq _ ⟨0, by decide, h⟩)) (fun H locs hq_13 _ hk_15 hS => ?_)
      have hP : PW G (lwW G q2 (mkL (fL_copy 24 (v 0) 24 (v_186.1 0)) (v_186.1 1) (v_186.1 2) (v_186.1 3) (v_186.1 4)) ++ hdW G a b v_186.2) H := one_set hP (jn_D hql hq hN hAq hAb v_186.1 v_186.2) 0 rfl hq_13 hk_15
      have hI : Lgs ((mkL (fL_copy 24 (v 0) 24 (v_186.1 0)) (v_186.1 1) (v_186.1 2) (v_186.1 3) (v_186.1 4), v_186.2)).1 := hI
      refine lv_aload_n hC.1 hC.2.1 dL_would_201 rfl (lv_at hl 4 rfl) ?_
      refine lv_aload hC.1 hC.2.1 dL_would_202 (lv_at hl 7 rfl) ?_
      refine runE (rS (B := fun U H => RD (q 4) 21 (v 4) U H ∧ PW G (a1W G (q2 4) 21 (v_186.1 4)) H) (As := [.ref (q 4), .ref (q2 4)]) (rest := []) hC mwL_copy (c_L_copy l G (q 4) 21 (v 4) (q2 4) 21 (v_186.1 4) (hql.1 4 (by decide)) (by decide) (by decide) (hqq 4 4 (by decide) (by decide))) wd_428 wd_427 ⟨rfl, rfl⟩ ⟨Nat.le_of_ble_eq_true rfl, Nat.le_of_ble_eq_true rfl⟩ (stb_and (stb_RD _ _ _) (stb_h (fun H => PW G (a1W G (q2 4) 21 (v_186.1 4)) H))) (hKN.go hAL hS) ⟨(RD.ofP (hKN.go hAL hS) (keepS hP2 hS (lw_na hqm v)) 4 rfl), (one_of hP 4 rfl)⟩ rfl hl.1 rfl (Nat.le_of_ble_eq_true rfl) dL_would_204 ⟨Nat.le_refl _, Nat.le_refl _⟩) hS (fun _ h => (hAq _ ⟨4, by decide, h⟩)) (fun _ h => (hAq _ ⟨4, by decide, h⟩)) (fun H locs hq_16 _ hk_18 hS => ?_)
      have hP : PW G (lwW G q2 (mkL (fL_copy 24 (v 0) 24 (v_186.1 0)) (v_186.1 1) (v_186.1 2) (v_186.1 3) (fL_copy 21 (v 4) 21 (v_186.1 4))) ++ hdW G a b v_186.2) H := one_set hP (jn_D hql hq hN hAq hAb (mkL (fL_copy 24 (v 0) 24 (v_186.1 0)) (v_186.1 1) (v_186.1 2) (v_186.1 3) (v_186.1 4)) v_186.2) 4 rfl hq_16 hk_18
      have hI : Lgs ((mkL (fL_copy 24 (v 0) 24 (v_186.1 0)) (v_186.1 1) (v_186.1 2) (v_186.1 3) (fL_copy 21 (v 4) 21 (v_186.1 4)), v_186.2)).1 := (LS_copy hLS)
      refine lv_aload hC.1 hC.2.1 dL_would_207 (lv_at hl 7 rfl) ?_
      refine lv_iconst (v := 5) hC.1 hC.2.1 dL_would_209 (by decide) ?_
      refine lv_iconst (v := 1) hC.1 hC.2.1 dL_would_210 (by decide) ?_
      refine lv_aload_n hC.1 hC.2.1 dL_would_211 rfl (lv_at hl 4 rfl) ?_
      refine lv_iconst (v := 5) hC.1 hC.2.1 dL_would_212 (by decide) ?_
      refine iald_k hC (hKN.go hAL hS) (keepS hP2 hS (lw_na hqm v)) 4 rfl (n := 21) (f := (v 4)) 5 (rfl) (by omega) (by first | decide | omega) dL_would_213 ?_
      refine lv_isub hC.1 hC.2.1 dL_would_214 ?_
      refine lv_topi (fun w_19 ew_19 => ?_)
      refine iast_k hC (hKN.go hAL hS) hP (jn_D hql hq hN hAq hAb (mkL (fL_copy 24 (v 0) 24 (v_186.1 0)) (v_186.1 1) (v_186.1 2) (v_186.1 3) (fL_copy 21 (v 4) 21 (v_186.1 4))) v_186.2) hS 4 rfl (n := 21) (f := (fL_copy 21 (v 4) 21 (v_186.1 4))) 5 (rfl) (by omega) (by first | decide | omega) dL_would_215 (fun H locs hq_20 hS => ?_)
      have hP : PW G (lwW G q2 (mkL (fL_copy 24 (v 0) 24 (v_186.1 0)) (v_186.1 1) (v_186.1 2) (v_186.1 3) (upd (fL_copy 21 (v 4) 21 (v_186.1 4)) 5 w_19)) ++ hdW G a b v_186.2) H := hq_20
      have hI : Lgs ((mkL (fL_copy 24 (v 0) 24 (v_186.1 0)) (v_186.1 1) (v_186.1 2) (v_186.1 3) (upd (fL_copy 21 (v 4) 21 (v_186.1 4)) 5 w_19), v_186.2)).1 := (LSn_way hLS hI ew_19)
      refine lv_aload hC.1 hC.2.1 dL_would_216 (lv_at hl 6 rfl) ?_
      refine lv_aload hC.1 hC.2.1 dL_would_218 (lv_at hl 8 rfl) ?_
      refine lv_aload hC.1 hC.2.1 dL_would_220 (lv_at hl 9 rfl) ?_
      refine lv_aload hC.1 hC.2.1 dL_would_222 (lv_at hl 10 rfl) ?_
      refine lv_aload hC.1 hC.2.1 dL_would_224 (lv_at hl 7 rfl) ?_
      refine lv_iload_n hC.1 hC.2.1 dL_would_226 rfl (lv_at hl 5 rfl) ?_
      refine runE (rS (B := fun U H => PW G (lwW G q2 (mkL (fL_copy 24 (v 0) 24 (v_186.1 0)) (v_186.1 1) (v_186.1 2) (v_186.1 3) (upd (fL_copy 21 (v 4) 21 (v_186.1 4)) 5 w_19))) H) (As := [.ref (q2 0), .ref (q2 1), .ref (q2 2), .ref (q2 3), .ref (q2 4), .int x1]) (rest := []) hC mwL_prints (c_L_prints l G q2 (mkL (fL_copy 24 (v 0) 24 (v_186.1 0)) (v_186.1 1) (v_186.1 2) (v_186.1 3) (upd (fL_copy 21 (v 4) 21 (v_186.1 4)) 5 w_19)) x1 hql hI) wd_431 wd_430 ⟨rfl, rfl⟩ ⟨Nat.le_of_ble_eq_true rfl, Nat.le_of_ble_eq_true rfl⟩ (stb_h (fun H => PW G (lwW G q2 (mkL (fL_copy 24 (v 0) 24 (v_186.1 0)) (v_186.1 1) (v_186.1 2) (v_186.1 3) (upd (fL_copy 21 (v 4) 21 (v_186.1 4)) 5 w_19))) H)) (hKN.go hAL hS) (PW_app.mp hP).1 rfl hl.1 rfl (Nat.le_of_ble_eq_true rfl) dL_would_227 ⟨Nat.le_refl _, Nat.le_refl _⟩) hS (fun _ h => hAq _ h) (fun _ h => hAq _ h) (fun H locs hq_21 _ hk_23 hS => ?_)
      have hP := jn_lw hq hN hP hk_23 hq_21
      obtain ⟨r_22, er_22⟩ : ∃ z, z = fL_prints (mkL (fL_copy 24 (v 0) 24 (v_186.1 0)) (v_186.1 1) (v_186.1 2) (v_186.1 3) (upd (fL_copy 21 (v 4) 21 (v_186.1 4)) 5 w_19)) x1 := ⟨_, rfl⟩
      rw [← er_22] at hP
      have hI : Lgs ((r_22, v_186.2)).1 := by rw [er_22]; exact (I_L_prints _ _ hI)
      refine lv_iload hC.1 hC.2.1 dL_would_230 (lv_at hl 0 rfl) ?_
      refine lv_aload hC.1 hC.2.1 dL_would_232 (lv_at hl 7 rfl) ?_
      refine lv_bipush (v := 16) hC.1 hC.2.1 dL_would_234 (by decide +kernel) ?_
      refine iald_k hC (hKN.go hAL hS) hP 4 rfl (n := 21) (f := (r_22 4)) 16 (rfl) (by omega) (by first | decide | omega) dL_would_236 ?_
      have J265 : ∀ (y10_265 : Int32) (z0_265 : Int32) (v_265 : SV × HV), fL_would x v v2 x1 = tL_would_J265 x v v2 x1 y10_265 z0_265 v_265 → Lgs ((v_265.1, v_265.2)).1 → ∀ (H : Heap) (locs : List Loc), PW G (lwW G q2 v_265.1 ++ hdW G a b v_265.2) H → va_S (wdA a b N) s.heap H locs → ∀ (ls : Array Slot), lv_has ls 13 [(0, .ref (a 0)), (3, .int x1), (10, .int y10_265)] → W p l e ({ frames := 7, cells := 5, slots := 129, locals := 164 }) s m ([.ref (a 0), .ref (q 0), .ref (q 4), .int x1] : List Value).toArray below meth c H locs 5 129 (MQ below (QE (some (.int (fL_would x v v2 x1).2)) (fun H => PW G (hdW G a b (fL_would x v v2 x1).1.2) H) (wdA a b N)) ([.ref (a 0), .ref (q 0), .ref (q 4), .int x1] : List Value).toArray s 5 129 (wdA a b N)) (F0 m 265 ls [.int z0_265]) := by
        intro y10_265 z0_265 v_265 hg hI H locs hP hS ls hl
        refine lv_istore (lv' := [(12, .int z0_265), (0, .ref (a 0)), (3, .int x1), (10, .int y10_265)]) hC.1 hC.2.1 dL_would_265 hl (by decide) rfl (fun ls hl => ?_)
        refine lv_iload hC.1 hC.2.1 dL_would_267 (lv_at hl 3 rfl) ?_
        refine lv_if_eq (tgt := 286) hC.1 hC.2.1 dL_would_269 (by decide) (fun k269 => ?_) (fun k269 => ?_)
        · refine lv_iconst (v := 0) hC.1 hC.2.1 dL_would_286 (by decide) ?_
          have e_24 : tL_would_J265 x v v2 x1 y10_265 z0_265 v_265 = ((v_265.1, v_265.2), 0) := by
            delta tL_would_J265
            try dsimp only
            exact Eq.trans (if_pos k269) rfl
          have hg : fL_would x v v2 x1 = ((v_265.1, v_265.2), 0) := by have e2 := congrArg (fun z => z) e_24; exact hg.trans e2
          exact eE_z hC (by rw [hg]) rfl (by show PW G (hdW G a b (fL_would x v v2 x1).1.2) H; rw [hg]; exact (PW_app.mp hP).2) hS dL_would_287
        · refine lv_aload_n hC.1 hC.2.1 dL_would_272 rfl (lv_at hl 1 rfl) ?_
          refine lv_iload_n hC.1 hC.2.1 dL_would_273 rfl (lv_at hl 2 rfl) ?_
          refine runE (rV (B := fun U H => PW G (hdW G a b v_265.2) H) (As := [.int x1]) (rest := []) hC mwX5_betterWay (c_X5_betterWay l G a b v_265.2 x1 hq hx) iwX5_betterWay wd_549 ⟨rfl, rfl⟩ ⟨Nat.le_of_ble_eq_true rfl, Nat.le_of_ble_eq_true rfl⟩ (stb_h (fun H => PW G (hdW G a b v_265.2) H)) (hKN.go hAL hS) (PW_app.mp hP).2 (va_recv (hKN.go hAL hS).k (PW_app.mp hP).2 (ci := 5) (q0 := 0) rfl rfl) rfl hl.1 rfl (Nat.le_of_ble_eq_true rfl) dL_would_274 ⟨Nat.le_refl _, Nat.le_refl _⟩) hS (fun _ h => hAb _ h) (fun _ h => hAb _ h) (fun H locs hq_25 _ hk_27 hS => ?_)
          have hP := jn_hd hql hN hP hk_27 hq_25
          obtain ⟨r_26, er_26⟩ : ∃ z, z = fX5_betterWay v_265.2 x1 := ⟨_, rfl⟩
          rw [← er_26] at hP
          show W p l e ({ frames := 7, cells := 5, slots := 129, locals := 164 }) s m ([.ref (a 0), .ref (q 0), .ref (q 4), .int x1] : List Value).toArray below meth c H locs (5 + 0) (129 + 0) _ (F0 m (274 + 3) ls [.int ((fX5_betterWay v_265.2 x1).2)])
          rw [← er_26]
          have hI : Lgs ((v_265.1, r_26.1)).1 := by rw [er_26]; exact hI
          refine lv_iload hC.1 hC.2.1 dL_would_277 (lv_at hl 0 rfl) ?_
          refine lv_icmp_ne (tgt := 286) hC.1 hC.2.1 dL_would_279 (by decide) (fun k279 => ?_) (fun k279 => ?_)
          · refine lv_iconst (v := 0) hC.1 hC.2.1 dL_would_286 (by decide) ?_
            have e_28 : tL_would_J265 x v v2 x1 y10_265 z0_265 v_265 = ((v_265.1, r_26.1), 0) := by
              delta tL_would_J265
              try dsimp only
              rw [← er_26]
              exact Eq.trans (if_neg k269) (Eq.trans (if_neg k279) rfl)
            have hg : fL_would x v v2 x1 = ((v_265.1, r_26.1), 0) := by have e2 := congrArg (fun z => z) e_28; exact hg.trans e2
            exact eE_z hC (by rw [hg]) rfl (by show PW G (hdW G a b (fL_would x v v2 x1).1.2) H; rw [hg]; exact (PW_app.mp hP).2) hS dL_would_287
          · refine lv_iconst (v := 1) hC.1 hC.2.1 dL_would_282 (by decide) ?_
            refine lv_goto (tgt := 287) hC.1 hC.2.1 dL_would_283 (by decide) ?_
            have e_29 : tL_would_J265 x v v2 x1 y10_265 z0_265 v_265 = ((v_265.1, r_26.1), 1) := by
              delta tL_would_J265
              try dsimp only
              rw [← er_26]
              exact Eq.trans (if_neg k269) (Eq.trans (if_pos k279) rfl)
            have hg : fL_would x v v2 x1 = ((v_265.1, r_26.1), 1) := by have e2 := congrArg (fun z => z) e_29; exact hg.trans e2
            exact eE_z hC (by rw [hg]) rfl (by show PW G (hdW G a b (fL_would x v v2 x1).1.2) H; rw [hg]; exact (PW_app.mp hP).2) hS dL_would_287
      refine lv_icmp_ne (tgt := 244) hC.1 hC.2.1 dL_would_237 (by decide) (fun k237 => ?_) (fun k237 => ?_)
      · refine lv_iload hC.1 hC.2.1 dL_would_244 (lv_at hl 0 rfl) ?_
        refine lv_aload hC.1 hC.2.1 dL_would_246 (lv_at hl 7 rfl) ?_
        refine lv_bipush (v := 16) hC.1 hC.2.1 dL_would_248 (by decide +kernel) ?_
        refine iald_k hC (hKN.go hAL hS) hP 4 rfl (n := 21) (f := (r_22 4)) 16 (rfl) (by omega) (by first | decide | omega) dL_would_250 ?_
        refine lv_icmp_ge (tgt := 260) hC.1 hC.2.1 dL_would_251 (by decide) (fun k251 => ?_) (fun k251 => ?_)
        · refine lv_iconst (v := 1) hC.1 hC.2.1 dL_would_260 (by decide) ?_
          refine lv_aload_n hC.1 hC.2.1 dL_would_261 rfl (lv_at hl 4 rfl) ?_
          refine lv_iconst (v := 5) hC.1 hC.2.1 dL_would_262 (by decide) ?_
          refine iald_k hC (hKN.go hAL hS) (keepS hP2 hS (lw_na hqm v)) 4 rfl (n := 21) (f := (v 4)) 5 (rfl) (by omega) (by first | decide | omega) dL_would_263 ?_
          refine lv_isub hC.1 hC.2.1 dL_would_264 ?_
          have e_30 : tL_would_J186 x v v2 x1 z0_186 v_186 = tL_would_J265 x v v2 x1 z0_186 ((1 : Int32) - ((v 4) 5)) (r_22, v_186.2) := by
            have q_ := ew_19.symm; subst q_; delta tL_would_J186
            try dsimp only
            rw [← er_22]
            exact Eq.trans (if_neg k237) (Eq.trans (if_pos k251) rfl)
          have hg : fL_would x v v2 x1 = tL_would_J265 x v v2 x1 z0_186 ((1 : Int32) - ((v 4) 5)) (r_22, v_186.2) := by have e2 := congrArg (fun z => z) e_30; exact hg.trans e2
          exact J265 z0_186 ((1 : Int32) - ((v 4) 5)) (r_22, v_186.2) hg hI _ _ hP hS _ (lv_sub hl [2, 5, 1] rfl)
        · refine lv_aload_n hC.1 hC.2.1 dL_would_254 rfl (lv_at hl 4 rfl) ?_
          refine lv_iconst (v := 5) hC.1 hC.2.1 dL_would_255 (by decide) ?_
          refine iald_k hC (hKN.go hAL hS) (keepS hP2 hS (lw_na hqm v)) 4 rfl (n := 21) (f := (v 4)) 5 (rfl) (by omega) (by first | decide | omega) dL_would_256 ?_
          refine lv_goto (tgt := 265) hC.1 hC.2.1 dL_would_257 (by decide) ?_
          have e_31 : tL_would_J186 x v v2 x1 z0_186 v_186 = tL_would_J265 x v v2 x1 z0_186 ((v 4) 5) (r_22, v_186.2) := by
            have q_ := ew_19.symm; subst q_; delta tL_would_J186
            try dsimp only
            rw [← er_22]
            exact Eq.trans (if_neg k237) (Eq.trans (if_neg k251) rfl)
          have hg : fL_would x v v2 x1 = tL_would_J265 x v v2 x1 z0_186 ((v 4) 5) (r_22, v_186.2) := by have e2 := congrArg (fun z => z) e_31; exact hg.trans e2
          exact J265 z0_186 ((v 4) 5) (r_22, v_186.2) hg hI _ _ hP hS _ (lv_sub hl [2, 5, 1] rfl)
      · refine lv_iconst (v := 0) hC.1 hC.2.1 dL_would_240 (by decide) ?_
        refine lv_goto (tgt := 265) hC.1 hC.2.1 dL_would_241 (by decide) ?_
        have e_32 : tL_would_J186 x v v2 x1 z0_186 v_186 = tL_would_J265 x v v2 x1 z0_186 0 (r_22, v_186.2) := by
          have q_ := ew_19.symm; subst q_; delta tL_would_J186
          try dsimp only
          rw [← er_22]
          exact Eq.trans (if_pos k237) rfl
        have hg : fL_would x v v2 x1 = tL_would_J265 x v v2 x1 z0_186 0 (r_22, v_186.2) := by have e2 := congrArg (fun z => z) e_32; exact hg.trans e2
        exact J265 z0_186 0 (r_22, v_186.2) hg hI _ _ hP hS _ (lv_sub hl [2, 5, 1] rfl)
    refine lv_icmp_ne (tgt := 185) hC.1 hC.2.1 dL_would_110 (by decide) (fun k110 => ?_) (fun k110 => ?_)
    · refine lv_iconst (v := 0) hC.1 hC.2.1 dL_would_185 (by decide) ?_
      have e_33 : tL_would_66 x v v2 x1 v_66 y9_66 = tL_would_J186 x v v2 x1 0 (v_66.1, r_11.1) := by
        delta tL_would_66
        try dsimp only
        rw [← er_11]
        exact Eq.trans (if_neg k110) rfl
      have hg : fL_would x v v2 x1 = tL_would_J186 x v v2 x1 0 (v_66.1, r_11.1) := by have e2 := congrArg (fun z => z) e_33; exact hg.trans e2
      exact J186 0 (v_66.1, r_11.1) hg hI _ _ hP hS _ (lv_sub hl [0, 1, 2, 3, 4, 5, 6, 7, 8] rfl)
    · refine lv_aload_n hC.1 hC.2.1 dL_would_113 rfl (lv_at hl 0 rfl) ?_
      refine lv_iload_n hC.1 hC.2.1 dL_would_114 rfl (lv_at hl 3 rfl) ?_
      refine lv_iconst (v := 1) hC.1 hC.2.1 dL_would_115 (by decide) ?_
      refine runE (rV (B := fun U H => PW G (hdW G a b r_11.1) H) (As := [.int x1, .int 1]) (rest := []) hC mwX5_ifPrinted (c_X5_ifPrinted l G a b r_11.1 x1 1 hq hx (by decide +kernel)) iwX5_ifPrinted wd_445 ⟨rfl, rfl⟩ ⟨Nat.le_of_ble_eq_true rfl, Nat.le_of_ble_eq_true rfl⟩ (stb_h (fun H => PW G (hdW G a b r_11.1) H)) (hKN.go hAL hS) (PW_app.mp hP).2 (va_recv (hKN.go hAL hS).k (PW_app.mp hP).2 (ci := 5) (q0 := 0) rfl rfl) rfl hl.1 rfl (Nat.le_of_ble_eq_true rfl) dL_would_116 ⟨Nat.le_refl _, Nat.le_refl _⟩) hS (fun _ h => hAb _ h) (fun _ h => hAb _ h) (fun H locs hq_34 _ hk_36 hS => ?_)
      have hP := jn_hd hql hN hP hk_36 hq_34
      obtain ⟨r_35, er_35⟩ : ∃ z, z = fX5_ifPrinted r_11.1 x1 1 := ⟨_, rfl⟩
      rw [← er_35] at hP
      show W p l e ({ frames := 7, cells := 5, slots := 129, locals := 164 }) s m ([.ref (a 0), .ref (q 0), .ref (q 4), .int x1] : List Value).toArray below meth c H locs (5 + 0) (129 + 0) _ (F0 m (116 + 3) ls [.int ((fX5_ifPrinted r_11.1 x1 1).2)])
      rw [← er_35]
      have hI : Lgs ((v_66.1, r_35.1)).1 := by rw [er_35]; exact hI
      refine lv_aload hC.1 hC.2.1 dL_would_119 (lv_at hl 5 rfl) ?_
      refine lv_bipush (v := 17) hC.1 hC.2.1 dL_would_121 (by decide +kernel) ?_
      refine iald_k hC (hKN.go hAL hS) hP 4 rfl (n := 21) (f := (v_66.1 4)) 17 (rfl) (by omega) (by first | decide | omega) dL_would_123 ?_
      refine lv_icmp_ne (tgt := 185) hC.1 hC.2.1 dL_would_124 (by decide) (fun k124 => ?_) (fun k124 => ?_)
      · refine lv_iconst (v := 0) hC.1 hC.2.1 dL_would_185 (by decide) ?_
        have e_37 : tL_would_66 x v v2 x1 v_66 y9_66 = tL_would_J186 x v v2 x1 0 (v_66.1, r_35.1) := by
          delta tL_would_66
          try dsimp only
          rw [← er_11]
          rw [← er_35]
          exact Eq.trans (if_pos k110) (Eq.trans (if_neg k124) rfl)
        have hg : fL_would x v v2 x1 = tL_would_J186 x v v2 x1 0 (v_66.1, r_35.1) := by have e2 := congrArg (fun z => z) e_37; exact hg.trans e2
        exact J186 0 (v_66.1, r_35.1) hg hI _ _ hP hS _ (lv_sub hl [0, 1, 2, 3, 4, 5, 6, 7, 8] rfl)
      · refine lv_aload_n hC.1 hC.2.1 dL_would_127 rfl (lv_at hl 0 rfl) ?_
        refine lv_iload_n hC.1 hC.2.1 dL_would_128 rfl (lv_at hl 3 rfl) ?_
        refine lv_iconst (v := 2) hC.1 hC.2.1 dL_would_129 (by decide) ?_
        refine runE (rV (B := fun U H => PW G (hdW G a b r_35.1) H) (As := [.int x1, .int 2]) (rest := []) hC mwX5_ifPrinted (c_X5_ifPrinted l G a b r_35.1 x1 2 hq hx (by decide +kernel)) iwX5_ifPrinted wd_445 ⟨rfl, rfl⟩ ⟨Nat.le_of_ble_eq_true rfl, Nat.le_of_ble_eq_true rfl⟩ (stb_h (fun H => PW G (hdW G a b r_35.1) H)) (hKN.go hAL hS) (PW_app.mp hP).2 (va_recv (hKN.go hAL hS).k (PW_app.mp hP).2 (ci := 5) (q0 := 0) rfl rfl) rfl hl.1 rfl (Nat.le_of_ble_eq_true rfl) dL_would_130 ⟨Nat.le_refl _, Nat.le_refl _⟩) hS (fun _ h => hAb _ h) (fun _ h => hAb _ h) (fun H locs hq_38 _ hk_40 hS => ?_)
        have hP := jn_hd hql hN hP hk_40 hq_38
        obtain ⟨r_39, er_39⟩ : ∃ z, z = fX5_ifPrinted r_35.1 x1 2 := ⟨_, rfl⟩
        rw [← er_39] at hP
        show W p l e ({ frames := 7, cells := 5, slots := 129, locals := 164 }) s m ([.ref (a 0), .ref (q 0), .ref (q 4), .int x1] : List Value).toArray below meth c H locs (5 + 0) (129 + 0) _ (F0 m (130 + 3) ls [.int ((fX5_ifPrinted r_35.1 x1 2).2)])
        rw [← er_39]
        have hI : Lgs ((v_66.1, r_39.1)).1 := by rw [er_39]; exact hI
        refine lv_aload hC.1 hC.2.1 dL_would_133 (lv_at hl 5 rfl) ?_
        refine lv_bipush (v := 18) hC.1 hC.2.1 dL_would_135 (by decide +kernel) ?_
        refine iald_k hC (hKN.go hAL hS) hP 4 rfl (n := 21) (f := (v_66.1 4)) 18 (rfl) (by omega) (by first | decide | omega) dL_would_137 ?_
        refine lv_icmp_ne (tgt := 185) hC.1 hC.2.1 dL_would_138 (by decide) (fun k138 => ?_) (fun k138 => ?_)
        · refine lv_iconst (v := 0) hC.1 hC.2.1 dL_would_185 (by decide) ?_
          have e_41 : tL_would_66 x v v2 x1 v_66 y9_66 = tL_would_J186 x v v2 x1 0 (v_66.1, r_39.1) := by
            delta tL_would_66
            try dsimp only
            rw [← er_11]
            rw [← er_35]
            rw [← er_39]
            exact Eq.trans (if_pos k110) (Eq.trans (if_pos k124) (Eq.trans (if_neg k138) rfl))
          have hg : fL_would x v v2 x1 = tL_would_J186 x v v2 x1 0 (v_66.1, r_39.1) := by have e2 := congrArg (fun z => z) e_41; exact hg.trans e2
          exact J186 0 (v_66.1, r_39.1) hg hI _ _ hP hS _ (lv_sub hl [0, 1, 2, 3, 4, 5, 6, 7, 8] rfl)
        · refine lv_aload_n hC.1 hC.2.1 dL_would_141 rfl (lv_at hl 0 rfl) ?_
          refine lv_iload_n hC.1 hC.2.1 dL_would_142 rfl (lv_at hl 3 rfl) ?_
          refine lv_iconst (v := 3) hC.1 hC.2.1 dL_would_143 (by decide) ?_
          refine runE (rV (B := fun U H => PW G (hdW G a b r_39.1) H) (As := [.int x1, .int 3]) (rest := []) hC mwX5_ifPrinted (c_X5_ifPrinted l G a b r_39.1 x1 3 hq hx (by decide +kernel)) iwX5_ifPrinted wd_445 ⟨rfl, rfl⟩ ⟨Nat.le_of_ble_eq_true rfl, Nat.le_of_ble_eq_true rfl⟩ (stb_h (fun H => PW G (hdW G a b r_39.1) H)) (hKN.go hAL hS) (PW_app.mp hP).2 (va_recv (hKN.go hAL hS).k (PW_app.mp hP).2 (ci := 5) (q0 := 0) rfl rfl) rfl hl.1 rfl (Nat.le_of_ble_eq_true rfl) dL_would_144 ⟨Nat.le_refl _, Nat.le_refl _⟩) hS (fun _ h => hAb _ h) (fun _ h => hAb _ h) (fun H locs hq_42 _ hk_44 hS => ?_)
          have hP := jn_hd hql hN hP hk_44 hq_42
          obtain ⟨r_43, er_43⟩ : ∃ z, z = fX5_ifPrinted r_39.1 x1 3 := ⟨_, rfl⟩
          rw [← er_43] at hP
          show W p l e ({ frames := 7, cells := 5, slots := 129, locals := 164 }) s m ([.ref (a 0), .ref (q 0), .ref (q 4), .int x1] : List Value).toArray below meth c H locs (5 + 0) (129 + 0) _ (F0 m (144 + 3) ls [.int ((fX5_ifPrinted r_39.1 x1 3).2)])
          rw [← er_43]
          have hI : Lgs ((v_66.1, r_43.1)).1 := by rw [er_43]; exact hI
          refine lv_aload hC.1 hC.2.1 dL_would_147 (lv_at hl 5 rfl) ?_
          refine lv_bipush (v := 19) hC.1 hC.2.1 dL_would_149 (by decide +kernel) ?_
          refine iald_k hC (hKN.go hAL hS) hP 4 rfl (n := 21) (f := (v_66.1 4)) 19 (rfl) (by omega) (by first | decide | omega) dL_would_151 ?_
          refine lv_icmp_ne (tgt := 185) hC.1 hC.2.1 dL_would_152 (by decide) (fun k152 => ?_) (fun k152 => ?_)
          · refine lv_iconst (v := 0) hC.1 hC.2.1 dL_would_185 (by decide) ?_
            have e_45 : tL_would_66 x v v2 x1 v_66 y9_66 = tL_would_J186 x v v2 x1 0 (v_66.1, r_43.1) := by
              delta tL_would_66
              try dsimp only
              rw [← er_11]
              rw [← er_35]
              rw [← er_39]
              rw [← er_43]
              exact Eq.trans (if_pos k110) (Eq.trans (if_pos k124) (Eq.trans (if_pos k138) (Eq.trans (if_neg k152) rfl)))
            have hg : fL_would x v v2 x1 = tL_would_J186 x v v2 x1 0 (v_66.1, r_43.1) := by have e2 := congrArg (fun z => z) e_45; exact hg.trans e2
            exact J186 0 (v_66.1, r_43.1) hg hI _ _ hP hS _ (lv_sub hl [0, 1, 2, 3, 4, 5, 6, 7, 8] rfl)
          · refine lv_aload_n hC.1 hC.2.1 dL_would_155 rfl (lv_at hl 0 rfl) ?_
            refine lv_iload_n hC.1 hC.2.1 dL_would_156 rfl (lv_at hl 3 rfl) ?_
            refine lv_iconst (v := 4) hC.1 hC.2.1 dL_would_157 (by decide) ?_
            refine runE (rV (B := fun U H => PW G (hdW G a b r_43.1) H) (As := [.int x1, .int 4]) (rest := []) hC mwX5_ifPrinted (c_X5_ifPrinted l G a b r_43.1 x1 4 hq hx (by decide +kernel)) iwX5_ifPrinted wd_445 ⟨rfl, rfl⟩ ⟨Nat.le_of_ble_eq_true rfl, Nat.le_of_ble_eq_true rfl⟩ (stb_h (fun H => PW G (hdW G a b r_43.1) H)) (hKN.go hAL hS) (PW_app.mp hP).2 (va_recv (hKN.go hAL hS).k (PW_app.mp hP).2 (ci := 5) (q0 := 0) rfl rfl) rfl hl.1 rfl (Nat.le_of_ble_eq_true rfl) dL_would_158 ⟨Nat.le_refl _, Nat.le_refl _⟩) hS (fun _ h => hAb _ h) (fun _ h => hAb _ h) (fun H locs hq_46 _ hk_48 hS => ?_)
            have hP := jn_hd hql hN hP hk_48 hq_46
            obtain ⟨r_47, er_47⟩ : ∃ z, z = fX5_ifPrinted r_43.1 x1 4 := ⟨_, rfl⟩
            rw [← er_47] at hP
            show W p l e ({ frames := 7, cells := 5, slots := 129, locals := 164 }) s m ([.ref (a 0), .ref (q 0), .ref (q 4), .int x1] : List Value).toArray below meth c H locs (5 + 0) (129 + 0) _ (F0 m (158 + 3) ls [.int ((fX5_ifPrinted r_43.1 x1 4).2)])
            rw [← er_47]
            have hI : Lgs ((v_66.1, r_47.1)).1 := by rw [er_47]; exact hI
            refine lv_iload hC.1 hC.2.1 dL_would_161 (lv_at hl 9 rfl) ?_
            refine lv_icmp_ne (tgt := 185) hC.1 hC.2.1 dL_would_163 (by decide) (fun k163 => ?_) (fun k163 => ?_)
            · refine lv_iconst (v := 0) hC.1 hC.2.1 dL_would_185 (by decide) ?_
              have e_49 : tL_would_66 x v v2 x1 v_66 y9_66 = tL_would_J186 x v v2 x1 0 (v_66.1, r_47.1) := by
                delta tL_would_66
                try dsimp only
                rw [← er_11]
                rw [← er_35]
                rw [← er_39]
                rw [← er_43]
                rw [← er_47]
                exact Eq.trans (if_pos k110) (Eq.trans (if_pos k124) (Eq.trans (if_pos k138) (Eq.trans (if_pos k152) (Eq.trans (if_neg k163) rfl))))
              have hg : fL_would x v v2 x1 = tL_would_J186 x v v2 x1 0 (v_66.1, r_47.1) := by have e2 := congrArg (fun z => z) e_49; exact hg.trans e2
              exact J186 0 (v_66.1, r_47.1) hg hI _ _ hP hS _ (lv_sub hl [0, 1, 2, 3, 4, 5, 6, 7, 8] rfl)
            · refine lv_aload_n hC.1 hC.2.1 dL_would_166 rfl (lv_at hl 0 rfl) ?_
              refine lv_iconst (v := 0) hC.1 hC.2.1 dL_would_167 (by decide) ?_
              refine lv_iconst (v := 4) hC.1 hC.2.1 dL_would_168 (by decide) ?_
              refine runE (rV (B := fun U H => PW G (hdW G a b r_47.1) H) (As := [.int 0, .int 4]) (rest := []) hC mwX5_ifPrinted (c_X5_ifPrinted l G a b r_47.1 0 4 hq (by decide +kernel) (by decide +kernel)) iwX5_ifPrinted wd_445 ⟨rfl, rfl⟩ ⟨Nat.le_of_ble_eq_true rfl, Nat.le_of_ble_eq_true rfl⟩ (stb_h (fun H => PW G (hdW G a b r_47.1) H)) (hKN.go hAL hS) (PW_app.mp hP).2 (va_recv (hKN.go hAL hS).k (PW_app.mp hP).2 (ci := 5) (q0 := 0) rfl rfl) rfl hl.1 rfl (Nat.le_of_ble_eq_true rfl) dL_would_169 ⟨Nat.le_refl _, Nat.le_refl _⟩) hS (fun _ h => hAb _ h) (fun _ h => hAb _ h) (fun H locs hq_50 _ hk_52 hS => ?_)
              have hP := jn_hd hql hN hP hk_52 hq_50
              obtain ⟨r_51, er_51⟩ : ∃ z, z = fX5_ifPrinted r_47.1 0 4 := ⟨_, rfl⟩
              rw [← er_51] at hP
              show W p l e ({ frames := 7, cells := 5, slots := 129, locals := 164 }) s m ([.ref (a 0), .ref (q 0), .ref (q 4), .int x1] : List Value).toArray below meth c H locs (5 + 0) (129 + 0) _ (F0 m (169 + 3) ls [.int ((fX5_ifPrinted r_47.1 0 4).2)])
              rw [← er_51]
              have hI : Lgs ((v_66.1, r_51.1)).1 := by rw [er_51]; exact hI
              refine lv_aload_n hC.1 hC.2.1 dL_would_172 rfl (lv_at hl 0 rfl) ?_
              refine lv_bipush (v := 7) hC.1 hC.2.1 dL_would_173 (by decide +kernel) ?_
              refine runP (rV (B := fun U H => PW G (hdW G a b r_51.1) H) (As := [.int 7]) (rest := [.int r_51.2]) hC mwX5_count (c_X5_count l G a b r_51.1 7 (by decide +kernel)) iwX5_count wd_358 ⟨rfl, rfl⟩ ⟨Nat.le_of_ble_eq_true rfl, Nat.le_of_ble_eq_true rfl⟩ (stb_h (fun H => PW G (hdW G a b r_51.1) H)) (hKN.go hAL hS) (PW_app.mp hP).2 (va_recv (hKN.go hAL hS).k (PW_app.mp hP).2 (ci := 5) (q0 := 0) rfl rfl) rfl hl.1 rfl (Nat.le_of_ble_eq_true rfl) dL_would_175 ⟨Nat.le_refl _, Nat.le_refl _⟩) ?_
              refine lv_icmp_ne (tgt := 185) hC.1 hC.2.1 dL_would_178 (by decide) (fun k178 => ?_) (fun k178 => ?_)
              · refine lv_iconst (v := 0) hC.1 hC.2.1 dL_would_185 (by decide) ?_
                have e_53 : tL_would_66 x v v2 x1 v_66 y9_66 = tL_would_J186 x v v2 x1 0 (v_66.1, r_51.1) := by
                  delta tL_would_66
                  try dsimp only
                  rw [← er_11]
                  rw [← er_35]
                  rw [← er_39]
                  rw [← er_43]
                  rw [← er_47]
                  rw [← er_51]
                  exact Eq.trans (if_pos k110) (Eq.trans (if_pos k124) (Eq.trans (if_pos k138) (Eq.trans (if_pos k152) (Eq.trans (if_pos k163) (Eq.trans (if_neg k178) rfl)))))
                have hg : fL_would x v v2 x1 = tL_would_J186 x v v2 x1 0 (v_66.1, r_51.1) := by have e2 := congrArg (fun z => z) e_53; exact hg.trans e2
                exact J186 0 (v_66.1, r_51.1) hg hI _ _ hP hS _ (lv_sub hl [0, 1, 2, 3, 4, 5, 6, 7, 8] rfl)
              · refine lv_iconst (v := 1) hC.1 hC.2.1 dL_would_181 (by decide) ?_
                refine lv_goto (tgt := 186) hC.1 hC.2.1 dL_would_182 (by decide) ?_
                have e_54 : tL_would_66 x v v2 x1 v_66 y9_66 = tL_would_J186 x v v2 x1 1 (v_66.1, r_51.1) := by
                  delta tL_would_66
                  try dsimp only
                  rw [← er_11]
                  rw [← er_35]
                  rw [← er_39]
                  rw [← er_43]
                  rw [← er_47]
                  rw [← er_51]
                  exact Eq.trans (if_pos k110) (Eq.trans (if_pos k124) (Eq.trans (if_pos k138) (Eq.trans (if_pos k152) (Eq.trans (if_pos k163) (Eq.trans (if_pos k178) rfl)))))
                have hg : fL_would x v v2 x1 = tL_would_J186 x v v2 x1 1 (v_66.1, r_51.1) := by have e2 := congrArg (fun z => z) e_54; exact hg.trans e2
                exact J186 1 (v_66.1, r_51.1) hg hI _ _ hP hS _ (lv_sub hl [0, 1, 2, 3, 4, 5, 6, 7, 8] rfl)
  have L66 : ∀ (v_66 : SV × HV), ∀ (n66 d66 : Nat), ∀ (y9_66 : Int32), d66 + n66 = 24 → fL_would x v v2 x1 = (tL_would_66 x v v2 x1 v_66 (lpF n66 d66 (bL_would_66 x v v2 x1 v_66) y9_66)) → Lgs ((v_66.1, v_66.2)).1 → ∀ (H : Heap) (locs : List Loc), PW G (lwW G q2 v_66.1 ++ hdW G a b v_66.2) H → va_S (wdA a b N) s.heap H locs → ∀ (ls : Array Slot), lv_has ls 13 [(0, .ref (a 0)), (1, .ref (q 0)), (2, .ref (q 4)), (3, .int x1), (4, .ref (q2 0)), (5, .ref (q2 4)), (6, .ref (q2 1)), (7, .ref (q2 2)), (8, .ref (q2 3)), (9, .int y9_66), (10, .int (nI d66))] → W p l e ({ frames := 7, cells := 5, slots := 129, locals := 164 }) s m ([.ref (a 0), .ref (q 0), .ref (q 4), .int x1] : List Value).toArray below meth c H locs 5 129 (MQ below (QE (some (.int (fL_would x v v2 x1).2)) (fun H => PW G (hdW G a b (fL_would x v v2 x1).1.2) H) (wdA a b N)) ([.ref (a 0), .ref (q 0), .ref (q 4), .int x1] : List Value).toArray s 5 129 (wdA a b N)) (F0 m 66 ls []) := by
    intro v_66
    intro n66
    induction n66 with
    | zero =>
      intro d66 y9_66 hd hg hI H locs hP hS ls hl
      refine lv_iload hC.1 hC.2.1 dL_would_66 (lv_at hl 10 rfl) ?_
      refine lv_bipush (v := 24) hC.1 hC.2.1 dL_would_68 (by decide +kernel) ?_
      refine lv_icmp_ge (tgt := 99) hC.1 hC.2.1 dL_would_70 (by decide) (fun k70 => ?_) (fun k70 => ?_)
      · exact A66 v_66 y9_66 hg hI _ _ hP hS _ (lv_sub hl [0, 1, 2, 3, 4, 5, 6, 7, 8, 9] rfl)
      · exact absurd (nI_le (a := 24) (b := d66) (by omega) (by omega)) k70
    | succ n66 ih =>
      intro d66 y9_66 hd hg hI H locs hP hS ls hl
      have hg : fL_would x v v2 x1 = (tL_would_66 x v v2 x1 v_66 (lpF n66 (d66 + 1) (bL_would_66 x v v2 x1 v_66) (bL_would_66 x v v2 x1 v_66 d66 y9_66))) := hg
      refine lv_iload hC.1 hC.2.1 dL_would_66 (lv_at hl 10 rfl) ?_
      refine lv_bipush (v := 24) hC.1 hC.2.1 dL_would_68 (by decide +kernel) ?_
      refine lv_icmp_ge (tgt := 99) hC.1 hC.2.1 dL_would_70 (by decide) (fun k70 => ?_) (fun k70 => ?_)
      · exact absurd k70 (nI_ge (a := d66) (b := 24) (by omega) (by omega))
      · refine lv_aload_n hC.1 hC.2.1 dL_would_73 rfl (lv_at hl 1 rfl) ?_
        refine lv_iload hC.1 hC.2.1 dL_would_74 (lv_at hl 10 rfl) ?_
        refine iald_k hC (hKN.go hAL hS) (keepS hP2 hS (lw_na hqm v)) 0 rfl (n := 24) (f := (v 0)) d66 (rfl) (by omega) (by first | decide | omega) dL_would_76 ?_
        refine lv_iload hC.1 hC.2.1 dL_would_77 (lv_at hl 9 rfl) ?_
        have J91 : ∀ (z0_91 : Int32), fL_would x v v2 x1 = (tL_would_66 x v v2 x1 v_66 (lpF n66 (d66 + 1) (bL_would_66 x v v2 x1 v_66) (tL_would_J91 x v v2 x1 v_66 d66 z0_91))) → Lgs ((v_66.1, v_66.2)).1 → ∀ (H : Heap) (locs : List Loc), PW G (lwW G q2 v_66.1 ++ hdW G a b v_66.2) H → va_S (wdA a b N) s.heap H locs → ∀ (ls : Array Slot), lv_has ls 13 [(0, .ref (a 0)), (1, .ref (q 0)), (2, .ref (q 4)), (3, .int x1), (4, .ref (q2 0)), (5, .ref (q2 4)), (6, .ref (q2 1)), (7, .ref (q2 2)), (8, .ref (q2 3)), (10, .int (nI d66))] → W p l e ({ frames := 7, cells := 5, slots := 129, locals := 164 }) s m ([.ref (a 0), .ref (q 0), .ref (q 4), .int x1] : List Value).toArray below meth c H locs 5 129 (MQ below (QE (some (.int (fL_would x v v2 x1).2)) (fun H => PW G (hdW G a b (fL_would x v v2 x1).1.2) H) (wdA a b N)) ([.ref (a 0), .ref (q 0), .ref (q 4), .int x1] : List Value).toArray s 5 129 (wdA a b N)) (F0 m 91 ls [.int z0_91]) := by
          intro z0_91 hg hI H locs hP hS ls hl
          refine lv_istore (lv' := [(9, .int z0_91), (0, .ref (a 0)), (1, .ref (q 0)), (2, .ref (q 4)), (3, .int x1), (4, .ref (q2 0)), (5, .ref (q2 4)), (6, .ref (q2 1)), (7, .ref (q2 2)), (8, .ref (q2 3)), (10, .int (nI d66))]) hC.1 hC.2.1 dL_would_91 hl (by decide) rfl (fun ls hl => ?_)
          refine lv_iinc (v := nI (d66 + 1)) (lv' := [(10, .int (nI (d66 + 1))), (9, .int z0_91), (0, .ref (a 0)), (1, .ref (q 0)), (2, .ref (q 4)), (3, .int x1), (4, .ref (q2 0)), (5, .ref (q2 4)), (6, .ref (q2 1)), (7, .ref (q2 2)), (8, .ref (q2 3))]) hC.1 hC.2.1 dL_would_93 hl (k := 10) rfl (nI_1 _) (by decide) rfl (fun ls hl => ?_)
          refine lv_goto (tgt := 66) hC.1 hC.2.1 dL_would_96 (by decide) ?_
          have e_55 : tL_would_J91 x v v2 x1 v_66 d66 z0_91 = z0_91 := by
            delta tL_would_J91
            try dsimp only
            try exact rfl
          have hg : fL_would x v v2 x1 = (tL_would_66 x v v2 x1 v_66 (lpF n66 (d66 + 1) (bL_would_66 x v v2 x1 v_66) z0_91)) := by have e2 := congrArg (fun z => (tL_would_66 x v v2 x1 v_66 (lpF n66 (d66 + 1) (bL_would_66 x v v2 x1 v_66) z))) e_55; exact hg.trans e2
          exact ih (d66 + 1) z0_91 (by omega) hg hI _ _ hP hS _ (lv_sub hl [2, 3, 4, 5, 6, 7, 8, 9, 10, 1, 0] rfl)
        refine lv_icmp_le (tgt := 89) hC.1 hC.2.1 dL_would_79 (by decide) (fun k79 => ?_) (fun k79 => ?_)
        · refine lv_iload hC.1 hC.2.1 dL_would_89 (lv_at hl 9 rfl) ?_
          have e_56 : bL_would_66 x v v2 x1 v_66 d66 y9_66 = tL_would_J91 x v v2 x1 v_66 d66 y9_66 := by
            delta bL_would_66
            try dsimp only
            exact Eq.trans (if_pos k79) rfl
          have hg : fL_would x v v2 x1 = (tL_would_66 x v v2 x1 v_66 (lpF n66 (d66 + 1) (bL_would_66 x v v2 x1 v_66) (tL_would_J91 x v v2 x1 v_66 d66 y9_66))) := by have e2 := congrArg (fun z => (tL_would_66 x v v2 x1 v_66 (lpF n66 (d66 + 1) (bL_would_66 x v v2 x1 v_66) z))) e_56; exact hg.trans e2
          exact J91 y9_66 hg hI _ _ hP hS _ (lv_sub hl [0, 1, 2, 3, 4, 5, 6, 7, 8, 10] rfl)
        · refine lv_aload_n hC.1 hC.2.1 dL_would_82 rfl (lv_at hl 1 rfl) ?_
          refine lv_iload hC.1 hC.2.1 dL_would_83 (lv_at hl 10 rfl) ?_
          refine iald_k hC (hKN.go hAL hS) (keepS hP2 hS (lw_na hqm v)) 0 rfl (n := 24) (f := (v 0)) d66 (rfl) (by omega) (by first | decide | omega) dL_would_85 ?_
          refine lv_goto (tgt := 91) hC.1 hC.2.1 dL_would_86 (by decide) ?_
          have e_57 : bL_would_66 x v v2 x1 v_66 d66 y9_66 = tL_would_J91 x v v2 x1 v_66 d66 ((v 0) d66) := by
            delta bL_would_66
            try dsimp only
            exact Eq.trans (if_neg k79) rfl
          have hg : fL_would x v v2 x1 = (tL_would_66 x v v2 x1 v_66 (lpF n66 (d66 + 1) (bL_would_66 x v v2 x1 v_66) (tL_would_J91 x v v2 x1 v_66 d66 ((v 0) d66)))) := by have e2 := congrArg (fun z => (tL_would_66 x v v2 x1 v_66 (lpF n66 (d66 + 1) (bL_would_66 x v v2 x1 v_66) z))) e_57; exact hg.trans e2
          exact J91 ((v 0) d66) hg hI _ _ hP hS _ (lv_sub hl [0, 1, 2, 3, 4, 5, 6, 7, 8, 10] rfl)
  have e_58 : fL_would x v v2 x1 = tL_would_66 x v v2 x1 (r_8, x) (lpF 24 0 (bL_would_66 x v v2 x1 (r_8, x)) ((r_8 4) 20)) := by
    delta fL_would
    try dsimp only
    rw [← er_8]
  have hg : fL_would x v v2 x1 = (tL_would_66 x v v2 x1 (r_8, x) (lpF 24 0 (bL_would_66 x v v2 x1 (r_8, x)) ((r_8 4) 20))) := by have e2 := congrArg (fun z => z) e_58; exact hg.trans e2
  exact L66 (r_8, x) 24 0 ((r_8 4) 20) (by omega) hg hI _ _ hP hS _ (lv_sub hl [2, 3, 4, 5, 6, 7, 8, 9, 10, 1, 0] rfl)
