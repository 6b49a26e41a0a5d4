def tL_acts_136 (x : HV) (v : SV) (x7 : Int32) (x8 : Int32) (y9_136 : Int32) (v_136 : SV × HV) (s : Int32) : (SV × HV) × Int32 := let y10_136 := s; let r_21 := fX5_rest v_136.2 y9_136
  if r_21.2 = y10_136 then (((v_136.1, r_21.1), 1)) else (((v_136.1, r_21.1), 0))
def tL_acts_J161 (x : HV) (v : SV) (x7 : Int32) (x8 : Int32) (y9_136 : Int32) (v_136 : SV × HV) (d136 : Nat) (z0_161 : Int32) : Int32 := z0_161
def bL_acts_136 (x : HV) (v : SV) (x7 : Int32) (x8 : Int32) (y9_136 : Int32) (v_136 : SV × HV) (d136 : Nat) (s : Int32) : Int32 := let y10_136 := s; if ((v_136.1 0) d136) ≤ y10_136 then (tL_acts_J161 x v x7 x8 y9_136 v_136 d136 y10_136) else (tL_acts_J161 x v x7 x8 y9_136 v_136 d136 ((v_136.1 0) d136))
def tL_acts_J116 (x : HV) (v : SV) (x7 : Int32) (x8 : Int32) (z1_116 : Int32) (z2_116 : Int32) (v_116 : SV × HV) : (SV × HV) × Int32 := let r_18 := fL_passes v_116.1 ((1 : Int32) + (fL_low z1_116 z2_116))
  tL_acts_136 x v x7 x8 ((1 : Int32) + (fL_low z1_116 z2_116)) (r_18, v_116.2) (lpF 24 0 (bL_acts_136 x v x7 x8 ((1 : Int32) + (fL_low z1_116 z2_116)) (r_18, v_116.2)) 0)
def tL_acts_205 (x : HV) (v : SV) (x7 : Int32) (x8 : Int32) (s : Int32 × SV × HV) : (SV × HV) × Int32 := let y12_205 := s.1; let v_205 := s.2; let r_32 := fX5_lines v_205.2 (fL_dots x8) ((1 : Int32) + (fL_low (x8 >>> (20 &&& 31)) 5))
  if r_32.2 = y12_205 then (((v_205.1, r_32.1), 1)) else (((v_205.1, r_32.1), 0))
def bL_acts_205 (x : HV) (v : SV) (x7 : Int32) (x8 : Int32) (d205 : Nat) (s : Int32 × SV × HV) : Int32 × SV × HV := let y12_205 := s.1; let v_205 := s.2; let r_37 := fL_prints v_205.1 (fL_dots x8)
  (y12_205 + ((r_37 4) 19), (r_37, v_205.2))
def fL_acts (x : HV) (v : SV) (x7 : Int32) (x8 : Int32) : (SV × HV) × Int32 := if x7 = 0 then (let r_2 := fL_sets x v x8
  ((r_2.1.1, r_2.1.2), r_2.2)) else if x7 = 1 then (let r_6 := fL_sets x v x8
  ((r_6.1.1, r_6.1.2), r_6.2)) else if x7 = 2 then (let w_9 : Int32 := fL_low x8 3; let r_13 := fX5_paper x ((upd (upd (v 4) 7 w_9) 15 0) 7)
  if r_13.2 = ((v 4) 15) then (((mkL (v 0) (v 1) (v 2) (v 3) (upd (upd (v 4) 7 w_9) 15 0), r_13.1), 1)) else (((mkL (v 0) (v 1) (v 2) (v 3) (upd (upd (v 4) 7 w_9) 15 0), r_13.1), 0))) else if x7 = 3 then (if (fL_low (x8 >>> (9 &&& 31)) 3) = 0 then (tL_acts_J116 x v x7 x8 x8 300 (v, x)) else (tL_acts_J116 x v x7 x8 x8 20 (v, x))) else if x7 = 4 then (tL_acts_205 x v x7 x8 (lpF (((1 : Int32) + (fL_low (x8 >>> (20 &&& 31)) 5)).toNatClampNeg) 0 (bL_acts_205 x v x7 x8) (0, (v, x)))) else if x7 = 5 then (tL_acts_205 x v x7 x8 (lpF (((1 : Int32) + (fL_low (x8 >>> (20 &&& 31)) 5)).toNatClampNeg) 0 (bL_acts_205 x v x7 x8) (0, (v, x)))) else (let r_52 := fL_prints v (fL_dots x8)
  let r_55 := fX5_line x (fL_dots x8)
  if r_55.2 = ((r_52 4) 16) then (((r_52, r_55.1), 1)) else (((r_52, r_55.1), 0)))
theorem Z_L_sets (x : HV) (v : SV) (x3 : Int32) : (fL_sets x v x3).2 = 0 ∨ (fL_sets x v x3).2 = 1 := by
  have k : ∀ (c : Prop) [Decidable c] (a b : SV × HV), (if c then ((a, (1 : Int32)) : (SV × HV) × Int32) else (b, 0)).2 = 0 ∨ (if c then ((a, (1 : Int32)) : (SV × HV) × Int32) else (b, 0)).2 = 1 := by
    intro c _ a b
    split
    · exact Or.inr rfl
    · exact Or.inl rfl
  unfold fL_sets
  dsimp only
  split
  · exact k _ _ _
  · split
    · exact k _ _ _
    · split
      · exact k _ _ _
      · split
        · exact k _ _ _
        · split
          · exact k _ _ _
          · split
            · exact k _ _ _
            · exact k _ _ _
def okz (z : Int32) : Prop := z = 300 ∨ z = 20
theorem okz_ne {z : Int32} (h : okz z) : ¬ z = 0 := by
  rcases h with rfl | rfl <;> decide
theorem rest_ok {y z : Int32} (hx : okz z) : ¬ fX5_isWithin (1 + fL_low y z) 1 999 = 0 := by
  rcases hx with rfl | rfl
  · obtain ⟨r, r1, r2⟩ := low_n y (n := 300) (by omega) (by omega)
    rw [show fL_low y 300 = nI r from r2, show (1 : Int32) + nI r = nI (1 + r) from nI_add 1 r]
    exact iwn (a := 1) (b := 999) (by omega) (by omega) (by omega)
  · obtain ⟨r, r1, r2⟩ := low_n y (n := 20) (by omega) (by omega)
    rw [show fL_low y 20 = nI r from r2, show (1 : Int32) + nI r = nI (1 + r) from nI_add 1 r]
    exact iwn (a := 1) (b := 999) (by omega) (by omega) (by omega)
theorem dL_acts_0 : decode cL_acts 0 = .ok (.iload 6, 2) := by decide +kernel
theorem dL_acts_2 : decode cL_acts 2 = .ok (.tableswitch 263 0 5 #[38, 38, 47, 91, 184, 184], 38) := by decide +kernel
theorem dL_acts_40 : decode cL_acts 40 = .ok (.aload_n 0, 1) := by decide +kernel
theorem dL_acts_41 : decode cL_acts 41 = .ok (.aload 5, 2) := by decide +kernel
theorem dL_acts_43 : decode cL_acts 43 = .ok (.iload 7, 2) := by decide +kernel
theorem dL_acts_45 : decode cL_acts 45 = .ok (.invokestatic 85, 3) := by decide +kernel
theorem dL_acts_48 : decode cL_acts 48 = .ok (.ireturn, 1) := by decide +kernel
theorem dL_acts_49 : decode cL_acts 49 = .ok (.aload 5, 2) := by decide +kernel
theorem dL_acts_51 : decode cL_acts 51 = .ok (.bipush 15, 2) := by decide +kernel
theorem dL_acts_53 : decode cL_acts 53 = .ok (.iaload, 1) := by decide +kernel
theorem dL_acts_54 : decode cL_acts 54 = .ok (.istore 8, 2) := by decide +kernel
theorem dL_acts_56 : decode cL_acts 56 = .ok (.aload 5, 2) := by decide +kernel
theorem dL_acts_58 : decode cL_acts 58 = .ok (.bipush 7, 2) := by decide +kernel
theorem dL_acts_60 : decode cL_acts 60 = .ok (.iload 7, 2) := by decide +kernel
theorem dL_acts_62 : decode cL_acts 62 = .ok (.iconst 3, 1) := by decide +kernel
theorem dL_acts_63 : decode cL_acts 63 = .ok (.invokestatic 78, 3) := by decide +kernel
theorem dL_acts_66 : decode cL_acts 66 = .ok (.iastore, 1) := by decide +kernel
theorem dL_acts_67 : decode cL_acts 67 = .ok (.aload 5, 2) := by decide +kernel
theorem dL_acts_69 : decode cL_acts 69 = .ok (.bipush 15, 2) := by decide +kernel
theorem dL_acts_71 : decode cL_acts 71 = .ok (.iconst 0, 1) := by decide +kernel
theorem dL_acts_72 : decode cL_acts 72 = .ok (.iastore, 1) := by decide +kernel
theorem dL_acts_73 : decode cL_acts 73 = .ok (.aload_n 0, 1) := by decide +kernel
theorem dL_acts_74 : decode cL_acts 74 = .ok (.aload 5, 2) := by decide +kernel
theorem dL_acts_76 : decode cL_acts 76 = .ok (.bipush 7, 2) := by decide +kernel
theorem dL_acts_78 : decode cL_acts 78 = .ok (.iaload, 1) := by decide +kernel
theorem dL_acts_79 : decode cL_acts 79 = .ok (.invokevirtual 89, 3) := by decide +kernel
theorem dL_acts_82 : decode cL_acts 82 = .ok (.iload 8, 2) := by decide +kernel
theorem dL_acts_84 : decode cL_acts 84 = .ok (.if_icmp .ne 7, 3) := by decide +kernel
theorem dL_acts_87 : decode cL_acts 87 = .ok (.iconst 1, 1) := by decide +kernel
theorem dL_acts_88 : decode cL_acts 88 = .ok (.goto 4, 3) := by decide +kernel
theorem dL_acts_91 : decode cL_acts 91 = .ok (.iconst 0, 1) := by decide +kernel
theorem dL_acts_92 : decode cL_acts 92 = .ok (.ireturn, 1) := by decide +kernel
theorem dL_acts_93 : decode cL_acts 93 = .ok (.iconst 1, 1) := by decide +kernel
theorem dL_acts_94 : decode cL_acts 94 = .ok (.iload 7, 2) := by decide +kernel
theorem dL_acts_96 : decode cL_acts 96 = .ok (.iload 7, 2) := by decide +kernel
theorem dL_acts_98 : decode cL_acts 98 = .ok (.bipush 9, 2) := by decide +kernel
theorem dL_acts_100 : decode cL_acts 100 = .ok (.ishr, 1) := by decide +kernel
theorem dL_acts_101 : decode cL_acts 101 = .ok (.iconst 3, 1) := by decide +kernel
theorem dL_acts_102 : decode cL_acts 102 = .ok (.invokestatic 78, 3) := by decide +kernel
theorem dL_acts_105 : decode cL_acts 105 = .ok (.ifCond .ne 9, 3) := by decide +kernel
theorem dL_acts_108 : decode cL_acts 108 = .ok (.sipush 300, 3) := by decide +kernel
theorem dL_acts_111 : decode cL_acts 111 = .ok (.goto 5, 3) := by decide +kernel
theorem dL_acts_114 : decode cL_acts 114 = .ok (.bipush 20, 2) := by decide +kernel
theorem dL_acts_116 : decode cL_acts 116 = .ok (.invokestatic 78, 3) := by decide +kernel
theorem dL_acts_119 : decode cL_acts 119 = .ok (.iadd, 1) := by decide +kernel
theorem dL_acts_120 : decode cL_acts 120 = .ok (.istore 9, 2) := by decide +kernel
theorem dL_acts_122 : decode cL_acts 122 = .ok (.aload_n 1, 1) := by decide +kernel
theorem dL_acts_123 : decode cL_acts 123 = .ok (.aload 5, 2) := by decide +kernel
theorem dL_acts_125 : decode cL_acts 125 = .ok (.iload 9, 2) := by decide +kernel
theorem dL_acts_127 : decode cL_acts 127 = .ok (.invokestatic 27, 3) := by decide +kernel
theorem dL_acts_130 : decode cL_acts 130 = .ok (.iconst 0, 1) := by decide +kernel
theorem dL_acts_131 : decode cL_acts 131 = .ok (.istore 10, 2) := by decide +kernel
theorem dL_acts_133 : decode cL_acts 133 = .ok (.iconst 0, 1) := by decide +kernel
theorem dL_acts_134 : decode cL_acts 134 = .ok (.istore 11, 2) := by decide +kernel
theorem dL_acts_136 : decode cL_acts 136 = .ok (.iload 11, 2) := by decide +kernel
theorem dL_acts_138 : decode cL_acts 138 = .ok (.bipush 24, 2) := by decide +kernel
theorem dL_acts_140 : decode cL_acts 140 = .ok (.if_icmp .ge 29, 3) := by decide +kernel
theorem dL_acts_143 : decode cL_acts 143 = .ok (.aload_n 1, 1) := by decide +kernel
theorem dL_acts_144 : decode cL_acts 144 = .ok (.iload 11, 2) := by decide +kernel
theorem dL_acts_146 : decode cL_acts 146 = .ok (.iaload, 1) := by decide +kernel
theorem dL_acts_147 : decode cL_acts 147 = .ok (.iload 10, 2) := by decide +kernel
theorem dL_acts_149 : decode cL_acts 149 = .ok (.if_icmp .le 10, 3) := by decide +kernel
theorem dL_acts_152 : decode cL_acts 152 = .ok (.aload_n 1, 1) := by decide +kernel
theorem dL_acts_153 : decode cL_acts 153 = .ok (.iload 11, 2) := by decide +kernel
theorem dL_acts_155 : decode cL_acts 155 = .ok (.iaload, 1) := by decide +kernel
theorem dL_acts_156 : decode cL_acts 156 = .ok (.goto 5, 3) := by decide +kernel
theorem dL_acts_159 : decode cL_acts 159 = .ok (.iload 10, 2) := by decide +kernel
theorem dL_acts_161 : decode cL_acts 161 = .ok (.istore 10, 2) := by decide +kernel
theorem dL_acts_163 : decode cL_acts 163 = .ok (.iinc 11 1, 3) := by decide +kernel
theorem dL_acts_166 : decode cL_acts 166 = .ok (.goto (-30), 3) := by decide +kernel
theorem dL_acts_169 : decode cL_acts 169 = .ok (.aload_n 0, 1) := by decide +kernel
theorem dL_acts_170 : decode cL_acts 170 = .ok (.iload 9, 2) := by decide +kernel
theorem dL_acts_172 : decode cL_acts 172 = .ok (.invokevirtual 92, 3) := by decide +kernel
theorem dL_acts_175 : decode cL_acts 175 = .ok (.iload 10, 2) := by decide +kernel
theorem dL_acts_177 : decode cL_acts 177 = .ok (.if_icmp .ne 7, 3) := by decide +kernel
theorem dL_acts_180 : decode cL_acts 180 = .ok (.iconst 1, 1) := by decide +kernel
theorem dL_acts_181 : decode cL_acts 181 = .ok (.goto 4, 3) := by decide +kernel
theorem dL_acts_184 : decode cL_acts 184 = .ok (.iconst 0, 1) := by decide +kernel
theorem dL_acts_185 : decode cL_acts 185 = .ok (.ireturn, 1) := by decide +kernel
theorem dL_acts_186 : decode cL_acts 186 = .ok (.iconst 1, 1) := by decide +kernel
theorem dL_acts_187 : decode cL_acts 187 = .ok (.iload 7, 2) := by decide +kernel
theorem dL_acts_189 : decode cL_acts 189 = .ok (.bipush 20, 2) := by decide +kernel
theorem dL_acts_191 : decode cL_acts 191 = .ok (.ishr, 1) := by decide +kernel
theorem dL_acts_192 : decode cL_acts 192 = .ok (.iconst 5, 1) := by decide +kernel
theorem dL_acts_193 : decode cL_acts 193 = .ok (.invokestatic 78, 3) := by decide +kernel
theorem dL_acts_196 : decode cL_acts 196 = .ok (.iadd, 1) := by decide +kernel
theorem dL_acts_197 : decode cL_acts 197 = .ok (.istore 11, 2) := by decide +kernel
theorem dL_acts_199 : decode cL_acts 199 = .ok (.iconst 0, 1) := by decide +kernel
theorem dL_acts_200 : decode cL_acts 200 = .ok (.istore 12, 2) := by decide +kernel
theorem dL_acts_202 : decode cL_acts 202 = .ok (.iconst 0, 1) := by decide +kernel
theorem dL_acts_203 : decode cL_acts 203 = .ok (.istore 13, 2) := by decide +kernel
theorem dL_acts_205 : decode cL_acts 205 = .ok (.iload 13, 2) := by decide +kernel
theorem dL_acts_207 : decode cL_acts 207 = .ok (.iload 11, 2) := by decide +kernel
theorem dL_acts_209 : decode cL_acts 209 = .ok (.if_icmp .ge 34, 3) := by decide +kernel
theorem dL_acts_212 : decode cL_acts 212 = .ok (.aload_n 1, 1) := by decide +kernel
theorem dL_acts_213 : decode cL_acts 213 = .ok (.aload_n 2, 1) := by decide +kernel
theorem dL_acts_214 : decode cL_acts 214 = .ok (.aload_n 3, 1) := by decide +kernel
theorem dL_acts_215 : decode cL_acts 215 = .ok (.aload 4, 2) := by decide +kernel
theorem dL_acts_217 : decode cL_acts 217 = .ok (.aload 5, 2) := by decide +kernel
theorem dL_acts_219 : decode cL_acts 219 = .ok (.iload 7, 2) := by decide +kernel
theorem dL_acts_221 : decode cL_acts 221 = .ok (.invokestatic 95, 3) := by decide +kernel
theorem dL_acts_224 : decode cL_acts 224 = .ok (.invokestatic 62, 3) := by decide +kernel
theorem dL_acts_227 : decode cL_acts 227 = .ok (.iload 12, 2) := by decide +kernel
theorem dL_acts_229 : decode cL_acts 229 = .ok (.aload 5, 2) := by decide +kernel
theorem dL_acts_231 : decode cL_acts 231 = .ok (.bipush 19, 2) := by decide +kernel
theorem dL_acts_233 : decode cL_acts 233 = .ok (.iaload, 1) := by decide +kernel
theorem dL_acts_234 : decode cL_acts 234 = .ok (.iadd, 1) := by decide +kernel
theorem dL_acts_235 : decode cL_acts 235 = .ok (.istore 12, 2) := by decide +kernel
theorem dL_acts_237 : decode cL_acts 237 = .ok (.iinc 13 1, 3) := by decide +kernel
theorem dL_acts_240 : decode cL_acts 240 = .ok (.goto (-35), 3) := by decide +kernel
theorem dL_acts_243 : decode cL_acts 243 = .ok (.aload_n 0, 1) := by decide +kernel
theorem dL_acts_244 : decode cL_acts 244 = .ok (.iload 7, 2) := by decide +kernel
theorem dL_acts_246 : decode cL_acts 246 = .ok (.invokestatic 95, 3) := by decide +kernel
theorem dL_acts_249 : decode cL_acts 249 = .ok (.iload 11, 2) := by decide +kernel
theorem dL_acts_251 : decode cL_acts 251 = .ok (.invokevirtual 98, 3) := by decide +kernel
theorem dL_acts_254 : decode cL_acts 254 = .ok (.iload 12, 2) := by decide +kernel
theorem dL_acts_256 : decode cL_acts 256 = .ok (.if_icmp .ne 7, 3) := by decide +kernel
theorem dL_acts_259 : decode cL_acts 259 = .ok (.iconst 1, 1) := by decide +kernel
theorem dL_acts_260 : decode cL_acts 260 = .ok (.goto 4, 3) := by decide +kernel
theorem dL_acts_263 : decode cL_acts 263 = .ok (.iconst 0, 1) := by decide +kernel
theorem dL_acts_264 : decode cL_acts 264 = .ok (.ireturn, 1) := by decide +kernel
theorem dL_acts_265 : decode cL_acts 265 = .ok (.aload_n 1, 1) := by decide +kernel
theorem dL_acts_266 : decode cL_acts 266 = .ok (.aload_n 2, 1) := by decide +kernel
theorem dL_acts_267 : decode cL_acts 267 = .ok (.aload_n 3, 1) := by decide +kernel
theorem dL_acts_268 : decode cL_acts 268 = .ok (.aload 4, 2) := by decide +kernel
theorem dL_acts_270 : decode cL_acts 270 = .ok (.aload 5, 2) := by decide +kernel
theorem dL_acts_272 : decode cL_acts 272 = .ok (.iload 7, 2) := by decide +kernel
theorem dL_acts_274 : decode cL_acts 274 = .ok (.invokestatic 95, 3) := by decide +kernel
theorem dL_acts_277 : decode cL_acts 277 = .ok (.invokestatic 62, 3) := by decide +kernel
theorem dL_acts_280 : decode cL_acts 280 = .ok (.aload_n 0, 1) := by decide +kernel
theorem dL_acts_281 : decode cL_acts 281 = .ok (.iload 7, 2) := by decide +kernel
theorem dL_acts_283 : decode cL_acts 283 = .ok (.invokestatic 95, 3) := by decide +kernel
theorem dL_acts_286 : decode cL_acts 286 = .ok (.invokevirtual 101, 3) := by decide +kernel
theorem dL_acts_289 : decode cL_acts 289 = .ok (.aload 5, 2) := by decide +kernel
theorem dL_acts_291 : decode cL_acts 291 = .ok (.bipush 16, 2) := by decide +kernel
theorem dL_acts_293 : decode cL_acts 293 = .ok (.iaload, 1) := by decide +kernel
theorem dL_acts_294 : decode cL_acts 294 = .ok (.if_icmp .ne 7, 3) := by decide +kernel
theorem dL_acts_297 : decode cL_acts 297 = .ok (.iconst 1, 1) := by decide +kernel
theorem dL_acts_298 : decode cL_acts 298 = .ok (.goto 4, 3) := by decide +kernel
theorem dL_acts_301 : decode cL_acts 301 = .ok (.iconst 0, 1) := by decide +kernel
theorem dL_acts_302 : decode cL_acts 302 = .ok (.ireturn, 1) := by decide +kernel
set_option maxHeartbeats 4000000 in
set_option maxRecDepth 100000 in
theorem c_L_acts (l : Launch) (G : GT) (a : Nat → Nat) (b0 : Nat → Nat) (x : HV) (q : Nat → Nat) (v : SV) (x7 : Int32) (x8 : Int32) (hql : lwD G q) (hq : hdD G a b0) (hN : ∀ z, lwA q z → ¬ hdA a b0 z) (hI : JI (v, x)) : Met l yL_acts (Cond.code yL_acts cL_acts 14 (some .boolean) :: bigW) ({ frames := 7, cells := 0, slots := 0, locals := 162 }) (BP G [.ref (a 0), .ref (q 0), .ref (q 1), .ref (q 2), .ref (q 3), .ref (q 4), .int x7, .int x8] (fun U H => PW G (lwW G q v ++ hdW G a b0 x) H)) (QE (some (.int (fL_acts x v x7 x8).2)) (fun H => ∃ b', hdR G a b0 b' ∧ PW G (lwW G q (fL_acts x v x7 x8).1.1 ++ hdW G a b' (fL_acts x v x7 x8).1.2) H) (jnA q a b0)) 0 0 (jnA q a b0) := by
  refine met_of (by decide) (Nat.le_of_ble_eq_true rfl) ?_
  intro p e s m below meth c ls hC hKN hB0 hl
  have hP := hB0
  have hl : lv_has ls 14 [(0, .ref (a 0)), (1, .ref (q 0)), (2, .ref (q 1)), (3, .ref (q 2)), (4, .ref (q 3)), (5, .ref (q 4)), (6, .int x7), (7, .int x8)] := hl
  have hS : va_S (jnA q a b0) s.heap s.heap [] := va_S.rf
  have hAL : ∀ z, (jnA q a b0) z → gL G ≤ z := jnA_low hql hq
  obtain ⟨b, hbe⟩ : ∃ b, b = b0 := ⟨_, rfl⟩
  have hRb : hdR G a b0 b := by rw [hbe]; exact hdR.rf hq
  rw [← hbe] at hP hN hq
  have hAj : ∀ z, jnA q a b z → (jnA q a b0) z := by rw [hbe]; exact fun _ h => h
  have hAq : ∀ z, lwA q z → (jnA q a b0) z := fun _ h => Or.inl h
  have hAb : ∀ z, hdA a b z → (jnA q a b0) z := fun z h => hAj z (Or.inr h)
  have hg : fL_acts x v x7 x8 = fL_acts x v x7 x8 := rfl
  refine lv_iload hC.1 hC.2.1 dL_acts_0 (lv_at hl 6 rfl) ?_
  by_cases k2_0 : x7 = 0
  · refine swIn hC (tgt := 40) 0 k2_0 dL_acts_2 (by decide) (by decide) rfl (by decide) ?_
    refine lv_aload_n hC.1 hC.2.1 dL_acts_40 rfl (lv_at hl 0 rfl) ?_
    refine lv_aload hC.1 hC.2.1 dL_acts_41 (lv_at hl 5 rfl) ?_
    refine lv_iload hC.1 hC.2.1 dL_acts_43 (lv_at hl 7 rfl) ?_
    refine runE (rS (B := fun U H => PW G (lwW G q v ++ hdW G a b x) H) (As := [.ref (a 0), .ref (q 4), .int x8]) (rest := []) hC mwL_sets (c_L_sets l G a b x q v x8 hql hq hN hI.2) wd_591 wd_590 ⟨rfl, rfl⟩ ⟨Nat.le_of_ble_eq_true rfl, Nat.le_of_ble_eq_true rfl⟩ (stb_h (fun H => PW G (lwW G q v ++ hdW G a b x) H)) hKN hP rfl hl.1 rfl (Nat.le_of_ble_eq_true rfl) dL_acts_45 ⟨Nat.zero_le _, Nat.zero_le _⟩) hS (fun _ h => hAj _ h) (fun _ h => hAj _ h) (fun H locs hq_1 _ hk_3 hS => ?_)
    obtain ⟨b, hR, hP⟩ := hq_1
    have hN : ∀ z, lwA q z → ¬ hdA a b z := fun z h k => hN z h (hR.2 z k)
    have hAj : ∀ z, jnA q a b z → (jnA q a b0) z := fun z h => hAj z (jnA_R hR h)
    have hAb : ∀ z, hdA a b z → (jnA q a b0) z := fun z h => hAb z (hR.2 z h)
    have hRb := hRb.tr hR
    have hq := hR.1
    obtain ⟨r_2, er_2⟩ : ∃ z, z = fL_sets x v x8 := ⟨_, rfl⟩
    rw [← er_2] at hP
    show W p l e ({ frames := 7, cells := 0, slots := 0, locals := 162 }) s m ([.ref (a 0), .ref (q 0), .ref (q 1), .ref (q 2), .ref (q 3), .ref (q 4), .int x7, .int x8] : List Value).toArray below meth c H locs (0 + 0) (0 + 0) _ (F0 m (45 + 3) ls [.int ((fL_sets x v x8).2)])
    rw [← er_2]
    have hI : True := trivial
    have e_4 : fL_acts x v x7 x8 = ((r_2.1.1, r_2.1.2), r_2.2) := by
      delta fL_acts
      try dsimp only
      rw [← er_2]
      exact Eq.trans (if_pos k2_0) rfl
    have hg : fL_acts x v x7 x8 = ((r_2.1.1, r_2.1.2), r_2.2) := by have e2 := congrArg (fun z => z) e_4; exact hg.trans e2
    exact eE_z hC (by rw [hg]) (nb01 (by rw [er_2]; apply Z_L_sets)) ⟨b, hRb, by rw [hg]; exact hP⟩ hS dL_acts_48
  · skip
    by_cases k2_1 : x7 = 1
    · refine swIn hC (tgt := 40) 1 k2_1 dL_acts_2 (by decide) (by decide) rfl (by decide) ?_
      refine lv_aload_n hC.1 hC.2.1 dL_acts_40 rfl (lv_at hl 0 rfl) ?_
      refine lv_aload hC.1 hC.2.1 dL_acts_41 (lv_at hl 5 rfl) ?_
      refine lv_iload hC.1 hC.2.1 dL_acts_43 (lv_at hl 7 rfl) ?_
      refine runE (rS (B := fun U H => PW G (lwW G q v ++ hdW G a b x) H) (As := [.ref (a 0), .ref (q 4), .int x8]) (rest := []) hC mwL_sets (c_L_sets l G a b x q v x8 hql hq hN hI.2) wd_591 wd_590 ⟨rfl, rfl⟩ ⟨Nat.le_of_ble_eq_true rfl, Nat.le_of_ble_eq_true rfl⟩ (stb_h (fun H => PW G (lwW G q v ++ hdW G a b x) H)) hKN hP rfl hl.1 rfl (Nat.le_of_ble_eq_true rfl) dL_acts_45 ⟨Nat.zero_le _, Nat.zero_le _⟩) hS (fun _ h => hAj _ h) (fun _ h => hAj _ h) (fun H locs hq_5 _ hk_7 hS => ?_)
      obtain ⟨b, hR, hP⟩ := hq_5
      have hN : ∀ z, lwA q z → ¬ hdA a b z := fun z h k => hN z h (hR.2 z k)
      have hAj : ∀ z, jnA q a b z → (jnA q a b0) z := fun z h => hAj z (jnA_R hR h)
      have hAb : ∀ z, hdA a b z → (jnA q a b0) z := fun z h => hAb z (hR.2 z h)
      have hRb := hRb.tr hR
      have hq := hR.1
      obtain ⟨r_6, er_6⟩ : ∃ z, z = fL_sets x v x8 := ⟨_, rfl⟩
      rw [← er_6] at hP
      show W p l e ({ frames := 7, cells := 0, slots := 0, locals := 162 }) s m ([.ref (a 0), .ref (q 0), .ref (q 1), .ref (q 2), .ref (q 3), .ref (q 4), .int x7, .int x8] : List Value).toArray below meth c H locs (0 + 0) (0 + 0) _ (F0 m (45 + 3) ls [.int ((fL_sets x v x8).2)])
      rw [← er_6]
      have hI : True := trivial
      have e_8 : fL_acts x v x7 x8 = ((r_6.1.1, r_6.1.2), r_6.2) := by
        delta fL_acts
        try dsimp only
        rw [← er_6]
        exact Eq.trans (if_neg k2_0) (Eq.trans (if_pos k2_1) rfl)
      have hg : fL_acts x v x7 x8 = ((r_6.1.1, r_6.1.2), r_6.2) := by have e2 := congrArg (fun z => z) e_8; exact hg.trans e2
      exact eE_z hC (by rw [hg]) (nb01 (by rw [er_6]; apply Z_L_sets)) ⟨b, hRb, by rw [hg]; exact hP⟩ hS dL_acts_48
    · skip
      by_cases k2_2 : x7 = 2
      · refine swIn hC (tgt := 49) 2 k2_2 dL_acts_2 (by decide) (by decide) rfl (by decide) ?_
        refine lv_aload hC.1 hC.2.1 dL_acts_49 (lv_at hl 5 rfl) ?_
        refine lv_bipush (v := 15) hC.1 hC.2.1 dL_acts_51 (by decide +kernel) ?_
        refine iald_k hC hKN hP 4 rfl (n := 21) (f := (v 4)) 15 (rfl) (by omega) (by first | decide | omega) dL_acts_53 ?_
        refine lv_istore (lv' := [(8, .int ((v 4) 15)), (0, .ref (a 0)), (1, .ref (q 0)), (2, .ref (q 1)), (3, .ref (q 2)), (4, .ref (q 3)), (5, .ref (q 4)), (6, .int x7), (7, .int x8)]) hC.1 hC.2.1 dL_acts_54 hl (by decide) rfl (fun ls hl => ?_)
        refine lv_aload hC.1 hC.2.1 dL_acts_56 (lv_at hl 6 rfl) ?_
        refine lv_bipush (v := 7) hC.1 hC.2.1 dL_acts_58 (by decide +kernel) ?_
        refine lv_iload hC.1 hC.2.1 dL_acts_60 (lv_at hl 8 rfl) ?_
        refine lv_iconst (v := 3) hC.1 hC.2.1 dL_acts_62 (by decide) ?_
        refine runP (rS (B := fun U H => True) (As := [.int x8, .int 3]) (rest := [.int 7, .ref (q 4)]) hC mwL_low (c_L_low l G x8 3 (by decide)) wd_219 wd_218 ⟨rfl, rfl⟩ ⟨Nat.le_of_ble_eq_true rfl, Nat.le_of_ble_eq_true rfl⟩ (fun _ _ _ _ h => h) hKN trivial rfl hl.1 rfl (Nat.le_of_ble_eq_true rfl) dL_acts_63 ⟨Nat.zero_le _, Nat.zero_le _⟩) ?_
        refine lv_topi (fun w_9 ew_9 => ?_)
        refine iast_k hC hKN hP (jn_D hql hq hN hAq hAb v x) hS 4 rfl (n := 21) (f := (v 4)) 7 (rfl) (by omega) (by first | decide | omega) dL_acts_66 (fun H locs hq_10 hS => ?_)
        have hP : PW G (lwW G q (mkL (v 0) (v 1) (v 2) (v 3) (upd (v 4) 7 w_9)) ++ hdW G a b x) H := hq_10
        have hI : JI (mkL (v 0) (v 1) (v 2) (v 3) (upd (v 4) 7 w_9), x) := ⟨LS_7 hI.1 ew_9, hI.2⟩
        refine lv_aload hC.1 hC.2.1 dL_acts_67 (lv_at hl 6 rfl) ?_
        refine lv_bipush (v := 15) hC.1 hC.2.1 dL_acts_69 (by decide +kernel) ?_
        refine lv_iconst (v := 0) hC.1 hC.2.1 dL_acts_71 (by decide) ?_
        refine iast_k hC (hKN.go hAL hS) hP (jn_D hql hq hN hAq hAb (mkL (v 0) (v 1) (v 2) (v 3) (upd (v 4) 7 w_9)) x) hS 4 rfl (n := 21) (f := (upd (v 4) 7 w_9)) 15 (rfl) (by omega) (by first | decide | omega) dL_acts_72 (fun H locs hq_11 hS => ?_)
        have hP : PW G (lwW G q (mkL (v 0) (v 1) (v 2) (v 3) (upd (upd (v 4) 7 w_9) 15 0)) ++ hdW G a b x) H := hq_11
        have hI : JI (mkL (v 0) (v 1) (v 2) (v 3) (upd (upd (v 4) 7 w_9) 15 0), x) := ⟨LSn_of hI.1 (fun j hj => pk_un (by omega)), hI.2⟩
        refine lv_aload_n hC.1 hC.2.1 dL_acts_73 rfl (lv_at hl 1 rfl) ?_
        refine lv_aload hC.1 hC.2.1 dL_acts_74 (lv_at hl 6 rfl) ?_
        refine lv_bipush (v := 7) hC.1 hC.2.1 dL_acts_76 (by decide +kernel) ?_
        refine iald_k hC (hKN.go hAL hS) hP 4 rfl (n := 21) (f := (upd (upd (v 4) 7 w_9) 15 0)) 7 (rfl) (by omega) (by first | decide | omega) dL_acts_78 ?_
        refine runE (rV (B := fun U H => PW G (hdW G a b x) H) (As := [.int ((upd (upd (v 4) 7 w_9) 15 0) 7)]) (rest := []) hC mwX5_paper (c_X5_paper l G a b x ((upd (upd (v 4) 7 w_9) 15 0) 7) hq hI.2 (pap_ok ((pk_un (by decide)).trans (pk_us.trans ew_9)))) iwX5_paper wd_614 ⟨rfl, rfl⟩ ⟨Nat.le_of_ble_eq_true rfl, Nat.le_of_ble_eq_true rfl⟩ (stb_h (fun H => PW G (hdW G a b x) H)) (hKN.go hAL hS) (PW_app.mp hP).2 (va_recv (hKN.go hAL hS).k (PW_app.mp hP).2 (ci := 5) (q0 := 0) rfl rfl) rfl hl.1 rfl (Nat.le_of_ble_eq_true rfl) dL_acts_79 ⟨Nat.zero_le _, Nat.zero_le _⟩) hS (fun _ h => hAb _ h) (fun _ h => hAb _ h) (fun H locs hq_12 _ hk_14 hS => ?_)
        obtain ⟨b, hR, hP⟩ := jn_hdN hql hN hP hk_14 hq_12
        have hN : ∀ z, lwA q z → ¬ hdA a b z := fun z h k => hN z h (hR.2 z k)
        have hAj : ∀ z, jnA q a b z → (jnA q a b0) z := fun z h => hAj z (jnA_R hR h)
        have hAb : ∀ z, hdA a b z → (jnA q a b0) z := fun z h => hAb z (hR.2 z h)
        have hRb := hRb.tr hR
        have hq := hR.1
        obtain ⟨r_13, er_13⟩ : ∃ z, z = fX5_paper x ((upd (upd (v 4) 7 w_9) 15 0) 7) := ⟨_, rfl⟩
        rw [← er_13] at hP
        show W p l e ({ frames := 7, cells := 0, slots := 0, locals := 162 }) s m ([.ref (a 0), .ref (q 0), .ref (q 1), .ref (q 2), .ref (q 3), .ref (q 4), .int x7, .int x8] : List Value).toArray below meth c H locs (0 + 0) (0 + 0) _ (F0 m (79 + 3) ls [.int ((fX5_paper x ((upd (upd (v 4) 7 w_9) 15 0) 7)).2)])
        rw [← er_13]
        have hI : True := trivial
        refine lv_iload hC.1 hC.2.1 dL_acts_82 (lv_at hl 0 rfl) ?_
        refine lv_icmp_ne (tgt := 91) hC.1 hC.2.1 dL_acts_84 (by decide) (fun k84 => ?_) (fun k84 => ?_)
        · refine lv_iconst (v := 0) hC.1 hC.2.1 dL_acts_91 (by decide) ?_
          have e_15 : fL_acts x v x7 x8 = ((mkL (v 0) (v 1) (v 2) (v 3) (upd (upd (v 4) 7 w_9) 15 0), r_13.1), 0) := by
            have q_ := ew_9.symm; subst q_; delta fL_acts
            try dsimp only
            rw [← er_13]
            exact Eq.trans (if_neg k2_0) (Eq.trans (if_neg k2_1) (Eq.trans (if_pos k2_2) (Eq.trans (if_neg k84) rfl)))
          have hg : fL_acts x v x7 x8 = ((mkL (v 0) (v 1) (v 2) (v 3) (upd (upd (v 4) 7 w_9) 15 0), r_13.1), 0) := by have e2 := congrArg (fun z => z) e_15; exact hg.trans e2
          exact eE_z hC (by rw [hg]) rfl ⟨b, hRb, by rw [hg]; exact hP⟩ hS dL_acts_92
        · refine lv_iconst (v := 1) hC.1 hC.2.1 dL_acts_87 (by decide) ?_
          refine lv_goto (tgt := 92) hC.1 hC.2.1 dL_acts_88 (by decide) ?_
          have e_16 : fL_acts x v x7 x8 = ((mkL (v 0) (v 1) (v 2) (v 3) (upd (upd (v 4) 7 w_9) 15 0), r_13.1), 1) := by
            have q_ := ew_9.symm; subst q_; delta fL_acts
            try dsimp only
            rw [← er_13]
            exact Eq.trans (if_neg k2_0) (Eq.trans (if_neg k2_1) (Eq.trans (if_pos k2_2) (Eq.trans (if_pos k84) rfl)))
          have hg : fL_acts x v x7 x8 = ((mkL (v 0) (v 1) (v 2) (v 3) (upd (upd (v 4) 7 w_9) 15 0), r_13.1), 1) := by have e2 := congrArg (fun z => z) e_16; exact hg.trans e2
          exact eE_z hC (by rw [hg]) rfl ⟨b, hRb, by rw [hg]; exact hP⟩ hS dL_acts_92
      · skip
        by_cases k2_3 : x7 = 3
        · refine swIn hC (tgt := 93) 3 k2_3 dL_acts_2 (by decide) (by decide) rfl (by decide) ?_
          refine lv_iconst (v := 1) hC.1 hC.2.1 dL_acts_93 (by decide) ?_
          refine lv_iload hC.1 hC.2.1 dL_acts_94 (lv_at hl 7 rfl) ?_
          refine lv_iload hC.1 hC.2.1 dL_acts_96 (lv_at hl 7 rfl) ?_
          refine lv_bipush (v := 9) hC.1 hC.2.1 dL_acts_98 (by decide +kernel) ?_
          refine lv_ishr hC.1 hC.2.1 dL_acts_100 ?_
          refine lv_iconst (v := 3) hC.1 hC.2.1 dL_acts_101 (by decide) ?_
          refine runP (rS (B := fun U H => True) (As := [.int (x8 >>> (9 &&& 31)), .int 3]) (rest := [.int x8, .int 1]) hC mwL_low (c_L_low l G (x8 >>> (9 &&& 31)) 3 (by decide)) wd_219 wd_218 ⟨rfl, rfl⟩ ⟨Nat.le_of_ble_eq_true rfl, Nat.le_of_ble_eq_true rfl⟩ (fun _ _ _ _ h => h) hKN trivial rfl hl.1 rfl (Nat.le_of_ble_eq_true rfl) dL_acts_102 ⟨Nat.zero_le _, Nat.zero_le _⟩) ?_
          have J116 : ∀ (z1_116 : Int32) (z2_116 : Int32) (v_116 : SV × HV), fL_acts x v x7 x8 = tL_acts_J116 x v x7 x8 z1_116 z2_116 v_116 → JI (v_116.1, v_116.2) ∧ okz z2_116 → ∀ (H : Heap) (locs : List Loc), PW G (lwW G q v_116.1 ++ hdW G a b v_116.2) H → va_S (jnA q a b0) s.heap H locs → ∀ (ls : Array Slot), lv_has ls 14 [(0, .ref (a 0)), (1, .ref (q 0)), (5, .ref (q 4))] → W p l e ({ frames := 7, cells := 0, slots := 0, locals := 162 }) s m ([.ref (a 0), .ref (q 0), .ref (q 1), .ref (q 2), .ref (q 3), .ref (q 4), .int x7, .int x8] : List Value).toArray below meth c H locs 0 0 (MQ below (QE (some (.int (fL_acts x v x7 x8).2)) (fun H => ∃ b', hdR G a b0 b' ∧ PW G (lwW G q (fL_acts x v x7 x8).1.1 ++ hdW G a b' (fL_acts x v x7 x8).1.2) H) (jnA q a b0)) ([.ref (a 0), .ref (q 0), .ref (q 1), .ref (q 2), .ref (q 3), .ref (q 4), .int x7, .int x8] : List Value).toArray s 0 0 (jnA q a b0)) (F0 m 116 ls [.int z2_116, .int z1_116, .int 1]) := by
            intro z1_116 z2_116 v_116 hg hI H locs hP hS ls hl
            refine runP (rS (B := fun U H => True) (As := [.int z1_116, .int z2_116]) (rest := [.int 1]) hC mwL_low (c_L_low l G z1_116 z2_116 (okz_ne hI.2)) wd_219 wd_218 ⟨rfl, rfl⟩ ⟨Nat.le_of_ble_eq_true rfl, Nat.le_of_ble_eq_true rfl⟩ (fun _ _ _ _ h => h) (hKN.go hAL hS) trivial rfl hl.1 rfl (Nat.le_of_ble_eq_true rfl) dL_acts_116 ⟨Nat.zero_le _, Nat.zero_le _⟩) ?_
            refine lv_iadd hC.1 hC.2.1 dL_acts_119 ?_
            refine lv_istore (lv' := [(9, .int ((1 : Int32) + (fL_low z1_116 z2_116))), (0, .ref (a 0)), (1, .ref (q 0)), (5, .ref (q 4))]) hC.1 hC.2.1 dL_acts_120 hl (by decide) rfl (fun ls hl => ?_)
            refine lv_aload_n hC.1 hC.2.1 dL_acts_122 rfl (lv_at hl 2 rfl) ?_
            refine lv_aload hC.1 hC.2.1 dL_acts_123 (lv_at hl 3 rfl) ?_
            refine lv_iload hC.1 hC.2.1 dL_acts_125 (lv_at hl 0 rfl) ?_
            refine runE (rS (B := fun U H => PW G (lwW G q v_116.1) H) (As := [.ref (q 0), .ref (q 4), .int ((1 : Int32) + (fL_low z1_116 z2_116))]) (rest := []) hC mwL_passes (c_L_passes l G q v_116.1 ((1 : Int32) + (fL_low z1_116 z2_116)) hql hI.1.1) wd_440 wd_439 ⟨rfl, rfl⟩ ⟨Nat.le_of_ble_eq_true rfl, Nat.le_of_ble_eq_true rfl⟩ (stb_h (fun H => PW G (lwW G q v_116.1) H)) (hKN.go hAL hS) (PW_app.mp hP).1 rfl hl.1 rfl (Nat.le_of_ble_eq_true rfl) dL_acts_127 ⟨Nat.zero_le _, Nat.zero_le _⟩) hS (fun _ h => hAq _ h) (fun _ h => hAq _ h) (fun H locs hq_17 _ hk_19 hS => ?_)
            have hP := jn_lw hq hN hP hk_19 hq_17
            obtain ⟨r_18, er_18⟩ : ∃ z, z = fL_passes v_116.1 ((1 : Int32) + (fL_low z1_116 z2_116)) := ⟨_, rfl⟩
            rw [← er_18] at hP
            have hI : JI (r_18, v_116.2) ∧ ¬ fX5_isWithin ((1 : Int32) + (fL_low z1_116 z2_116)) 1 999 = 0 := by rw [er_18]; exact ⟨⟨I_L_passes _ _ hI.1.1, hI.1.2⟩, rest_ok hI.2⟩
            refine lv_iconst (v := 0) hC.1 hC.2.1 dL_acts_130 (by decide) ?_
            refine lv_istore (lv' := [(10, .int 0), (9, .int ((1 : Int32) + (fL_low z1_116 z2_116))), (0, .ref (a 0)), (1, .ref (q 0)), (5, .ref (q 4))]) hC.1 hC.2.1 dL_acts_131 hl (by decide) rfl (fun ls hl => ?_)
            refine lv_iconst (v := 0) hC.1 hC.2.1 dL_acts_133 (by decide) ?_
            refine lv_istore (lv' := [(11, .int 0), (10, .int 0), (9, .int ((1 : Int32) + (fL_low z1_116 z2_116))), (0, .ref (a 0)), (1, .ref (q 0)), (5, .ref (q 4))]) hC.1 hC.2.1 dL_acts_134 hl (by decide) rfl (fun ls hl => ?_)
            have A136 : ∀ (y9_136 : Int32) (v_136 : SV × HV), ∀ (y10_136 : Int32), fL_acts x v x7 x8 = (tL_acts_136 x v x7 x8 y9_136 v_136 y10_136) → JI (v_136.1, v_136.2) ∧ ¬ fX5_isWithin y9_136 1 999 = 0 → ∀ (H : Heap) (locs : List Loc), PW G (lwW G q v_136.1 ++ hdW G a b v_136.2) H → va_S (jnA q a b0) s.heap H locs → ∀ (ls : Array Slot), lv_has ls 14 [(0, .ref (a 0)), (9, .int y9_136), (10, .int y10_136)] → W p l e ({ frames := 7, cells := 0, slots := 0, locals := 162 }) s m ([.ref (a 0), .ref (q 0), .ref (q 1), .ref (q 2), .ref (q 3), .ref (q 4), .int x7, .int x8] : List Value).toArray below meth c H locs 0 0 (MQ below (QE (some (.int (fL_acts x v x7 x8).2)) (fun H => ∃ b', hdR G a b0 b' ∧ PW G (lwW G q (fL_acts x v x7 x8).1.1 ++ hdW G a b' (fL_acts x v x7 x8).1.2) H) (jnA q a b0)) ([.ref (a 0), .ref (q 0), .ref (q 1), .ref (q 2), .ref (q 3), .ref (q 4), .int x7, .int x8] : List Value).toArray s 0 0 (jnA q a b0)) (F0 m 169 ls []) := by
              intro y9_136 v_136 y10_136 hg hI H locs hP hS ls hl
              refine lv_aload_n hC.1 hC.2.1 dL_acts_169 rfl (lv_at hl 0 rfl) ?_
              refine lv_iload hC.1 hC.2.1 dL_acts_170 (lv_at hl 1 rfl) ?_
              refine runE (rV (B := fun U H => PW G (hdW G a b v_136.2) H) (As := [.int y9_136]) (rest := []) hC mwX5_rest (c_X5_rest l G a b v_136.2 y9_136 hq hI.1.2 hI.2) iwX5_rest wd_623 ⟨rfl, rfl⟩ ⟨Nat.le_of_ble_eq_true rfl, Nat.le_of_ble_eq_true rfl⟩ (stb_h (fun H => PW G (hdW G a b v_136.2) H)) (hKN.go hAL hS) (PW_app.mp hP).2 (va_recv (hKN.go hAL hS).k (PW_app.mp hP).2 (ci := 5) (q0 := 0) rfl rfl) rfl hl.1 rfl (Nat.le_of_ble_eq_true rfl) dL_acts_172 ⟨Nat.zero_le _, Nat.zero_le _⟩) hS (fun _ h => hAb _ h) (fun _ h => hAb _ h) (fun H locs hq_20 _ hk_22 hS => ?_)
              obtain ⟨b, hR, hP⟩ := jn_hdN hql hN hP hk_22 hq_20
              have hN : ∀ z, lwA q z → ¬ hdA a b z := fun z h k => hN z h (hR.2 z k)
              have hAj : ∀ z, jnA q a b z → (jnA q a b0) z := fun z h => hAj z (jnA_R hR h)
              have hAb : ∀ z, hdA a b z → (jnA q a b0) z := fun z h => hAb z (hR.2 z h)
              have hRb := hRb.tr hR
              have hq := hR.1
              obtain ⟨r_21, er_21⟩ : ∃ z, z = fX5_rest v_136.2 y9_136 := ⟨_, rfl⟩
              rw [← er_21] at hP
              show W p l e ({ frames := 7, cells := 0, slots := 0, locals := 162 }) s m ([.ref (a 0), .ref (q 0), .ref (q 1), .ref (q 2), .ref (q 3), .ref (q 4), .int x7, .int x8] : List Value).toArray below meth c H locs (0 + 0) (0 + 0) _ (F0 m (172 + 3) ls [.int ((fX5_rest v_136.2 y9_136).2)])
              rw [← er_21]
              have hI : True := trivial
              refine lv_iload hC.1 hC.2.1 dL_acts_175 (lv_at hl 2 rfl) ?_
              refine lv_icmp_ne (tgt := 184) hC.1 hC.2.1 dL_acts_177 (by decide) (fun k177 => ?_) (fun k177 => ?_)
              · refine lv_iconst (v := 0) hC.1 hC.2.1 dL_acts_184 (by decide) ?_
                have e_23 : tL_acts_136 x v x7 x8 y9_136 v_136 y10_136 = ((v_136.1, r_21.1), 0) := by
                  delta tL_acts_136
                  try dsimp only
                  rw [← er_21]
                  exact Eq.trans (if_neg k177) rfl
                have hg : fL_acts x v x7 x8 = ((v_136.1, r_21.1), 0) := by have e2 := congrArg (fun z => z) e_23; exact hg.trans e2
                exact eE_z hC (by rw [hg]) rfl ⟨b, hRb, by rw [hg]; exact hP⟩ hS dL_acts_185
              · refine lv_iconst (v := 1) hC.1 hC.2.1 dL_acts_180 (by decide) ?_
                refine lv_goto (tgt := 185) hC.1 hC.2.1 dL_acts_181 (by decide) ?_
                have e_24 : tL_acts_136 x v x7 x8 y9_136 v_136 y10_136 = ((v_136.1, r_21.1), 1) := by
                  delta tL_acts_136
                  try dsimp only
                  rw [← er_21]
                  exact Eq.trans (if_pos k177) rfl
                have hg : fL_acts x v x7 x8 = ((v_136.1, r_21.1), 1) := by have e2 := congrArg (fun z => z) e_24; exact hg.trans e2
                exact eE_z hC (by rw [hg]) rfl ⟨b, hRb, by rw [hg]; exact hP⟩ hS dL_acts_185
            have L136 : ∀ (y9_136 : Int32) (v_136 : SV × HV), ∀ (n136 d136 : Nat), ∀ (y10_136 : Int32), d136 + n136 = 24 → fL_acts x v x7 x8 = (tL_acts_136 x v x7 x8 y9_136 v_136 (lpF n136 d136 (bL_acts_136 x v x7 x8 y9_136 v_136) y10_136)) → JI (v_136.1, v_136.2) ∧ ¬ fX5_isWithin y9_136 1 999 = 0 → ∀ (H : Heap) (locs : List Loc), PW G (lwW G q v_136.1 ++ hdW G a b v_136.2) H → va_S (jnA q a b0) s.heap H locs → ∀ (ls : Array Slot), lv_has ls 14 [(0, .ref (a 0)), (1, .ref (q 0)), (9, .int y9_136), (10, .int y10_136), (11, .int (nI d136))] → W p l e ({ frames := 7, cells := 0, slots := 0, locals := 162 }) s m ([.ref (a 0), .ref (q 0), .ref (q 1), .ref (q 2), .ref (q 3), .ref (q 4), .int x7, .int x8] : List Value).toArray below meth c H locs 0 0 (MQ below (QE (some (.int (fL_acts x v x7 x8).2)) (fun H => ∃ b', hdR G a b0 b' ∧ PW G (lwW G q (fL_acts x v x7 x8).1.1 ++ hdW G a b' (fL_acts x v x7 x8).1.2) H) (jnA q a b0)) ([.ref (a 0), .ref (q 0), .ref (q 1), .ref (q 2), .ref (q 3), .ref (q 4), .int x7, .int x8] : List Value).toArray s 0 0 (jnA q a b0)) (F0 m 136 ls []) := by
              intro y9_136 v_136
              intro n136
              induction n136 with
              | zero =>
                intro d136 y10_136 hd hg hI H locs hP hS ls hl
                refine lv_iload hC.1 hC.2.1 dL_acts_136 (lv_at hl 4 rfl) ?_
                refine lv_bipush (v := 24) hC.1 hC.2.1 dL_acts_138 (by decide +kernel) ?_
                refine lv_icmp_ge (tgt := 169) hC.1 hC.2.1 dL_acts_140 (by decide) (fun k140 => ?_) (fun k140 => ?_)
                · exact A136 y9_136 v_136 y10_136 hg hI _ _ hP hS _ (lv_sub hl [0, 2, 3] rfl)
                · exact absurd (nI_le (a := 24) (b := d136) (by omega) (by omega)) k140
              | succ n136 ih =>
                intro d136 y10_136 hd hg hI H locs hP hS ls hl
                have hg : fL_acts x v x7 x8 = (tL_acts_136 x v x7 x8 y9_136 v_136 (lpF n136 (d136 + 1) (bL_acts_136 x v x7 x8 y9_136 v_136) (bL_acts_136 x v x7 x8 y9_136 v_136 d136 y10_136))) := hg
                refine lv_iload hC.1 hC.2.1 dL_acts_136 (lv_at hl 4 rfl) ?_
                refine lv_bipush (v := 24) hC.1 hC.2.1 dL_acts_138 (by decide +kernel) ?_
                refine lv_icmp_ge (tgt := 169) hC.1 hC.2.1 dL_acts_140 (by decide) (fun k140 => ?_) (fun k140 => ?_)
                · exact absurd k140 (nI_ge (a := d136) (b := 24) (by omega) (by omega))
                · refine lv_aload_n hC.1 hC.2.1 dL_acts_143 rfl (lv_at hl 1 rfl) ?_
                  refine lv_iload hC.1 hC.2.1 dL_acts_144 (lv_at hl 4 rfl) ?_
                  refine iald_k hC (hKN.go hAL hS) hP 0 rfl (n := 24) (f := (v_136.1 0)) d136 (rfl) (by omega) (by first | decide | omega) dL_acts_146 ?_
                  refine lv_iload hC.1 hC.2.1 dL_acts_147 (lv_at hl 3 rfl) ?_
                  have J161 : ∀ (z0_161 : Int32), fL_acts x v x7 x8 = (tL_acts_136 x v x7 x8 y9_136 v_136 (lpF n136 (d136 + 1) (bL_acts_136 x v x7 x8 y9_136 v_136) (tL_acts_J161 x v x7 x8 y9_136 v_136 d136 z0_161))) → JI (v_136.1, v_136.2) ∧ ¬ fX5_isWithin y9_136 1 999 = 0 → ∀ (H : Heap) (locs : List Loc), PW G (lwW G q v_136.1 ++ hdW G a b v_136.2) H → va_S (jnA q a b0) s.heap H locs → ∀ (ls : Array Slot), lv_has ls 14 [(0, .ref (a 0)), (1, .ref (q 0)), (9, .int y9_136), (11, .int (nI d136))] → W p l e ({ frames := 7, cells := 0, slots := 0, locals := 162 }) s m ([.ref (a 0), .ref (q 0), .ref (q 1), .ref (q 2), .ref (q 3), .ref (q 4), .int x7, .int x8] : List Value).toArray below meth c H locs 0 0 (MQ below (QE (some (.int (fL_acts x v x7 x8).2)) (fun H => ∃ b', hdR G a b0 b' ∧ PW G (lwW G q (fL_acts x v x7 x8).1.1 ++ hdW G a b' (fL_acts x v x7 x8).1.2) H) (jnA q a b0)) ([.ref (a 0), .ref (q 0), .ref (q 1), .ref (q 2), .ref (q 3), .ref (q 4), .int x7, .int x8] : List Value).toArray s 0 0 (jnA q a b0)) (F0 m 161 ls [.int z0_161]) := by
                    intro z0_161 hg hI H locs hP hS ls hl
                    refine lv_istore (lv' := [(10, .int z0_161), (0, .ref (a 0)), (1, .ref (q 0)), (9, .int y9_136), (11, .int (nI d136))]) hC.1 hC.2.1 dL_acts_161 hl (by decide) rfl (fun ls hl => ?_)
                    refine lv_iinc (v := nI (d136 + 1)) (lv' := [(11, .int (nI (d136 + 1))), (10, .int z0_161), (0, .ref (a 0)), (1, .ref (q 0)), (9, .int y9_136)]) hC.1 hC.2.1 dL_acts_163 hl (k := 4) rfl (nI_1 _) (by decide) rfl (fun ls hl => ?_)
                    refine lv_goto (tgt := 136) hC.1 hC.2.1 dL_acts_166 (by decide) ?_
                    have e_25 : tL_acts_J161 x v x7 x8 y9_136 v_136 d136 z0_161 = z0_161 := by
                      delta tL_acts_J161
                      try dsimp only
                      try exact rfl
                    have hg : fL_acts x v x7 x8 = (tL_acts_136 x v x7 x8 y9_136 v_136 (lpF n136 (d136 + 1) (bL_acts_136 x v x7 x8 y9_136 v_136) z0_161)) := by have e2 := congrArg (fun z => (tL_acts_136 x v x7 x8 y9_136 v_136 (lpF n136 (d136 + 1) (bL_acts_136 x v x7 x8 y9_136 v_136) z))) e_25; exact hg.trans e2
                    exact ih (d136 + 1) z0_161 (by omega) hg hI _ _ hP hS _ (lv_sub hl [2, 3, 4, 1, 0] rfl)
                  refine lv_icmp_le (tgt := 159) hC.1 hC.2.1 dL_acts_149 (by decide) (fun k149 => ?_) (fun k149 => ?_)
                  · refine lv_iload hC.1 hC.2.1 dL_acts_159 (lv_at hl 3 rfl) ?_
                    have e_26 : bL_acts_136 x v x7 x8 y9_136 v_136 d136 y10_136 = tL_acts_J161 x v x7 x8 y9_136 v_136 d136 y10_136 := by
                      delta bL_acts_136
                      try dsimp only
                      exact Eq.trans (if_pos k149) rfl
                    have hg : fL_acts x v x7 x8 = (tL_acts_136 x v x7 x8 y9_136 v_136 (lpF n136 (d136 + 1) (bL_acts_136 x v x7 x8 y9_136 v_136) (tL_acts_J161 x v x7 x8 y9_136 v_136 d136 y10_136))) := by have e2 := congrArg (fun z => (tL_acts_136 x v x7 x8 y9_136 v_136 (lpF n136 (d136 + 1) (bL_acts_136 x v x7 x8 y9_136 v_136) z))) e_26; exact hg.trans e2
                    exact J161 y10_136 hg hI _ _ hP hS _ (lv_sub hl [0, 1, 2, 4] rfl)
                  · refine lv_aload_n hC.1 hC.2.1 dL_acts_152 rfl (lv_at hl 1 rfl) ?_
                    refine lv_iload hC.1 hC.2.1 dL_acts_153 (lv_at hl 4 rfl) ?_
                    refine iald_k hC (hKN.go hAL hS) hP 0 rfl (n := 24) (f := (v_136.1 0)) d136 (rfl) (by omega) (by first | decide | omega) dL_acts_155 ?_
                    refine lv_goto (tgt := 161) hC.1 hC.2.1 dL_acts_156 (by decide) ?_
                    have e_27 : bL_acts_136 x v x7 x8 y9_136 v_136 d136 y10_136 = tL_acts_J161 x v x7 x8 y9_136 v_136 d136 ((v_136.1 0) d136) := by
                      delta bL_acts_136
                      try dsimp only
                      exact Eq.trans (if_neg k149) rfl
                    have hg : fL_acts x v x7 x8 = (tL_acts_136 x v x7 x8 y9_136 v_136 (lpF n136 (d136 + 1) (bL_acts_136 x v x7 x8 y9_136 v_136) (tL_acts_J161 x v x7 x8 y9_136 v_136 d136 ((v_136.1 0) d136)))) := by have e2 := congrArg (fun z => (tL_acts_136 x v x7 x8 y9_136 v_136 (lpF n136 (d136 + 1) (bL_acts_136 x v x7 x8 y9_136 v_136) z))) e_27; exact hg.trans e2
                    exact J161 ((v_136.1 0) d136) hg hI _ _ hP hS _ (lv_sub hl [0, 1, 2, 4] rfl)
            have e_28 : tL_acts_J116 x v x7 x8 z1_116 z2_116 v_116 = tL_acts_136 x v x7 x8 ((1 : Int32) + (fL_low z1_116 z2_116)) (r_18, v_116.2) (lpF 24 0 (bL_acts_136 x v x7 x8 ((1 : Int32) + (fL_low z1_116 z2_116)) (r_18, v_116.2)) 0) := by
              delta tL_acts_J116
              try dsimp only
              rw [← er_18]
            have hg : fL_acts x v x7 x8 = (tL_acts_136 x v x7 x8 ((1 : Int32) + (fL_low z1_116 z2_116)) (r_18, v_116.2) (lpF 24 0 (bL_acts_136 x v x7 x8 ((1 : Int32) + (fL_low z1_116 z2_116)) (r_18, v_116.2)) 0)) := by have e2 := congrArg (fun z => z) e_28; exact hg.trans e2
            exact L136 ((1 : Int32) + (fL_low z1_116 z2_116)) (r_18, v_116.2) 24 0 0 (by omega) hg hI _ _ hP hS _ (lv_sub hl [3, 4, 2, 1, 0] rfl)
          refine lv_if_ne (tgt := 114) hC.1 hC.2.1 dL_acts_105 (by decide) (fun k105 => ?_) (fun k105 => ?_)
          · refine lv_bipush (v := 20) hC.1 hC.2.1 dL_acts_114 (by decide +kernel) ?_
            have e_29 : fL_acts x v x7 x8 = tL_acts_J116 x v x7 x8 x8 20 (v, x) := by
              delta fL_acts
              try dsimp only
              exact Eq.trans (if_neg k2_0) (Eq.trans (if_neg k2_1) (Eq.trans (if_neg k2_2) (Eq.trans (if_pos k2_3) (Eq.trans (if_neg k105) rfl))))
            have hg : fL_acts x v x7 x8 = tL_acts_J116 x v x7 x8 x8 20 (v, x) := by have e2 := congrArg (fun z => z) e_29; exact hg.trans e2
            exact J116 x8 20 (v, x) hg (⟨hI, by first | exact Or.inl rfl | exact Or.inr rfl⟩) _ _ hP hS _ (lv_sub hl [0, 1, 5] rfl)
          · refine lv_sipush (v := 300) hC.1 hC.2.1 dL_acts_108 (by decide +kernel) ?_
            refine lv_goto (tgt := 116) hC.1 hC.2.1 dL_acts_111 (by decide) ?_
            have e_30 : fL_acts x v x7 x8 = tL_acts_J116 x v x7 x8 x8 300 (v, x) := by
              delta fL_acts
              try dsimp only
              exact Eq.trans (if_neg k2_0) (Eq.trans (if_neg k2_1) (Eq.trans (if_neg k2_2) (Eq.trans (if_pos k2_3) (Eq.trans (if_pos k105) rfl))))
            have hg : fL_acts x v x7 x8 = tL_acts_J116 x v x7 x8 x8 300 (v, x) := by have e2 := congrArg (fun z => z) e_30; exact hg.trans e2
            exact J116 x8 300 (v, x) hg (⟨hI, by first | exact Or.inl rfl | exact Or.inr rfl⟩) _ _ hP hS _ (lv_sub hl [0, 1, 5] rfl)
        · skip
          by_cases k2_4 : x7 = 4
          · refine swIn hC (tgt := 186) 4 k2_4 dL_acts_2 (by decide) (by decide) rfl (by decide) ?_
            refine lv_iconst (v := 1) hC.1 hC.2.1 dL_acts_186 (by decide) ?_
            refine lv_iload hC.1 hC.2.1 dL_acts_187 (lv_at hl 7 rfl) ?_
            refine lv_bipush (v := 20) hC.1 hC.2.1 dL_acts_189 (by decide +kernel) ?_
            refine lv_ishr hC.1 hC.2.1 dL_acts_191 ?_
            refine lv_iconst (v := 5) hC.1 hC.2.1 dL_acts_192 (by decide) ?_
            refine runP (rS (B := fun U H => True) (As := [.int (x8 >>> (20 &&& 31)), .int 5]) (rest := [.int 1]) hC mwL_low (c_L_low l G (x8 >>> (20 &&& 31)) 5 (by decide)) wd_219 wd_218 ⟨rfl, rfl⟩ ⟨Nat.le_of_ble_eq_true rfl, Nat.le_of_ble_eq_true rfl⟩ (fun _ _ _ _ h => h) hKN trivial rfl hl.1 rfl (Nat.le_of_ble_eq_true rfl) dL_acts_193 ⟨Nat.zero_le _, Nat.zero_le _⟩) ?_
            refine lv_iadd hC.1 hC.2.1 dL_acts_196 ?_
            refine lv_istore (lv' := [(11, .int ((1 : Int32) + (fL_low (x8 >>> (20 &&& 31)) 5))), (0, .ref (a 0)), (1, .ref (q 0)), (2, .ref (q 1)), (3, .ref (q 2)), (4, .ref (q 3)), (5, .ref (q 4)), (6, .int x7), (7, .int x8)]) hC.1 hC.2.1 dL_acts_197 hl (by decide) rfl (fun ls hl => ?_)
            refine lv_iconst (v := 0) hC.1 hC.2.1 dL_acts_199 (by decide) ?_
            refine lv_istore (lv' := [(12, .int 0), (11, .int ((1 : Int32) + (fL_low (x8 >>> (20 &&& 31)) 5))), (0, .ref (a 0)), (1, .ref (q 0)), (2, .ref (q 1)), (3, .ref (q 2)), (4, .ref (q 3)), (5, .ref (q 4)), (6, .int x7), (7, .int x8)]) hC.1 hC.2.1 dL_acts_200 hl (by decide) rfl (fun ls hl => ?_)
            refine lv_iconst (v := 0) hC.1 hC.2.1 dL_acts_202 (by decide) ?_
            refine lv_istore (lv' := [(13, .int 0), (12, .int 0), (11, .int ((1 : Int32) + (fL_low (x8 >>> (20 &&& 31)) 5))), (0, .ref (a 0)), (1, .ref (q 0)), (2, .ref (q 1)), (3, .ref (q 2)), (4, .ref (q 3)), (5, .ref (q 4)), (6, .int x7), (7, .int x8)]) hC.1 hC.2.1 dL_acts_203 hl (by decide) rfl (fun ls hl => ?_)
            have A205 : ∀ (y12_205 : Int32) (v_205 : SV × HV), fL_acts x v x7 x8 = (tL_acts_205 x v x7 x8 (y12_205, v_205)) → JI (v_205.1, v_205.2) → ∀ (H : Heap) (locs : List Loc), PW G (lwW G q v_205.1 ++ hdW G a b v_205.2) H → va_S (jnA q a b0) s.heap H locs → ∀ (ls : Array Slot), lv_has ls 14 [(0, .ref (a 0)), (7, .int x8), (11, .int ((1 : Int32) + (fL_low (x8 >>> (20 &&& 31)) 5))), (12, .int y12_205)] → W p l e ({ frames := 7, cells := 0, slots := 0, locals := 162 }) s m ([.ref (a 0), .ref (q 0), .ref (q 1), .ref (q 2), .ref (q 3), .ref (q 4), .int x7, .int x8] : List Value).toArray below meth c H locs 0 0 (MQ below (QE (some (.int (fL_acts x v x7 x8).2)) (fun H => ∃ b', hdR G a b0 b' ∧ PW G (lwW G q (fL_acts x v x7 x8).1.1 ++ hdW G a b' (fL_acts x v x7 x8).1.2) H) (jnA q a b0)) ([.ref (a 0), .ref (q 0), .ref (q 1), .ref (q 2), .ref (q 3), .ref (q 4), .int x7, .int x8] : List Value).toArray s 0 0 (jnA q a b0)) (F0 m 243 ls []) := by
              intro  y12_205 v_205 hg hI H locs hP hS ls hl
              refine lv_aload_n hC.1 hC.2.1 dL_acts_243 rfl (lv_at hl 0 rfl) ?_
              refine lv_iload hC.1 hC.2.1 dL_acts_244 (lv_at hl 1 rfl) ?_
              refine runP (rS (B := fun U H => True) (As := [.int x8]) (rest := [.ref (a 0)]) hC mwL_dots (c_L_dots l G x8) wd_584 wd_583 ⟨rfl, rfl⟩ ⟨Nat.le_of_ble_eq_true rfl, Nat.le_of_ble_eq_true rfl⟩ (fun _ _ _ _ h => h) (hKN.go hAL hS) trivial rfl hl.1 rfl (Nat.le_of_ble_eq_true rfl) dL_acts_246 ⟨Nat.zero_le _, Nat.zero_le _⟩) ?_
              refine lv_iload hC.1 hC.2.1 dL_acts_249 (lv_at hl 2 rfl) ?_
              refine runE (rV (B := fun U H => PW G (hdW G a b v_205.2) H) (As := [.int (fL_dots x8), .int ((1 : Int32) + (fL_low (x8 >>> (20 &&& 31)) 5))]) (rest := []) hC mwX5_lines (c_X5_lines l G a b v_205.2 (fL_dots x8) ((1 : Int32) + (fL_low (x8 >>> (20 &&& 31)) 5)) hq hI.2 (dots_line _) (times_ok _)) iwX5_lines wd_629 ⟨rfl, rfl⟩ ⟨Nat.le_of_ble_eq_true rfl, Nat.le_of_ble_eq_true rfl⟩ (stb_h (fun H => PW G (hdW G a b v_205.2) H)) (hKN.go hAL hS) (PW_app.mp hP).2 (va_recv (hKN.go hAL hS).k (PW_app.mp hP).2 (ci := 5) (q0 := 0) rfl rfl) rfl hl.1 rfl (Nat.le_of_ble_eq_true rfl) dL_acts_251 ⟨Nat.zero_le _, Nat.zero_le _⟩) hS (fun _ h => hAb _ h) (fun _ h => hAb _ h) (fun H locs hq_31 _ hk_33 hS => ?_)
              obtain ⟨b, hR, hP⟩ := jn_hdN hql hN hP hk_33 hq_31
              have hN : ∀ z, lwA q z → ¬ hdA a b z := fun z h k => hN z h (hR.2 z k)
              have hAj : ∀ z, jnA q a b z → (jnA q a b0) z := fun z h => hAj z (jnA_R hR h)
              have hAb : ∀ z, hdA a b z → (jnA q a b0) z := fun z h => hAb z (hR.2 z h)
              have hRb := hRb.tr hR
              have hq := hR.1
              obtain ⟨r_32, er_32⟩ : ∃ z, z = fX5_lines v_205.2 (fL_dots x8) ((1 : Int32) + (fL_low (x8 >>> (20 &&& 31)) 5)) := ⟨_, rfl⟩
              rw [← er_32] at hP
              show W p l e ({ frames := 7, cells := 0, slots := 0, locals := 162 }) s m ([.ref (a 0), .ref (q 0), .ref (q 1), .ref (q 2), .ref (q 3), .ref (q 4), .int x7, .int x8] : List Value).toArray below meth c H locs (0 + 0) (0 + 0) _ (F0 m (251 + 3) ls [.int ((fX5_lines v_205.2 (fL_dots x8) ((1 : Int32) + (fL_low (x8 >>> (20 &&& 31)) 5))).2)])
              rw [← er_32]
              have hI : True := trivial
              refine lv_iload hC.1 hC.2.1 dL_acts_254 (lv_at hl 3 rfl) ?_
              refine lv_icmp_ne (tgt := 263) hC.1 hC.2.1 dL_acts_256 (by decide) (fun k256 => ?_) (fun k256 => ?_)
              · refine lv_iconst (v := 0) hC.1 hC.2.1 dL_acts_263 (by decide) ?_
                have e_34 : tL_acts_205 x v x7 x8 (y12_205, v_205) = ((v_205.1, r_32.1), 0) := by
                  delta tL_acts_205
                  try dsimp only
                  rw [← er_32]
                  exact Eq.trans (if_neg k256) rfl
                have hg : fL_acts x v x7 x8 = ((v_205.1, r_32.1), 0) := by have e2 := congrArg (fun z => z) e_34; exact hg.trans e2
                exact eE_z hC (by rw [hg]) rfl ⟨b, hRb, by rw [hg]; exact hP⟩ hS dL_acts_264
              · refine lv_iconst (v := 1) hC.1 hC.2.1 dL_acts_259 (by decide) ?_
                refine lv_goto (tgt := 264) hC.1 hC.2.1 dL_acts_260 (by decide) ?_
                have e_35 : tL_acts_205 x v x7 x8 (y12_205, v_205) = ((v_205.1, r_32.1), 1) := by
                  delta tL_acts_205
                  try dsimp only
                  rw [← er_32]
                  exact Eq.trans (if_pos k256) rfl
                have hg : fL_acts x v x7 x8 = ((v_205.1, r_32.1), 1) := by have e2 := congrArg (fun z => z) e_35; exact hg.trans e2
                exact eE_z hC (by rw [hg]) rfl ⟨b, hRb, by rw [hg]; exact hP⟩ hS dL_acts_264
            have L205 : ∀ (n205 d205 : Nat), ∀ (y12_205 : Int32) (v_205 : SV × HV), d205 + n205 = (((1 : Int32) + (fL_low (x8 >>> (20 &&& 31)) 5)).toNatClampNeg) → fL_acts x v x7 x8 = (tL_acts_205 x v x7 x8 (lpF n205 d205 (bL_acts_205 x v x7 x8) (y12_205, v_205))) → JI (v_205.1, v_205.2) → ∀ (H : Heap) (locs : List Loc), PW G (lwW G q v_205.1 ++ hdW G a b v_205.2) H → va_S (jnA q a b0) s.heap H locs → ∀ (ls : Array Slot), lv_has ls 14 [(0, .ref (a 0)), (1, .ref (q 0)), (2, .ref (q 1)), (3, .ref (q 2)), (4, .ref (q 3)), (5, .ref (q 4)), (7, .int x8), (11, .int ((1 : Int32) + (fL_low (x8 >>> (20 &&& 31)) 5))), (12, .int y12_205), (13, .int (nI d205))] → W p l e ({ frames := 7, cells := 0, slots := 0, locals := 162 }) s m ([.ref (a 0), .ref (q 0), .ref (q 1), .ref (q 2), .ref (q 3), .ref (q 4), .int x7, .int x8] : List Value).toArray below meth c H locs 0 0 (MQ below (QE (some (.int (fL_acts x v x7 x8).2)) (fun H => ∃ b', hdR G a b0 b' ∧ PW G (lwW G q (fL_acts x v x7 x8).1.1 ++ hdW G a b' (fL_acts x v x7 x8).1.2) H) (jnA q a b0)) ([.ref (a 0), .ref (q 0), .ref (q 1), .ref (q 2), .ref (q 3), .ref (q 4), .int x7, .int x8] : List Value).toArray s 0 0 (jnA q a b0)) (F0 m 205 ls []) := by
              intro n205
              induction n205 with
              | zero =>
                intro d205 y12_205 v_205 hd hg hI H locs hP hS ls hl
                refine lv_iload hC.1 hC.2.1 dL_acts_205 (lv_at hl 9 rfl) ?_
                refine lv_iload hC.1 hC.2.1 dL_acts_207 (lv_at hl 7 rfl) ?_
                refine lv_icmp_ge (tgt := 243) hC.1 hC.2.1 dL_acts_209 (by decide) (fun k209 => ?_) (fun k209 => ?_)
                · exact A205  y12_205 v_205 hg hI _ _ hP hS _ (lv_sub hl [0, 6, 7, 8] rfl)
                · exact absurd (cl_le (by omega) (by have := cl_lt ((1 : Int32) + (fL_low (x8 >>> (20 &&& 31)) 5)); omega)) k209
              | succ n205 ih =>
                intro d205 y12_205 v_205 hd hg hI H locs hP hS ls hl
                have hg : fL_acts x v x7 x8 = (tL_acts_205 x v x7 x8 (lpF n205 (d205 + 1) (bL_acts_205 x v x7 x8) (bL_acts_205 x v x7 x8 d205 (y12_205, v_205)))) := hg
                refine lv_iload hC.1 hC.2.1 dL_acts_205 (lv_at hl 9 rfl) ?_
                refine lv_iload hC.1 hC.2.1 dL_acts_207 (lv_at hl 7 rfl) ?_
                refine lv_icmp_ge (tgt := 243) hC.1 hC.2.1 dL_acts_209 (by decide) (fun k209 => ?_) (fun k209 => ?_)
                · exact absurd k209 (cl_nle (by omega))
                · refine lv_aload_n hC.1 hC.2.1 dL_acts_212 rfl (lv_at hl 1 rfl) ?_
                  refine lv_aload_n hC.1 hC.2.1 dL_acts_213 rfl (lv_at hl 2 rfl) ?_
                  refine lv_aload_n hC.1 hC.2.1 dL_acts_214 rfl (lv_at hl 3 rfl) ?_
                  refine lv_aload hC.1 hC.2.1 dL_acts_215 (lv_at hl 4 rfl) ?_
                  refine lv_aload hC.1 hC.2.1 dL_acts_217 (lv_at hl 5 rfl) ?_
                  refine lv_iload hC.1 hC.2.1 dL_acts_219 (lv_at hl 6 rfl) ?_
                  refine runP (rS (B := fun U H => True) (As := [.int x8]) (rest := [.ref (q 4), .ref (q 3), .ref (q 2), .ref (q 1), .ref (q 0)]) hC mwL_dots (c_L_dots l G x8) wd_584 wd_583 ⟨rfl, rfl⟩ ⟨Nat.le_of_ble_eq_true rfl, Nat.le_of_ble_eq_true rfl⟩ (fun _ _ _ _ h => h) (hKN.go hAL hS) trivial rfl hl.1 rfl (Nat.le_of_ble_eq_true rfl) dL_acts_221 ⟨Nat.zero_le _, Nat.zero_le _⟩) ?_
                  refine runE (rS (B := fun U H => PW G (lwW G q v_205.1) H) (As := [.ref (q 0), .ref (q 1), .ref (q 2), .ref (q 3), .ref (q 4), .int (fL_dots x8)]) (rest := []) hC mwL_prints (c_L_prints l G q v_205.1 (fL_dots x8) hql hI.1) wd_431 wd_430 ⟨rfl, rfl⟩ ⟨Nat.le_of_ble_eq_true rfl, Nat.le_of_ble_eq_true rfl⟩ (stb_h (fun H => PW G (lwW G q v_205.1) H)) (hKN.go hAL hS) (PW_app.mp hP).1 rfl hl.1 rfl (Nat.le_of_ble_eq_true rfl) dL_acts_224 ⟨Nat.zero_le _, Nat.zero_le _⟩) hS (fun _ h => hAq _ h) (fun _ h => hAq _ h) (fun H locs hq_36 _ hk_38 hS => ?_)
                  have hP := jn_lw hq hN hP hk_38 hq_36
                  obtain ⟨r_37, er_37⟩ : ∃ z, z = fL_prints v_205.1 (fL_dots x8) := ⟨_, rfl⟩
                  rw [← er_37] at hP
                  have hI : JI (r_37, v_205.2) := by rw [er_37]; exact ⟨I_L_prints _ _ hI.1, hI.2⟩
                  refine lv_iload hC.1 hC.2.1 dL_acts_227 (lv_at hl 8 rfl) ?_
                  refine lv_aload hC.1 hC.2.1 dL_acts_229 (lv_at hl 5 rfl) ?_
                  refine lv_bipush (v := 19) hC.1 hC.2.1 dL_acts_231 (by decide +kernel) ?_
                  refine iald_k hC (hKN.go hAL hS) hP 4 rfl (n := 21) (f := (r_37 4)) 19 (rfl) (by omega) (by first | decide | omega) dL_acts_233 ?_
                  refine lv_iadd hC.1 hC.2.1 dL_acts_234 ?_
                  refine lv_istore (lv' := [(12, .int (y12_205 + ((r_37 4) 19))), (0, .ref (a 0)), (1, .ref (q 0)), (2, .ref (q 1)), (3, .ref (q 2)), (4, .ref (q 3)), (5, .ref (q 4)), (7, .int x8), (11, .int ((1 : Int32) + (fL_low (x8 >>> (20 &&& 31)) 5))), (13, .int (nI d205))]) hC.1 hC.2.1 dL_acts_235 hl (by decide) rfl (fun ls hl => ?_)
                  refine lv_iinc (v := nI (d205 + 1)) (lv' := [(13, .int (nI (d205 + 1))), (12, .int (y12_205 + ((r_37 4) 19))), (0, .ref (a 0)), (1, .ref (q 0)), (2, .ref (q 1)), (3, .ref (q 2)), (4, .ref (q 3)), (5, .ref (q 4)), (7, .int x8), (11, .int ((1 : Int32) + (fL_low (x8 >>> (20 &&& 31)) 5)))]) hC.1 hC.2.1 dL_acts_237 hl (k := 9) rfl (nI_1 _) (by decide) rfl (fun ls hl => ?_)
                  refine lv_goto (tgt := 205) hC.1 hC.2.1 dL_acts_240 (by decide) ?_
                  have e_39 : bL_acts_205 x v x7 x8 d205 (y12_205, v_205) = (y12_205 + ((r_37 4) 19), (r_37, v_205.2)) := by
                    delta bL_acts_205
                    try dsimp only
                    rw [← er_37]
                  have hg : fL_acts x v x7 x8 = (tL_acts_205 x v x7 x8 (lpF n205 (d205 + 1) (bL_acts_205 x v x7 x8) (y12_205 + ((r_37 4) 19), (r_37, v_205.2)))) := by have e2 := congrArg (fun z => (tL_acts_205 x v x7 x8 (lpF n205 (d205 + 1) (bL_acts_205 x v x7 x8) z))) e_39; exact hg.trans e2
                  exact ih (d205 + 1) (y12_205 + ((r_37 4) 19)) (r_37, v_205.2) (by omega) hg hI _ _ hP hS _ (lv_sub hl [2, 3, 4, 5, 6, 7, 8, 9, 1, 0] rfl)
            have e_40 : fL_acts x v x7 x8 = tL_acts_205 x v x7 x8 (lpF (((1 : Int32) + (fL_low (x8 >>> (20 &&& 31)) 5)).toNatClampNeg) 0 (bL_acts_205 x v x7 x8) (0, (v, x))) := by
              delta fL_acts
              try dsimp only
              exact Eq.trans (if_neg k2_0) (Eq.trans (if_neg k2_1) (Eq.trans (if_neg k2_2) (Eq.trans (if_neg k2_3) (Eq.trans (if_pos k2_4) rfl))))
            have hg : fL_acts x v x7 x8 = (tL_acts_205 x v x7 x8 (lpF (((1 : Int32) + (fL_low (x8 >>> (20 &&& 31)) 5)).toNatClampNeg) 0 (bL_acts_205 x v x7 x8) (0, (v, x)))) := by have e2 := congrArg (fun z => z) e_40; exact hg.trans e2
            exact L205  (((1 : Int32) + (fL_low (x8 >>> (20 &&& 31)) 5)).toNatClampNeg) 0 0 (v, x) (by omega) hg hI _ _ hP hS _ (lv_sub hl [3, 4, 5, 6, 7, 8, 10, 2, 1, 0] rfl)
          · skip
            by_cases k2_5 : x7 = 5
            · refine swIn hC (tgt := 186) 5 k2_5 dL_acts_2 (by decide) (by decide) rfl (by decide) ?_
              refine lv_iconst (v := 1) hC.1 hC.2.1 dL_acts_186 (by decide) ?_
              refine lv_iload hC.1 hC.2.1 dL_acts_187 (lv_at hl 7 rfl) ?_
              refine lv_bipush (v := 20) hC.1 hC.2.1 dL_acts_189 (by decide +kernel) ?_
              refine lv_ishr hC.1 hC.2.1 dL_acts_191 ?_
              refine lv_iconst (v := 5) hC.1 hC.2.1 dL_acts_192 (by decide) ?_
              refine runP (rS (B := fun U H => True) (As := [.int (x8 >>> (20 &&& 31)), .int 5]) (rest := [.int 1]) hC mwL_low (c_L_low l G (x8 >>> (20 &&& 31)) 5 (by decide)) wd_219 wd_218 ⟨rfl, rfl⟩ ⟨Nat.le_of_ble_eq_true rfl, Nat.le_of_ble_eq_true rfl⟩ (fun _ _ _ _ h => h) hKN trivial rfl hl.1 rfl (Nat.le_of_ble_eq_true rfl) dL_acts_193 ⟨Nat.zero_le _, Nat.zero_le _⟩) ?_
              refine lv_iadd hC.1 hC.2.1 dL_acts_196 ?_
              refine lv_istore (lv' := [(11, .int ((1 : Int32) + (fL_low (x8 >>> (20 &&& 31)) 5))), (0, .ref (a 0)), (1, .ref (q 0)), (2, .ref (q 1)), (3, .ref (q 2)), (4, .ref (q 3)), (5, .ref (q 4)), (6, .int x7), (7, .int x8)]) hC.1 hC.2.1 dL_acts_197 hl (by decide) rfl (fun ls hl => ?_)
              refine lv_iconst (v := 0) hC.1 hC.2.1 dL_acts_199 (by decide) ?_
              refine lv_istore (lv' := [(12, .int 0), (11, .int ((1 : Int32) + (fL_low (x8 >>> (20 &&& 31)) 5))), (0, .ref (a 0)), (1, .ref (q 0)), (2, .ref (q 1)), (3, .ref (q 2)), (4, .ref (q 3)), (5, .ref (q 4)), (6, .int x7), (7, .int x8)]) hC.1 hC.2.1 dL_acts_200 hl (by decide) rfl (fun ls hl => ?_)
              refine lv_iconst (v := 0) hC.1 hC.2.1 dL_acts_202 (by decide) ?_
              refine lv_istore (lv' := [(13, .int 0), (12, .int 0), (11, .int ((1 : Int32) + (fL_low (x8 >>> (20 &&& 31)) 5))), (0, .ref (a 0)), (1, .ref (q 0)), (2, .ref (q 1)), (3, .ref (q 2)), (4, .ref (q 3)), (5, .ref (q 4)), (6, .int x7), (7, .int x8)]) hC.1 hC.2.1 dL_acts_203 hl (by decide) rfl (fun ls hl => ?_)
              have A205 : ∀ (y12_205 : Int32) (v_205 : SV × HV), fL_acts x v x7 x8 = (tL_acts_205 x v x7 x8 (y12_205, v_205)) → JI (v_205.1, v_205.2) → ∀ (H : Heap) (locs : List Loc), PW G (lwW G q v_205.1 ++ hdW G a b v_205.2) H → va_S (jnA q a b0) s.heap H locs → ∀ (ls : Array Slot), lv_has ls 14 [(0, .ref (a 0)), (7, .int x8), (11, .int ((1 : Int32) + (fL_low (x8 >>> (20 &&& 31)) 5))), (12, .int y12_205)] → W p l e ({ frames := 7, cells := 0, slots := 0, locals := 162 }) s m ([.ref (a 0), .ref (q 0), .ref (q 1), .ref (q 2), .ref (q 3), .ref (q 4), .int x7, .int x8] : List Value).toArray below meth c H locs 0 0 (MQ below (QE (some (.int (fL_acts x v x7 x8).2)) (fun H => ∃ b', hdR G a b0 b' ∧ PW G (lwW G q (fL_acts x v x7 x8).1.1 ++ hdW G a b' (fL_acts x v x7 x8).1.2) H) (jnA q a b0)) ([.ref (a 0), .ref (q 0), .ref (q 1), .ref (q 2), .ref (q 3), .ref (q 4), .int x7, .int x8] : List Value).toArray s 0 0 (jnA q a b0)) (F0 m 243 ls []) := by
                intro  y12_205 v_205 hg hI H locs hP hS ls hl
                refine lv_aload_n hC.1 hC.2.1 dL_acts_243 rfl (lv_at hl 0 rfl) ?_
                refine lv_iload hC.1 hC.2.1 dL_acts_244 (lv_at hl 1 rfl) ?_
                refine runP (rS (B := fun U H => True) (As := [.int x8]) (rest := [.ref (a 0)]) hC mwL_dots (c_L_dots l G x8) wd_584 wd_583 ⟨rfl, rfl⟩ ⟨Nat.le_of_ble_eq_true rfl, Nat.le_of_ble_eq_true rfl⟩ (fun _ _ _ _ h => h) (hKN.go hAL hS) trivial rfl hl.1 rfl (Nat.le_of_ble_eq_true rfl) dL_acts_246 ⟨Nat.zero_le _, Nat.zero_le _⟩) ?_
                refine lv_iload hC.1 hC.2.1 dL_acts_249 (lv_at hl 2 rfl) ?_
                refine runE (rV (B := fun U H => PW G (hdW G a b v_205.2) H) (As := [.int (fL_dots x8), .int ((1 : Int32) + (fL_low (x8 >>> (20 &&& 31)) 5))]) (rest := []) hC mwX5_lines (c_X5_lines l G a b v_205.2 (fL_dots x8) ((1 : Int32) + (fL_low (x8 >>> (20 &&& 31)) 5)) hq hI.2 (dots_line _) (times_ok _)) iwX5_lines wd_629 ⟨rfl, rfl⟩ ⟨Nat.le_of_ble_eq_true rfl, Nat.le_of_ble_eq_true rfl⟩ (stb_h (fun H => PW G (hdW G a b v_205.2) H)) (hKN.go hAL hS) (PW_app.mp hP).2 (va_recv (hKN.go hAL hS).k (PW_app.mp hP).2 (ci := 5) (q0 := 0) rfl rfl) rfl hl.1 rfl (Nat.le_of_ble_eq_true rfl) dL_acts_251 ⟨Nat.zero_le _, Nat.zero_le _⟩) hS (fun _ h => hAb _ h) (fun _ h => hAb _ h) (fun H locs hq_41 _ hk_43 hS => ?_)
                obtain ⟨b, hR, hP⟩ := jn_hdN hql hN hP hk_43 hq_41
                have hN : ∀ z, lwA q z → ¬ hdA a b z := fun z h k => hN z h (hR.2 z k)
                have hAj : ∀ z, jnA q a b z → (jnA q a b0) z := fun z h => hAj z (jnA_R hR h)
                have hAb : ∀ z, hdA a b z → (jnA q a b0) z := fun z h => hAb z (hR.2 z h)
                have hRb := hRb.tr hR
                have hq := hR.1
                obtain ⟨r_42, er_42⟩ : ∃ z, z = fX5_lines v_205.2 (fL_dots x8) ((1 : Int32) + (fL_low (x8 >>> (20 &&& 31)) 5)) := ⟨_, rfl⟩
                rw [← er_42] at hP
                show W p l e ({ frames := 7, cells := 0, slots := 0, locals := 162 }) s m ([.ref (a 0), .ref (q 0), .ref (q 1), .ref (q 2), .ref (q 3), .ref (q 4), .int x7, .int x8] : List Value).toArray below meth c H locs (0 + 0) (0 + 0) _ (F0 m (251 + 3) ls [.int ((fX5_lines v_205.2 (fL_dots x8) ((1 : Int32) + (fL_low (x8 >>> (20 &&& 31)) 5))).2)])
                rw [← er_42]
                have hI : True := trivial
                refine lv_iload hC.1 hC.2.1 dL_acts_254 (lv_at hl 3 rfl) ?_
                refine lv_icmp_ne (tgt := 263) hC.1 hC.2.1 dL_acts_256 (by decide) (fun k256 => ?_) (fun k256 => ?_)
                · refine lv_iconst (v := 0) hC.1 hC.2.1 dL_acts_263 (by decide) ?_
                  have e_44 : tL_acts_205 x v x7 x8 (y12_205, v_205) = ((v_205.1, r_42.1), 0) := by
                    delta tL_acts_205
                    try dsimp only
                    rw [← er_42]
                    exact Eq.trans (if_neg k256) rfl
                  have hg : fL_acts x v x7 x8 = ((v_205.1, r_42.1), 0) := by have e2 := congrArg (fun z => z) e_44; exact hg.trans e2
                  exact eE_z hC (by rw [hg]) rfl ⟨b, hRb, by rw [hg]; exact hP⟩ hS dL_acts_264
                · refine lv_iconst (v := 1) hC.1 hC.2.1 dL_acts_259 (by decide) ?_
                  refine lv_goto (tgt := 264) hC.1 hC.2.1 dL_acts_260 (by decide) ?_
                  have e_45 : tL_acts_205 x v x7 x8 (y12_205, v_205) = ((v_205.1, r_42.1), 1) := by
                    delta tL_acts_205
                    try dsimp only
                    rw [← er_42]
                    exact Eq.trans (if_pos k256) rfl
                  have hg : fL_acts x v x7 x8 = ((v_205.1, r_42.1), 1) := by have e2 := congrArg (fun z => z) e_45; exact hg.trans e2
                  exact eE_z hC (by rw [hg]) rfl ⟨b, hRb, by rw [hg]; exact hP⟩ hS dL_acts_264
              have L205 : ∀ (n205 d205 : Nat), ∀ (y12_205 : Int32) (v_205 : SV × HV), d205 + n205 = (((1 : Int32) + (fL_low (x8 >>> (20 &&& 31)) 5)).toNatClampNeg) → fL_acts x v x7 x8 = (tL_acts_205 x v x7 x8 (lpF n205 d205 (bL_acts_205 x v x7 x8) (y12_205, v_205))) → JI (v_205.1, v_205.2) → ∀ (H : Heap) (locs : List Loc), PW G (lwW G q v_205.1 ++ hdW G a b v_205.2) H → va_S (jnA q a b0) s.heap H locs → ∀ (ls : Array Slot), lv_has ls 14 [(0, .ref (a 0)), (1, .ref (q 0)), (2, .ref (q 1)), (3, .ref (q 2)), (4, .ref (q 3)), (5, .ref (q 4)), (7, .int x8), (11, .int ((1 : Int32) + (fL_low (x8 >>> (20 &&& 31)) 5))), (12, .int y12_205), (13, .int (nI d205))] → W p l e ({ frames := 7, cells := 0, slots := 0, locals := 162 }) s m ([.ref (a 0), .ref (q 0), .ref (q 1), .ref (q 2), .ref (q 3), .ref (q 4), .int x7, .int x8] : List Value).toArray below meth c H locs 0 0 (MQ below (QE (some (.int (fL_acts x v x7 x8).2)) (fun H => ∃ b', hdR G a b0 b' ∧ PW G (lwW G q (fL_acts x v x7 x8).1.1 ++ hdW G a b' (fL_acts x v x7 x8).1.2) H) (jnA q a b0)) ([.ref (a 0), .ref (q 0), .ref (q 1), .ref (q 2), .ref (q 3), .ref (q 4), .int x7, .int x8] : List Value).toArray s 0 0 (jnA q a b0)) (F0 m 205 ls []) := by
                intro n205
                induction n205 with
                | zero =>
                  intro d205 y12_205 v_205 hd hg hI H locs hP hS ls hl
                  refine lv_iload hC.1 hC.2.1 dL_acts_205 (lv_at hl 9 rfl) ?_
                  refine lv_iload hC.1 hC.2.1 dL_acts_207 (lv_at hl 7 rfl) ?_
                  refine lv_icmp_ge (tgt := 243) hC.1 hC.2.1 dL_acts_209 (by decide) (fun k209 => ?_) (fun k209 => ?_)
                  · exact A205  y12_205 v_205 hg hI _ _ hP hS _ (lv_sub hl [0, 6, 7, 8] rfl)
                  · exact absurd (cl_le (by omega) (by have := cl_lt ((1 : Int32) + (fL_low (x8 >>> (20 &&& 31)) 5)); omega)) k209
                | succ n205 ih =>
                  intro d205 y12_205 v_205 hd hg hI H locs hP hS ls hl
                  have hg : fL_acts x v x7 x8 = (tL_acts_205 x v x7 x8 (lpF n205 (d205 + 1) (bL_acts_205 x v x7 x8) (bL_acts_205 x v x7 x8 d205 (y12_205, v_205)))) := hg
                  refine lv_iload hC.1 hC.2.1 dL_acts_205 (lv_at hl 9 rfl) ?_
                  refine lv_iload hC.1 hC.2.1 dL_acts_207 (lv_at hl 7 rfl) ?_
                  refine lv_icmp_ge (tgt := 243) hC.1 hC.2.1 dL_acts_209 (by decide) (fun k209 => ?_) (fun k209 => ?_)
                  · exact absurd k209 (cl_nle (by omega))
                  · refine lv_aload_n hC.1 hC.2.1 dL_acts_212 rfl (lv_at hl 1 rfl) ?_
                    refine lv_aload_n hC.1 hC.2.1 dL_acts_213 rfl (lv_at hl 2 rfl) ?_
                    refine lv_aload_n hC.1 hC.2.1 dL_acts_214 rfl (lv_at hl 3 rfl) ?_
                    refine lv_aload hC.1 hC.2.1 dL_acts_215 (lv_at hl 4 rfl) ?_
                    refine lv_aload hC.1 hC.2.1 dL_acts_217 (lv_at hl 5 rfl) ?_
                    refine lv_iload hC.1 hC.2.1 dL_acts_219 (lv_at hl 6 rfl) ?_
                    refine runP (rS (B := fun U H => True) (As := [.int x8]) (rest := [.ref (q 4), .ref (q 3), .ref (q 2), .ref (q 1), .ref (q 0)]) hC mwL_dots (c_L_dots l G x8) wd_584 wd_583 ⟨rfl, rfl⟩ ⟨Nat.le_of_ble_eq_true rfl, Nat.le_of_ble_eq_true rfl⟩ (fun _ _ _ _ h => h) (hKN.go hAL hS) trivial rfl hl.1 rfl (Nat.le_of_ble_eq_true rfl) dL_acts_221 ⟨Nat.zero_le _, Nat.zero_le _⟩) ?_
                    refine runE (rS (B := fun U H => PW G (lwW G q v_205.1) H) (As := [.ref (q 0), .ref (q 1), .ref (q 2), .ref (q 3), .ref (q 4), .int (fL_dots x8)]) (rest := []) hC mwL_prints (c_L_prints l G q v_205.1 (fL_dots x8) hql hI.1) wd_431 wd_430 ⟨rfl, rfl⟩ ⟨Nat.le_of_ble_eq_true rfl, Nat.le_of_ble_eq_true rfl⟩ (stb_h (fun H => PW G (lwW G q v_205.1) H)) (hKN.go hAL hS) (PW_app.mp hP).1 rfl hl.1 rfl (Nat.le_of_ble_eq_true rfl) dL_acts_224 ⟨Nat.zero_le _, Nat.zero_le _⟩) hS (fun _ h => hAq _ h) (fun _ h => hAq _ h) (fun H locs hq_46 _ hk_48 hS => ?_)
                    have hP := jn_lw hq hN hP hk_48 hq_46
                    obtain ⟨r_47, er_47⟩ : ∃ z, z = fL_prints v_205.1 (fL_dots x8) := ⟨_, rfl⟩
                    rw [← er_47] at hP
                    have hI : JI (r_47, v_205.2) := by rw [er_47]; exact ⟨I_L_prints _ _ hI.1, hI.2⟩
                    refine lv_iload hC.1 hC.2.1 dL_acts_227 (lv_at hl 8 rfl) ?_
                    refine lv_aload hC.1 hC.2.1 dL_acts_229 (lv_at hl 5 rfl) ?_
                    refine lv_bipush (v := 19) hC.1 hC.2.1 dL_acts_231 (by decide +kernel) ?_
                    refine iald_k hC (hKN.go hAL hS) hP 4 rfl (n := 21) (f := (r_47 4)) 19 (rfl) (by omega) (by first | decide | omega) dL_acts_233 ?_
                    refine lv_iadd hC.1 hC.2.1 dL_acts_234 ?_
                    refine lv_istore (lv' := [(12, .int (y12_205 + ((r_47 4) 19))), (0, .ref (a 0)), (1, .ref (q 0)), (2, .ref (q 1)), (3, .ref (q 2)), (4, .ref (q 3)), (5, .ref (q 4)), (7, .int x8), (11, .int ((1 : Int32) + (fL_low (x8 >>> (20 &&& 31)) 5))), (13, .int (nI d205))]) hC.1 hC.2.1 dL_acts_235 hl (by decide) rfl (fun ls hl => ?_)
                    refine lv_iinc (v := nI (d205 + 1)) (lv' := [(13, .int (nI (d205 + 1))), (12, .int (y12_205 + ((r_47 4) 19))), (0, .ref (a 0)), (1, .ref (q 0)), (2, .ref (q 1)), (3, .ref (q 2)), (4, .ref (q 3)), (5, .ref (q 4)), (7, .int x8), (11, .int ((1 : Int32) + (fL_low (x8 >>> (20 &&& 31)) 5)))]) hC.1 hC.2.1 dL_acts_237 hl (k := 9) rfl (nI_1 _) (by decide) rfl (fun ls hl => ?_)
                    refine lv_goto (tgt := 205) hC.1 hC.2.1 dL_acts_240 (by decide) ?_
                    have e_49 : bL_acts_205 x v x7 x8 d205 (y12_205, v_205) = (y12_205 + ((r_47 4) 19), (r_47, v_205.2)) := by
                      delta bL_acts_205
                      try dsimp only
                      rw [← er_47]
                    have hg : fL_acts x v x7 x8 = (tL_acts_205 x v x7 x8 (lpF n205 (d205 + 1) (bL_acts_205 x v x7 x8) (y12_205 + ((r_47 4) 19), (r_47, v_205.2)))) := by have e2 := congrArg (fun z => (tL_acts_205 x v x7 x8 (lpF n205 (d205 + 1) (bL_acts_205 x v x7 x8) z))) e_49; exact hg.trans e2
                    exact ih (d205 + 1) (y12_205 + ((r_47 4) 19)) (r_47, v_205.2) (by omega) hg hI _ _ hP hS _ (lv_sub hl [2, 3, 4, 5, 6, 7, 8, 9, 1, 0] rfl)
              have e_50 : fL_acts x v x7 x8 = tL_acts_205 x v x7 x8 (lpF (((1 : Int32) + (fL_low (x8 >>> (20 &&& 31)) 5)).toNatClampNeg) 0 (bL_acts_205 x v x7 x8) (0, (v, x))) := by
                delta fL_acts
                try dsimp only
                exact Eq.trans (if_neg k2_0) (Eq.trans (if_neg k2_1) (Eq.trans (if_neg k2_2) (Eq.trans (if_neg k2_3) (Eq.trans (if_neg k2_4) (Eq.trans (if_pos k2_5) rfl)))))
              have hg : fL_acts x v x7 x8 = (tL_acts_205 x v x7 x8 (lpF (((1 : Int32) + (fL_low (x8 >>> (20 &&& 31)) 5)).toNatClampNeg) 0 (bL_acts_205 x v x7 x8) (0, (v, x)))) := by have e2 := congrArg (fun z => z) e_50; exact hg.trans e2
              exact L205  (((1 : Int32) + (fL_low (x8 >>> (20 &&& 31)) 5)).toNatClampNeg) 0 0 (v, x) (by omega) hg hI _ _ hP hS _ (lv_sub hl [3, 4, 5, 6, 7, 8, 10, 2, 1, 0] rfl)
            · skip
              refine lv_tableOut (tgt := 265) hC.1 hC.2.1 dL_acts_2 (sw_out 0 5 (by decide) (fun k h1 h2 => by match k, h1, h2 with  | 0, _, _ => exact k2_0 | 1, _, _ => exact k2_1 | 2, _, _ => exact k2_2 | 3, _, _ => exact k2_3 | 4, _, _ => exact k2_4 | 5, _, _ => exact k2_5 | k + 6, _, h => exact absurd h (by omega))) (by decide) ?_
              refine lv_aload_n hC.1 hC.2.1 dL_acts_265 rfl (lv_at hl 1 rfl) ?_
              refine lv_aload_n hC.1 hC.2.1 dL_acts_266 rfl (lv_at hl 2 rfl) ?_
              refine lv_aload_n hC.1 hC.2.1 dL_acts_267 rfl (lv_at hl 3 rfl) ?_
              refine lv_aload hC.1 hC.2.1 dL_acts_268 (lv_at hl 4 rfl) ?_
              refine lv_aload hC.1 hC.2.1 dL_acts_270 (lv_at hl 5 rfl) ?_
              refine lv_iload hC.1 hC.2.1 dL_acts_272 (lv_at hl 7 rfl) ?_
              refine runP (rS (B := fun U H => True) (As := [.int x8]) (rest := [.ref (q 4), .ref (q 3), .ref (q 2), .ref (q 1), .ref (q 0)]) hC mwL_dots (c_L_dots l G x8) wd_584 wd_583 ⟨rfl, rfl⟩ ⟨Nat.le_of_ble_eq_true rfl, Nat.le_of_ble_eq_true rfl⟩ (fun _ _ _ _ h => h) hKN trivial rfl hl.1 rfl (Nat.le_of_ble_eq_true rfl) dL_acts_274 ⟨Nat.zero_le _, Nat.zero_le _⟩) ?_
              refine runE (rS (B := fun U H => PW G (lwW G q v) H) (As := [.ref (q 0), .ref (q 1), .ref (q 2), .ref (q 3), .ref (q 4), .int (fL_dots x8)]) (rest := []) hC mwL_prints (c_L_prints l G q v (fL_dots x8) hql hI.1) wd_431 wd_430 ⟨rfl, rfl⟩ ⟨Nat.le_of_ble_eq_true rfl, Nat.le_of_ble_eq_true rfl⟩ (stb_h (fun H => PW G (lwW G q v) H)) hKN (PW_app.mp hP).1 rfl hl.1 rfl (Nat.le_of_ble_eq_true rfl) dL_acts_277 ⟨Nat.zero_le _, Nat.zero_le _⟩) hS (fun _ h => hAq _ h) (fun _ h => hAq _ h) (fun H locs hq_51 _ hk_53 hS => ?_)
              have hP := jn_lw hq hN hP hk_53 hq_51
              obtain ⟨r_52, er_52⟩ : ∃ z, z = fL_prints v (fL_dots x8) := ⟨_, rfl⟩
              rw [← er_52] at hP
              have hI : JI (r_52, x) := by rw [er_52]; exact ⟨I_L_prints _ _ hI.1, hI.2⟩
              refine lv_aload_n hC.1 hC.2.1 dL_acts_280 rfl (lv_at hl 0 rfl) ?_
              refine lv_iload hC.1 hC.2.1 dL_acts_281 (lv_at hl 7 rfl) ?_
              refine runP (rS (B := fun U H => True) (As := [.int x8]) (rest := [.ref (a 0)]) hC mwL_dots (c_L_dots l G x8) wd_584 wd_583 ⟨rfl, rfl⟩ ⟨Nat.le_of_ble_eq_true rfl, Nat.le_of_ble_eq_true rfl⟩ (fun _ _ _ _ h => h) (hKN.go hAL hS) trivial rfl hl.1 rfl (Nat.le_of_ble_eq_true rfl) dL_acts_283 ⟨Nat.zero_le _, Nat.zero_le _⟩) ?_
              refine runE (rV (B := fun U H => PW G (hdW G a b x) H) (As := [.int (fL_dots x8)]) (rest := []) hC mwX5_line (c_X5_line l G a b x (fL_dots x8) hq hI.2 (dots_line _)) iwX5_line wd_639 ⟨rfl, rfl⟩ ⟨Nat.le_of_ble_eq_true rfl, Nat.le_of_ble_eq_true rfl⟩ (stb_h (fun H => PW G (hdW G a b x) H)) (hKN.go hAL hS) (PW_app.mp hP).2 (va_recv (hKN.go hAL hS).k (PW_app.mp hP).2 (ci := 5) (q0 := 0) rfl rfl) rfl hl.1 rfl (Nat.le_of_ble_eq_true rfl) dL_acts_286 ⟨Nat.zero_le _, Nat.zero_le _⟩) hS (fun _ h => hAb _ h) (fun _ h => hAb _ h) (fun H locs hq_54 _ hk_56 hS => ?_)
              obtain ⟨b, hR, hP⟩ := jn_hdN hql hN hP hk_56 hq_54
              have hN : ∀ z, lwA q z → ¬ hdA a b z := fun z h k => hN z h (hR.2 z k)
              have hAj : ∀ z, jnA q a b z → (jnA q a b0) z := fun z h => hAj z (jnA_R hR h)
              have hAb : ∀ z, hdA a b z → (jnA q a b0) z := fun z h => hAb z (hR.2 z h)
              have hRb := hRb.tr hR
              have hq := hR.1
              obtain ⟨r_55, er_55⟩ : ∃ z, z = fX5_line x (fL_dots x8) := ⟨_, rfl⟩
              rw [← er_55] at hP
              show W p l e ({ frames := 7, cells := 0, slots := 0, locals := 162 }) s m ([.ref (a 0), .ref (q 0), .ref (q 1), .ref (q 2), .ref (q 3), .ref (q 4), .int x7, .int x8] : List Value).toArray below meth c H locs (0 + 0) (0 + 0) _ (F0 m (286 + 3) ls [.int ((fX5_line x (fL_dots x8)).2)])
              rw [← er_55]
              have hI : True := trivial
              refine lv_aload hC.1 hC.2.1 dL_acts_289 (lv_at hl 5 rfl) ?_
              refine lv_bipush (v := 16) hC.1 hC.2.1 dL_acts_291 (by decide +kernel) ?_
              refine iald_k hC (hKN.go hAL hS) hP 4 rfl (n := 21) (f := (r_52 4)) 16 (rfl) (by omega) (by first | decide | omega) dL_acts_293 ?_
              refine lv_icmp_ne (tgt := 301) hC.1 hC.2.1 dL_acts_294 (by decide) (fun k294 => ?_) (fun k294 => ?_)
              · refine lv_iconst (v := 0) hC.1 hC.2.1 dL_acts_301 (by decide) ?_
                have e_57 : fL_acts x v x7 x8 = ((r_52, r_55.1), 0) := by
                  delta fL_acts
                  try dsimp only
                  rw [← er_52]
                  rw [← er_55]
                  exact Eq.trans (if_neg k2_0) (Eq.trans (if_neg k2_1) (Eq.trans (if_neg k2_2) (Eq.trans (if_neg k2_3) (Eq.trans (if_neg k2_4) (Eq.trans (if_neg k2_5) (Eq.trans (if_neg k294) rfl))))))
                have hg : fL_acts x v x7 x8 = ((r_52, r_55.1), 0) := by have e2 := congrArg (fun z => z) e_57; exact hg.trans e2
                exact eE_z hC (by rw [hg]) rfl ⟨b, hRb, by rw [hg]; exact hP⟩ hS dL_acts_302
              · refine lv_iconst (v := 1) hC.1 hC.2.1 dL_acts_297 (by decide) ?_
                refine lv_goto (tgt := 302) hC.1 hC.2.1 dL_acts_298 (by decide) ?_
                have e_58 : fL_acts x v x7 x8 = ((r_52, r_55.1), 1) := by
                  delta fL_acts
                  try dsimp only
                  rw [← er_52]
                  rw [← er_55]
                  exact Eq.trans (if_neg k2_0) (Eq.trans (if_neg k2_1) (Eq.trans (if_neg k2_2) (Eq.trans (if_neg k2_3) (Eq.trans (if_neg k2_4) (Eq.trans (if_neg k2_5) (Eq.trans (if_pos k294) rfl))))))
                have hg : fL_acts x v x7 x8 = ((r_52, r_55.1), 1) := by have e2 := congrArg (fun z => z) e_58; exact hg.trans e2
                exact eE_z hC (by rw [hg]) rfl ⟨b, hRb, by rw [hg]; exact hP⟩ hS dL_acts_302
