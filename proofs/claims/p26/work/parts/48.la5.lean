def tL_isStrip_44 (x : HV) (v : SV) (s : Int32) : Int32 := let y3_44 := s; y3_44
def tL_isStrip_J297 (x : HV) (v : SV) (d44 : Nat) (z0_297 : Int32) : (Int32) ⊕ (Int32) := Sum.inl z0_297
def tL_isStrip_118 (x : HV) (v : SV) (d44 : Nat) (s : Int32) : (Int32) ⊕ (Int32) := let y3_118 := s; if ((v 3) ((3 * d44) + 2)) ≤ 0 then (if y3_118 = 0 then (tL_isStrip_J297 x v d44 0) else (if (fX5_told x (nI d44) (24 + 0)) = (-1) then (if (fX5_told x (nI d44) 99) = (-1) then (tL_isStrip_J297 x v d44 1) else (tL_isStrip_J297 x v d44 0)) else (tL_isStrip_J297 x v d44 0))) else (if y3_118 = 0 then (tL_isStrip_J297 x v d44 0) else (if (((v 3) ((3 * d44) + 2)) - 1) = 0 then (if (fX5_told x (nI d44) (24 + (((v 3) ((3 * d44) + 2)) - 1))) = (-1) then (if (fX5_told x (nI d44) 99) = (-1) then (tL_isStrip_J297 x v d44 1) else (tL_isStrip_J297 x v d44 0)) else (tL_isStrip_J297 x v d44 0)) else (if (fX5_told x (nI d44) 24) = 124 then (if (fX5_told x (nI d44) (23 + (((v 3) ((3 * d44) + 2)) - 1))) = 124 then (if (fX5_told x (nI d44) (24 + (((v 3) ((3 * d44) + 2)) - 1))) = (-1) then (if (fX5_told x (nI d44) 99) = (-1) then (tL_isStrip_J297 x v d44 1) else (tL_isStrip_J297 x v d44 0)) else (tL_isStrip_J297 x v d44 0)) else (tL_isStrip_J297 x v d44 0)) else (tL_isStrip_J297 x v d44 0))))
def tL_isStrip_J193 (x : HV) (v : SV) (d44 : Nat) (d118 : Nat) (z0_193 : Int32) : Int32 := z0_193
def tL_isStrip_J169 (x : HV) (v : SV) (d44 : Nat) (d118 : Nat) (y3_169 : Int32) (z0_169 : Int32) : Int32 := if y3_169 = 0 then (tL_isStrip_J193 x v d44 d118 0) else (if (fX5_told x (nI d44) (nI d118)) = z0_169 then (tL_isStrip_J193 x v d44 d118 1) else (tL_isStrip_J193 x v d44 d118 0))
def bL_isStrip_118 (x : HV) (v : SV) (d44 : Nat) (d118 : Nat) (s : Int32) : Int32 := let y3_118 := s; if ((((v 3) (3 * d44)) >>> ((nI d118) &&& 31)) &&& 1) = 1 then (tL_isStrip_J169 x v d44 d118 y3_118 35) else (if ((((v 3) ((3 * d44) + 1)) >>> ((nI d118) &&& 31)) &&& 1) = 1 then (tL_isStrip_J169 x v d44 d118 y3_118 43) else (tL_isStrip_J169 x v d44 d118 y3_118 46))
def tL_isStrip_J114 (x : HV) (v : SV) (d44 : Nat) (z0_114 : Int32) : (Int32) ⊕ (Int32) := tL_isStrip_118 x v d44 (lpF 24 0 (bL_isStrip_118 x v d44) z0_114)
def bL_isStrip_44 (x : HV) (v : SV) (d44 : Nat) (s : Int32) : (Int32) ⊕ (Int32) := let y3_44 := s; if y3_44 = 0 then (Sum.inr y3_44) else (if (fX5_kept x (nI d44) 0) = ((v 3) (3 * d44)) then (if (fX5_kept x (nI d44) 1) = ((v 3) ((3 * d44) + 1)) then (if (fX5_kept x (nI d44) 2) = ((v 3) ((3 * d44) + 2)) then (tL_isStrip_J114 x v d44 1) else (tL_isStrip_J114 x v d44 0)) else (tL_isStrip_J114 x v d44 0)) else (tL_isStrip_J114 x v d44 0))
def tL_isStrip_J40 (x : HV) (v : SV) (z0_40 : Int32) : Int32 := Sum.elim (tL_isStrip_44 x v) (tL_isStrip_44 x v) (lpR ((v 4 15).toNatClampNeg) 0 (bL_isStrip_44 x v) z0_40)
def fL_isStrip (x : HV) (v : SV) : Int32 := if ((v 4) 15) = 12 then (tL_isStrip_J40 x v 1) else (if (fX5_kept x ((v 4) 15) 0) = (-1) then (if (fX5_told x ((v 4) 15) 0) = (-1) then (tL_isStrip_J40 x v 1) else (tL_isStrip_J40 x v 0)) else (tL_isStrip_J40 x v 0))
theorem dL_isStrip_0 : decode cL_isStrip 0 = .ok (.aload_n 2, 1) := by decide +kernel
theorem dL_isStrip_1 : decode cL_isStrip 1 = .ok (.bipush 15, 2) := by decide +kernel
theorem dL_isStrip_3 : decode cL_isStrip 3 = .ok (.iaload, 1) := by decide +kernel
theorem dL_isStrip_4 : decode cL_isStrip 4 = .ok (.bipush 12, 2) := by decide +kernel
theorem dL_isStrip_6 : decode cL_isStrip 6 = .ok (.if_icmp .eq 29, 3) := by decide +kernel
theorem dL_isStrip_9 : decode cL_isStrip 9 = .ok (.aload_n 0, 1) := by decide +kernel
theorem dL_isStrip_10 : decode cL_isStrip 10 = .ok (.aload_n 2, 1) := by decide +kernel
theorem dL_isStrip_11 : decode cL_isStrip 11 = .ok (.bipush 15, 2) := by decide +kernel
theorem dL_isStrip_13 : decode cL_isStrip 13 = .ok (.iaload, 1) := by decide +kernel
theorem dL_isStrip_14 : decode cL_isStrip 14 = .ok (.iconst 0, 1) := by decide +kernel
theorem dL_isStrip_15 : decode cL_isStrip 15 = .ok (.invokevirtual 52, 3) := by decide +kernel
theorem dL_isStrip_18 : decode cL_isStrip 18 = .ok (.iconst (-1), 1) := by decide +kernel
theorem dL_isStrip_19 : decode cL_isStrip 19 = .ok (.if_icmp .ne 20, 3) := by decide +kernel
theorem dL_isStrip_22 : decode cL_isStrip 22 = .ok (.aload_n 0, 1) := by decide +kernel
theorem dL_isStrip_23 : decode cL_isStrip 23 = .ok (.aload_n 2, 1) := by decide +kernel
theorem dL_isStrip_24 : decode cL_isStrip 24 = .ok (.bipush 15, 2) := by decide +kernel
theorem dL_isStrip_26 : decode cL_isStrip 26 = .ok (.iaload, 1) := by decide +kernel
theorem dL_isStrip_27 : decode cL_isStrip 27 = .ok (.iconst 0, 1) := by decide +kernel
theorem dL_isStrip_28 : decode cL_isStrip 28 = .ok (.invokevirtual 55, 3) := by decide +kernel
theorem dL_isStrip_31 : decode cL_isStrip 31 = .ok (.iconst (-1), 1) := by decide +kernel
theorem dL_isStrip_32 : decode cL_isStrip 32 = .ok (.if_icmp .ne 7, 3) := by decide +kernel
theorem dL_isStrip_35 : decode cL_isStrip 35 = .ok (.iconst 1, 1) := by decide +kernel
theorem dL_isStrip_36 : decode cL_isStrip 36 = .ok (.goto 4, 3) := by decide +kernel
theorem dL_isStrip_39 : decode cL_isStrip 39 = .ok (.iconst 0, 1) := by decide +kernel
theorem dL_isStrip_40 : decode cL_isStrip 40 = .ok (.istore_n 3, 1) := by decide +kernel
theorem dL_isStrip_41 : decode cL_isStrip 41 = .ok (.iconst 0, 1) := by decide +kernel
theorem dL_isStrip_42 : decode cL_isStrip 42 = .ok (.istore 4, 2) := by decide +kernel
theorem dL_isStrip_44 : decode cL_isStrip 44 = .ok (.iload 4, 2) := by decide +kernel
theorem dL_isStrip_46 : decode cL_isStrip 46 = .ok (.aload_n 2, 1) := by decide +kernel
theorem dL_isStrip_47 : decode cL_isStrip 47 = .ok (.bipush 15, 2) := by decide +kernel
theorem dL_isStrip_49 : decode cL_isStrip 49 = .ok (.iaload, 1) := by decide +kernel
theorem dL_isStrip_50 : decode cL_isStrip 50 = .ok (.if_icmp .ge 254, 3) := by decide +kernel
theorem dL_isStrip_53 : decode cL_isStrip 53 = .ok (.iload_n 3, 1) := by decide +kernel
theorem dL_isStrip_54 : decode cL_isStrip 54 = .ok (.ifCond .eq 250, 3) := by decide +kernel
theorem dL_isStrip_57 : decode cL_isStrip 57 = .ok (.aload_n 0, 1) := by decide +kernel
theorem dL_isStrip_58 : decode cL_isStrip 58 = .ok (.iload 4, 2) := by decide +kernel
theorem dL_isStrip_60 : decode cL_isStrip 60 = .ok (.iconst 0, 1) := by decide +kernel
theorem dL_isStrip_61 : decode cL_isStrip 61 = .ok (.invokevirtual 52, 3) := by decide +kernel
theorem dL_isStrip_64 : decode cL_isStrip 64 = .ok (.aload_n 1, 1) := by decide +kernel
theorem dL_isStrip_65 : decode cL_isStrip 65 = .ok (.iconst 3, 1) := by decide +kernel
theorem dL_isStrip_66 : decode cL_isStrip 66 = .ok (.iload 4, 2) := by decide +kernel
theorem dL_isStrip_68 : decode cL_isStrip 68 = .ok (.imul, 1) := by decide +kernel
theorem dL_isStrip_69 : decode cL_isStrip 69 = .ok (.iaload, 1) := by decide +kernel
theorem dL_isStrip_70 : decode cL_isStrip 70 = .ok (.if_icmp .ne 43, 3) := by decide +kernel
theorem dL_isStrip_73 : decode cL_isStrip 73 = .ok (.aload_n 0, 1) := by decide +kernel
theorem dL_isStrip_74 : decode cL_isStrip 74 = .ok (.iload 4, 2) := by decide +kernel
theorem dL_isStrip_76 : decode cL_isStrip 76 = .ok (.iconst 1, 1) := by decide +kernel
theorem dL_isStrip_77 : decode cL_isStrip 77 = .ok (.invokevirtual 52, 3) := by decide +kernel
theorem dL_isStrip_80 : decode cL_isStrip 80 = .ok (.aload_n 1, 1) := by decide +kernel
theorem dL_isStrip_81 : decode cL_isStrip 81 = .ok (.iconst 3, 1) := by decide +kernel
theorem dL_isStrip_82 : decode cL_isStrip 82 = .ok (.iload 4, 2) := by decide +kernel
theorem dL_isStrip_84 : decode cL_isStrip 84 = .ok (.imul, 1) := by decide +kernel
theorem dL_isStrip_85 : decode cL_isStrip 85 = .ok (.iconst 1, 1) := by decide +kernel
theorem dL_isStrip_86 : decode cL_isStrip 86 = .ok (.iadd, 1) := by decide +kernel
theorem dL_isStrip_87 : decode cL_isStrip 87 = .ok (.iaload, 1) := by decide +kernel
theorem dL_isStrip_88 : decode cL_isStrip 88 = .ok (.if_icmp .ne 25, 3) := by decide +kernel
theorem dL_isStrip_91 : decode cL_isStrip 91 = .ok (.aload_n 0, 1) := by decide +kernel
theorem dL_isStrip_92 : decode cL_isStrip 92 = .ok (.iload 4, 2) := by decide +kernel
theorem dL_isStrip_94 : decode cL_isStrip 94 = .ok (.iconst 2, 1) := by decide +kernel
theorem dL_isStrip_95 : decode cL_isStrip 95 = .ok (.invokevirtual 52, 3) := by decide +kernel
theorem dL_isStrip_98 : decode cL_isStrip 98 = .ok (.aload_n 1, 1) := by decide +kernel
theorem dL_isStrip_99 : decode cL_isStrip 99 = .ok (.iconst 3, 1) := by decide +kernel
theorem dL_isStrip_100 : decode cL_isStrip 100 = .ok (.iload 4, 2) := by decide +kernel
theorem dL_isStrip_102 : decode cL_isStrip 102 = .ok (.imul, 1) := by decide +kernel
theorem dL_isStrip_103 : decode cL_isStrip 103 = .ok (.iconst 2, 1) := by decide +kernel
theorem dL_isStrip_104 : decode cL_isStrip 104 = .ok (.iadd, 1) := by decide +kernel
theorem dL_isStrip_105 : decode cL_isStrip 105 = .ok (.iaload, 1) := by decide +kernel
theorem dL_isStrip_106 : decode cL_isStrip 106 = .ok (.if_icmp .ne 7, 3) := by decide +kernel
theorem dL_isStrip_109 : decode cL_isStrip 109 = .ok (.iconst 1, 1) := by decide +kernel
theorem dL_isStrip_110 : decode cL_isStrip 110 = .ok (.goto 4, 3) := by decide +kernel
theorem dL_isStrip_113 : decode cL_isStrip 113 = .ok (.iconst 0, 1) := by decide +kernel
theorem dL_isStrip_114 : decode cL_isStrip 114 = .ok (.istore_n 3, 1) := by decide +kernel
theorem dL_isStrip_115 : decode cL_isStrip 115 = .ok (.iconst 0, 1) := by decide +kernel
theorem dL_isStrip_116 : decode cL_isStrip 116 = .ok (.istore 5, 2) := by decide +kernel
theorem dL_isStrip_118 : decode cL_isStrip 118 = .ok (.iload 5, 2) := by decide +kernel
theorem dL_isStrip_120 : decode cL_isStrip 120 = .ok (.bipush 24, 2) := by decide +kernel
theorem dL_isStrip_122 : decode cL_isStrip 122 = .ok (.if_icmp .ge 78, 3) := by decide +kernel
theorem dL_isStrip_125 : decode cL_isStrip 125 = .ok (.aload_n 1, 1) := by decide +kernel
theorem dL_isStrip_126 : decode cL_isStrip 126 = .ok (.iconst 3, 1) := by decide +kernel
theorem dL_isStrip_127 : decode cL_isStrip 127 = .ok (.iload 4, 2) := by decide +kernel
theorem dL_isStrip_129 : decode cL_isStrip 129 = .ok (.imul, 1) := by decide +kernel
theorem dL_isStrip_130 : decode cL_isStrip 130 = .ok (.iaload, 1) := by decide +kernel
theorem dL_isStrip_131 : decode cL_isStrip 131 = .ok (.iload 5, 2) := by decide +kernel
theorem dL_isStrip_133 : decode cL_isStrip 133 = .ok (.ishr, 1) := by decide +kernel
theorem dL_isStrip_134 : decode cL_isStrip 134 = .ok (.iconst 1, 1) := by decide +kernel
theorem dL_isStrip_135 : decode cL_isStrip 135 = .ok (.iand, 1) := by decide +kernel
theorem dL_isStrip_136 : decode cL_isStrip 136 = .ok (.iconst 1, 1) := by decide +kernel
theorem dL_isStrip_137 : decode cL_isStrip 137 = .ok (.if_icmp .ne 8, 3) := by decide +kernel
theorem dL_isStrip_140 : decode cL_isStrip 140 = .ok (.bipush 35, 2) := by decide +kernel
theorem dL_isStrip_142 : decode cL_isStrip 142 = .ok (.goto 27, 3) := by decide +kernel
theorem dL_isStrip_145 : decode cL_isStrip 145 = .ok (.aload_n 1, 1) := by decide +kernel
theorem dL_isStrip_146 : decode cL_isStrip 146 = .ok (.iconst 3, 1) := by decide +kernel
theorem dL_isStrip_147 : decode cL_isStrip 147 = .ok (.iload 4, 2) := by decide +kernel
theorem dL_isStrip_149 : decode cL_isStrip 149 = .ok (.imul, 1) := by decide +kernel
theorem dL_isStrip_150 : decode cL_isStrip 150 = .ok (.iconst 1, 1) := by decide +kernel
theorem dL_isStrip_151 : decode cL_isStrip 151 = .ok (.iadd, 1) := by decide +kernel
theorem dL_isStrip_152 : decode cL_isStrip 152 = .ok (.iaload, 1) := by decide +kernel
theorem dL_isStrip_153 : decode cL_isStrip 153 = .ok (.iload 5, 2) := by decide +kernel
theorem dL_isStrip_155 : decode cL_isStrip 155 = .ok (.ishr, 1) := by decide +kernel
theorem dL_isStrip_156 : decode cL_isStrip 156 = .ok (.iconst 1, 1) := by decide +kernel
theorem dL_isStrip_157 : decode cL_isStrip 157 = .ok (.iand, 1) := by decide +kernel
theorem dL_isStrip_158 : decode cL_isStrip 158 = .ok (.iconst 1, 1) := by decide +kernel
theorem dL_isStrip_159 : decode cL_isStrip 159 = .ok (.if_icmp .ne 8, 3) := by decide +kernel
theorem dL_isStrip_162 : decode cL_isStrip 162 = .ok (.bipush 43, 2) := by decide +kernel
theorem dL_isStrip_164 : decode cL_isStrip 164 = .ok (.goto 5, 3) := by decide +kernel
theorem dL_isStrip_167 : decode cL_isStrip 167 = .ok (.bipush 46, 2) := by decide +kernel
theorem dL_isStrip_169 : decode cL_isStrip 169 = .ok (.istore 6, 2) := by decide +kernel
theorem dL_isStrip_171 : decode cL_isStrip 171 = .ok (.iload_n 3, 1) := by decide +kernel
theorem dL_isStrip_172 : decode cL_isStrip 172 = .ok (.ifCond .eq 20, 3) := by decide +kernel
theorem dL_isStrip_175 : decode cL_isStrip 175 = .ok (.aload_n 0, 1) := by decide +kernel
theorem dL_isStrip_176 : decode cL_isStrip 176 = .ok (.iload 4, 2) := by decide +kernel
theorem dL_isStrip_178 : decode cL_isStrip 178 = .ok (.iload 5, 2) := by decide +kernel
theorem dL_isStrip_180 : decode cL_isStrip 180 = .ok (.invokevirtual 55, 3) := by decide +kernel
theorem dL_isStrip_183 : decode cL_isStrip 183 = .ok (.iload 6, 2) := by decide +kernel
theorem dL_isStrip_185 : decode cL_isStrip 185 = .ok (.if_icmp .ne 7, 3) := by decide +kernel
theorem dL_isStrip_188 : decode cL_isStrip 188 = .ok (.iconst 1, 1) := by decide +kernel
theorem dL_isStrip_189 : decode cL_isStrip 189 = .ok (.goto 4, 3) := by decide +kernel
theorem dL_isStrip_192 : decode cL_isStrip 192 = .ok (.iconst 0, 1) := by decide +kernel
theorem dL_isStrip_193 : decode cL_isStrip 193 = .ok (.istore_n 3, 1) := by decide +kernel
theorem dL_isStrip_194 : decode cL_isStrip 194 = .ok (.iinc 5 1, 3) := by decide +kernel
theorem dL_isStrip_197 : decode cL_isStrip 197 = .ok (.goto (-79), 3) := by decide +kernel
theorem dL_isStrip_200 : decode cL_isStrip 200 = .ok (.aload_n 1, 1) := by decide +kernel
theorem dL_isStrip_201 : decode cL_isStrip 201 = .ok (.iconst 3, 1) := by decide +kernel
theorem dL_isStrip_202 : decode cL_isStrip 202 = .ok (.iload 4, 2) := by decide +kernel
theorem dL_isStrip_204 : decode cL_isStrip 204 = .ok (.imul, 1) := by decide +kernel
theorem dL_isStrip_205 : decode cL_isStrip 205 = .ok (.iconst 2, 1) := by decide +kernel
theorem dL_isStrip_206 : decode cL_isStrip 206 = .ok (.iadd, 1) := by decide +kernel
theorem dL_isStrip_207 : decode cL_isStrip 207 = .ok (.iaload, 1) := by decide +kernel
theorem dL_isStrip_208 : decode cL_isStrip 208 = .ok (.ifCond .le 16, 3) := by decide +kernel
theorem dL_isStrip_211 : decode cL_isStrip 211 = .ok (.aload_n 1, 1) := by decide +kernel
theorem dL_isStrip_212 : decode cL_isStrip 212 = .ok (.iconst 3, 1) := by decide +kernel
theorem dL_isStrip_213 : decode cL_isStrip 213 = .ok (.iload 4, 2) := by decide +kernel
theorem dL_isStrip_215 : decode cL_isStrip 215 = .ok (.imul, 1) := by decide +kernel
theorem dL_isStrip_216 : decode cL_isStrip 216 = .ok (.iconst 2, 1) := by decide +kernel
theorem dL_isStrip_217 : decode cL_isStrip 217 = .ok (.iadd, 1) := by decide +kernel
theorem dL_isStrip_218 : decode cL_isStrip 218 = .ok (.iaload, 1) := by decide +kernel
theorem dL_isStrip_219 : decode cL_isStrip 219 = .ok (.iconst 1, 1) := by decide +kernel
theorem dL_isStrip_220 : decode cL_isStrip 220 = .ok (.isub, 1) := by decide +kernel
theorem dL_isStrip_221 : decode cL_isStrip 221 = .ok (.goto 4, 3) := by decide +kernel
theorem dL_isStrip_224 : decode cL_isStrip 224 = .ok (.iconst 0, 1) := by decide +kernel
theorem dL_isStrip_225 : decode cL_isStrip 225 = .ok (.istore 5, 2) := by decide +kernel
theorem dL_isStrip_227 : decode cL_isStrip 227 = .ok (.iload_n 3, 1) := by decide +kernel
theorem dL_isStrip_228 : decode cL_isStrip 228 = .ok (.ifCond .eq 68, 3) := by decide +kernel
theorem dL_isStrip_231 : decode cL_isStrip 231 = .ok (.iload 5, 2) := by decide +kernel
theorem dL_isStrip_233 : decode cL_isStrip 233 = .ok (.ifCond .eq 32, 3) := by decide +kernel
theorem dL_isStrip_236 : decode cL_isStrip 236 = .ok (.aload_n 0, 1) := by decide +kernel
theorem dL_isStrip_237 : decode cL_isStrip 237 = .ok (.iload 4, 2) := by decide +kernel
theorem dL_isStrip_239 : decode cL_isStrip 239 = .ok (.bipush 24, 2) := by decide +kernel
theorem dL_isStrip_241 : decode cL_isStrip 241 = .ok (.invokevirtual 55, 3) := by decide +kernel
theorem dL_isStrip_244 : decode cL_isStrip 244 = .ok (.bipush 124, 2) := by decide +kernel
theorem dL_isStrip_246 : decode cL_isStrip 246 = .ok (.if_icmp .ne 50, 3) := by decide +kernel
theorem dL_isStrip_249 : decode cL_isStrip 249 = .ok (.aload_n 0, 1) := by decide +kernel
theorem dL_isStrip_250 : decode cL_isStrip 250 = .ok (.iload 4, 2) := by decide +kernel
theorem dL_isStrip_252 : decode cL_isStrip 252 = .ok (.bipush 23, 2) := by decide +kernel
theorem dL_isStrip_254 : decode cL_isStrip 254 = .ok (.iload 5, 2) := by decide +kernel
theorem dL_isStrip_256 : decode cL_isStrip 256 = .ok (.iadd, 1) := by decide +kernel
theorem dL_isStrip_257 : decode cL_isStrip 257 = .ok (.invokevirtual 55, 3) := by decide +kernel
theorem dL_isStrip_260 : decode cL_isStrip 260 = .ok (.bipush 124, 2) := by decide +kernel
theorem dL_isStrip_262 : decode cL_isStrip 262 = .ok (.if_icmp .ne 34, 3) := by decide +kernel
theorem dL_isStrip_265 : decode cL_isStrip 265 = .ok (.aload_n 0, 1) := by decide +kernel
theorem dL_isStrip_266 : decode cL_isStrip 266 = .ok (.iload 4, 2) := by decide +kernel
theorem dL_isStrip_268 : decode cL_isStrip 268 = .ok (.bipush 24, 2) := by decide +kernel
theorem dL_isStrip_270 : decode cL_isStrip 270 = .ok (.iload 5, 2) := by decide +kernel
theorem dL_isStrip_272 : decode cL_isStrip 272 = .ok (.iadd, 1) := by decide +kernel
theorem dL_isStrip_273 : decode cL_isStrip 273 = .ok (.invokevirtual 55, 3) := by decide +kernel
theorem dL_isStrip_276 : decode cL_isStrip 276 = .ok (.iconst (-1), 1) := by decide +kernel
theorem dL_isStrip_277 : decode cL_isStrip 277 = .ok (.if_icmp .ne 19, 3) := by decide +kernel
theorem dL_isStrip_280 : decode cL_isStrip 280 = .ok (.aload_n 0, 1) := by decide +kernel
theorem dL_isStrip_281 : decode cL_isStrip 281 = .ok (.iload 4, 2) := by decide +kernel
theorem dL_isStrip_283 : decode cL_isStrip 283 = .ok (.bipush 99, 2) := by decide +kernel
theorem dL_isStrip_285 : decode cL_isStrip 285 = .ok (.invokevirtual 55, 3) := by decide +kernel
theorem dL_isStrip_288 : decode cL_isStrip 288 = .ok (.iconst (-1), 1) := by decide +kernel
theorem dL_isStrip_289 : decode cL_isStrip 289 = .ok (.if_icmp .ne 7, 3) := by decide +kernel
theorem dL_isStrip_292 : decode cL_isStrip 292 = .ok (.iconst 1, 1) := by decide +kernel
theorem dL_isStrip_293 : decode cL_isStrip 293 = .ok (.goto 4, 3) := by decide +kernel
theorem dL_isStrip_296 : decode cL_isStrip 296 = .ok (.iconst 0, 1) := by decide +kernel
theorem dL_isStrip_297 : decode cL_isStrip 297 = .ok (.istore_n 3, 1) := by decide +kernel
theorem dL_isStrip_298 : decode cL_isStrip 298 = .ok (.iinc 4 1, 3) := by decide +kernel
theorem dL_isStrip_301 : decode cL_isStrip 301 = .ok (.goto (-257), 3) := by decide +kernel
theorem dL_isStrip_304 : decode cL_isStrip 304 = .ok (.iload_n 3, 1) := by decide +kernel
theorem dL_isStrip_305 : decode cL_isStrip 305 = .ok (.ireturn, 1) := by decide +kernel
set_option maxHeartbeats 4000000 in
set_option maxRecDepth 100000 in
theorem c_L_isStrip (l : Launch) (G : GT) (a : Nat → Nat) (b : Nat → Nat) (x : HV) (q : Nat → Nat) (v : SV) (h15 : le_n (v 4 15) 12) (hk : ∀ j, j < 12 → le_n (v 3 (3 * j + 2)) 24) : Met l yL_isStrip (Cond.code yL_isStrip cL_isStrip 7 (some .boolean) :: bigW) ({ frames := 4, cells := 0, slots := 0, locals := 89 }) (BP G [.ref (a 0), .ref (q 3), .ref (q 4)] (fun U H => PW G (hdW G a b x) H ∧ PW G (lwW G q v) H)) (QP (.int (fL_isStrip x v))) 0 0 (fun _ => False) := by
  refine met_of (by decide) (Nat.le_of_ble_eq_true rfl) ?_
  intro p e s m below meth c ls hC hKN hB0 hl
  obtain ⟨hP, hP2⟩ := hB0
  have hl : lv_has ls 7 [(0, .ref (a 0)), (1, .ref (q 3)), (2, .ref (q 4))] := hl
  have hg : fL_isStrip x v = fL_isStrip x v := rfl
  refine lv_aload_n hC.1 hC.2.1 dL_isStrip_0 rfl (lv_at hl 2 rfl) ?_
  refine lv_bipush (v := 15) hC.1 hC.2.1 dL_isStrip_1 (by decide +kernel) ?_
  refine iald_k hC hKN hP2 4 rfl (n := 21) (f := (v 4)) 15 (rfl) (by omega) (by first | decide | omega) dL_isStrip_3 ?_
  refine lv_bipush (v := 12) hC.1 hC.2.1 dL_isStrip_4 (by decide +kernel) ?_
  have J40 : ∀ (z0_40 : Int32), fL_isStrip x v = tL_isStrip_J40 x v z0_40 → (z0_40 = 0 ∨ z0_40 = 1) → ∀ (ls : Array Slot), lv_has ls 7 [(0, .ref (a 0)), (1, .ref (q 3)), (2, .ref (q 4))] → W p l e ({ frames := 4, cells := 0, slots := 0, locals := 89 }) s m ([.ref (a 0), .ref (q 3), .ref (q 4)] : List Value).toArray below meth c s.heap [] 0 0 (MQ below (QP (.int (fL_isStrip x v))) ([.ref (a 0), .ref (q 3), .ref (q 4)] : List Value).toArray s 0 0 (fun _ => False)) (F0 m 40 ls [.int z0_40]) := by
    intro z0_40 hg hI ls hl
    refine lv_istore_n (lv' := [(3, .int z0_40), (0, .ref (a 0)), (1, .ref (q 3)), (2, .ref (q 4))]) hC.1 hC.2.1 dL_isStrip_40 rfl hl (by decide) rfl (fun ls hl => ?_)
    refine lv_iconst (v := 0) hC.1 hC.2.1 dL_isStrip_41 (by decide) ?_
    refine lv_istore (lv' := [(4, .int 0), (3, .int z0_40), (0, .ref (a 0)), (1, .ref (q 3)), (2, .ref (q 4))]) hC.1 hC.2.1 dL_isStrip_42 hl (by decide) rfl (fun ls hl => ?_)
    have A44 : ∀ (y3_44 : Int32), fL_isStrip x v = (tL_isStrip_44 x v y3_44) → (y3_44 = 0 ∨ y3_44 = 1) → ∀ (ls : Array Slot), lv_has ls 7 [(3, .int y3_44)] → W p l e ({ frames := 4, cells := 0, slots := 0, locals := 89 }) s m ([.ref (a 0), .ref (q 3), .ref (q 4)] : List Value).toArray below meth c s.heap [] 0 0 (MQ below (QP (.int (fL_isStrip x v))) ([.ref (a 0), .ref (q 3), .ref (q 4)] : List Value).toArray s 0 0 (fun _ => False)) (F0 m 304 ls []) := by
      intro  y3_44 hg hI ls hl
      refine lv_iload_n hC.1 hC.2.1 dL_isStrip_304 rfl (lv_at hl 0 rfl) ?_
      have e_1 : tL_isStrip_44 x v y3_44 = y3_44 := by delta tL_isStrip_44; exact rfl
      have hg : fL_isStrip x v = y3_44 := by have e2 := congrArg (fun z => z) e_1; exact hg.trans e2
      exact eP_z hC (congrArg Value.int hg) (nb01 hI) dL_isStrip_305
    have L44 : ∀ (n44 d44 : Nat), ∀ (y3_44 : Int32), d44 + n44 = ((v 4 15).toNatClampNeg) → fL_isStrip x v = (Sum.elim (tL_isStrip_44 x v) (tL_isStrip_44 x v) (lpR n44 d44 (bL_isStrip_44 x v) y3_44)) → (y3_44 = 0 ∨ y3_44 = 1) → ∀ (ls : Array Slot), lv_has ls 7 [(0, .ref (a 0)), (1, .ref (q 3)), (2, .ref (q 4)), (3, .int y3_44), (4, .int (nI d44))] → W p l e ({ frames := 4, cells := 0, slots := 0, locals := 89 }) s m ([.ref (a 0), .ref (q 3), .ref (q 4)] : List Value).toArray below meth c s.heap [] 0 0 (MQ below (QP (.int (fL_isStrip x v))) ([.ref (a 0), .ref (q 3), .ref (q 4)] : List Value).toArray s 0 0 (fun _ => False)) (F0 m 44 ls []) := by
      intro n44
      induction n44 with
      | zero =>
        intro d44 y3_44 hd hg hI ls hl
        refine lv_iload hC.1 hC.2.1 dL_isStrip_44 (lv_at hl 4 rfl) ?_
        refine lv_aload_n hC.1 hC.2.1 dL_isStrip_46 rfl (lv_at hl 2 rfl) ?_
        refine lv_bipush (v := 15) hC.1 hC.2.1 dL_isStrip_47 (by decide +kernel) ?_
        refine iald_k hC hKN hP2 4 rfl (n := 21) (f := (v 4)) 15 (rfl) (by omega) (by first | decide | omega) dL_isStrip_49 ?_
        refine lv_icmp_ge (tgt := 304) hC.1 hC.2.1 dL_isStrip_50 (by decide) (fun k50 => ?_) (fun k50 => ?_)
        · exact A44  y3_44 hg hI _ (lv_sub hl [3] rfl)
        · exact absurd (cl_le (by omega) (by have := cl_lt (v 4 15); omega)) k50
      | succ n44 ih =>
        intro d44 y3_44 hd hg hI ls hl
        have hg : fL_isStrip x v = (Sum.elim (tL_isStrip_44 x v) (tL_isStrip_44 x v) (lpRs n44 d44 (bL_isStrip_44 x v) (bL_isStrip_44 x v d44 y3_44))) := hg
        refine lv_iload hC.1 hC.2.1 dL_isStrip_44 (lv_at hl 4 rfl) ?_
        refine lv_aload_n hC.1 hC.2.1 dL_isStrip_46 rfl (lv_at hl 2 rfl) ?_
        refine lv_bipush (v := 15) hC.1 hC.2.1 dL_isStrip_47 (by decide +kernel) ?_
        refine iald_k hC hKN hP2 4 rfl (n := 21) (f := (v 4)) 15 (rfl) (by omega) (by first | decide | omega) dL_isStrip_49 ?_
        refine lv_icmp_ge (tgt := 304) hC.1 hC.2.1 dL_isStrip_50 (by decide) (fun k50 => ?_) (fun k50 => ?_)
        · exact absurd k50 (cl_nle (by omega))
        · refine lv_iload_n hC.1 hC.2.1 dL_isStrip_53 rfl (lv_at hl 3 rfl) ?_
          refine lv_if_eq (tgt := 304) hC.1 hC.2.1 dL_isStrip_54 (by decide) (fun k54 => ?_) (fun k54 => ?_)
          · have e_2 : bL_isStrip_44 x v d44 y3_44 = Sum.inr y3_44 := by delta bL_isStrip_44; exact Eq.trans (if_pos k54) rfl
            have hg : fL_isStrip x v = (tL_isStrip_44 x v y3_44) := by have e2 := congrArg (fun z => (Sum.elim (tL_isStrip_44 x v) (tL_isStrip_44 x v) (lpRs n44 d44 (bL_isStrip_44 x v) z))) e_2; exact hg.trans e2
            exact A44  y3_44 hg hI _ (lv_sub hl [3] rfl)
          · refine lv_aload_n hC.1 hC.2.1 dL_isStrip_57 rfl (lv_at hl 0 rfl) ?_
            refine lv_iload hC.1 hC.2.1 dL_isStrip_58 (lv_at hl 4 rfl) ?_
            refine lv_iconst (v := 0) hC.1 hC.2.1 dL_isStrip_60 (by decide) ?_
            refine runP (rV (B := fun U H => PW G (hdW G a b x) H) (As := [.int (nI d44), .int 0]) (rest := []) hC mwX5_kept (c_X5_kept l G a b x (nI d44) 0 (kpd (by have := h15.2; omega)) (by decide +kernel)) iwX5_kept wd_399 ⟨rfl, rfl⟩ ⟨Nat.le_of_ble_eq_true rfl, Nat.le_of_ble_eq_true rfl⟩ (stb_h (fun H => PW G (hdW G a b x) H)) hKN hP (va_recv hKN.k hP (ci := 5) (q0 := 0) rfl rfl) rfl hl.1 rfl (Nat.le_of_ble_eq_true rfl) dL_isStrip_61 ⟨Nat.zero_le _, Nat.zero_le _⟩) ?_
            refine lv_aload_n hC.1 hC.2.1 dL_isStrip_64 rfl (lv_at hl 1 rfl) ?_
            refine lv_iconst (v := 3) hC.1 hC.2.1 dL_isStrip_65 (by decide) ?_
            refine lv_iload hC.1 hC.2.1 dL_isStrip_66 (lv_at hl 4 rfl) ?_
            refine lv_imul hC.1 hC.2.1 dL_isStrip_68 ?_
            refine iald_k hC hKN hP2 3 rfl (n := 36) (f := (v 3)) (3 * d44) (nE_mul (rfl) (rfl)) (by have := h15.2; omega) (by first | decide | omega) dL_isStrip_69 ?_
            have J114 : ∀ (z0_114 : Int32), fL_isStrip x v = (Sum.elim (tL_isStrip_44 x v) (tL_isStrip_44 x v) (lpRs n44 d44 (bL_isStrip_44 x v) (tL_isStrip_J114 x v d44 z0_114))) → (z0_114 = 0 ∨ z0_114 = 1) → ∀ (ls : Array Slot), lv_has ls 7 [(0, .ref (a 0)), (1, .ref (q 3)), (2, .ref (q 4)), (4, .int (nI d44))] → W p l e ({ frames := 4, cells := 0, slots := 0, locals := 89 }) s m ([.ref (a 0), .ref (q 3), .ref (q 4)] : List Value).toArray below meth c s.heap [] 0 0 (MQ below (QP (.int (fL_isStrip x v))) ([.ref (a 0), .ref (q 3), .ref (q 4)] : List Value).toArray s 0 0 (fun _ => False)) (F0 m 114 ls [.int z0_114]) := by
              intro z0_114 hg hI ls hl
              refine lv_istore_n (lv' := [(3, .int z0_114), (0, .ref (a 0)), (1, .ref (q 3)), (2, .ref (q 4)), (4, .int (nI d44))]) hC.1 hC.2.1 dL_isStrip_114 rfl hl (by decide) rfl (fun ls hl => ?_)
              refine lv_iconst (v := 0) hC.1 hC.2.1 dL_isStrip_115 (by decide) ?_
              refine lv_istore (lv' := [(5, .int 0), (3, .int z0_114), (0, .ref (a 0)), (1, .ref (q 3)), (2, .ref (q 4)), (4, .int (nI d44))]) hC.1 hC.2.1 dL_isStrip_116 hl (by decide) rfl (fun ls hl => ?_)
              have A118 : ∀ (y3_118 : Int32), fL_isStrip x v = (Sum.elim (tL_isStrip_44 x v) (tL_isStrip_44 x v) (lpRs n44 d44 (bL_isStrip_44 x v) (tL_isStrip_118 x v d44 y3_118))) → (y3_118 = 0 ∨ y3_118 = 1) → ∀ (ls : Array Slot), lv_has ls 7 [(0, .ref (a 0)), (1, .ref (q 3)), (2, .ref (q 4)), (3, .int y3_118), (4, .int (nI d44))] → W p l e ({ frames := 4, cells := 0, slots := 0, locals := 89 }) s m ([.ref (a 0), .ref (q 3), .ref (q 4)] : List Value).toArray below meth c s.heap [] 0 0 (MQ below (QP (.int (fL_isStrip x v))) ([.ref (a 0), .ref (q 3), .ref (q 4)] : List Value).toArray s 0 0 (fun _ => False)) (F0 m 200 ls []) := by
                intro  y3_118 hg hI ls hl
                refine lv_aload_n hC.1 hC.2.1 dL_isStrip_200 rfl (lv_at hl 1 rfl) ?_
                refine lv_iconst (v := 3) hC.1 hC.2.1 dL_isStrip_201 (by decide) ?_
                refine lv_iload hC.1 hC.2.1 dL_isStrip_202 (lv_at hl 4 rfl) ?_
                refine lv_imul hC.1 hC.2.1 dL_isStrip_204 ?_
                refine lv_iconst (v := 2) hC.1 hC.2.1 dL_isStrip_205 (by decide) ?_
                refine lv_iadd hC.1 hC.2.1 dL_isStrip_206 ?_
                refine iald_k hC hKN hP2 3 rfl (n := 36) (f := (v 3)) ((3 * d44) + 2) (nE_add (nE_mul (rfl) (rfl)) (rfl)) (by have := h15.2; omega) (by first | decide | omega) dL_isStrip_207 ?_
                refine lv_if_le (tgt := 224) hC.1 hC.2.1 dL_isStrip_208 (by decide) (fun k208 => ?_) (fun k208 => ?_)
                · refine lv_iconst (v := 0) hC.1 hC.2.1 dL_isStrip_224 (by decide) ?_
                  refine lv_istore (lv' := [(5, .int 0), (0, .ref (a 0)), (1, .ref (q 3)), (2, .ref (q 4)), (3, .int y3_118), (4, .int (nI d44))]) hC.1 hC.2.1 dL_isStrip_225 hl (by decide) rfl (fun ls hl => ?_)
                  refine lv_iload_n hC.1 hC.2.1 dL_isStrip_227 rfl (lv_at hl 4 rfl) ?_
                  have J297 : ∀ (z0_297 : Int32), fL_isStrip x v = (Sum.elim (tL_isStrip_44 x v) (tL_isStrip_44 x v) (lpRs n44 d44 (bL_isStrip_44 x v) (tL_isStrip_J297 x v d44 z0_297))) → (z0_297 = 0 ∨ z0_297 = 1) → ∀ (ls : Array Slot), lv_has ls 7 [(0, .ref (a 0)), (1, .ref (q 3)), (2, .ref (q 4)), (4, .int (nI d44))] → W p l e ({ frames := 4, cells := 0, slots := 0, locals := 89 }) s m ([.ref (a 0), .ref (q 3), .ref (q 4)] : List Value).toArray below meth c s.heap [] 0 0 (MQ below (QP (.int (fL_isStrip x v))) ([.ref (a 0), .ref (q 3), .ref (q 4)] : List Value).toArray s 0 0 (fun _ => False)) (F0 m 297 ls [.int z0_297]) := by
                    intro z0_297 hg hI ls hl
                    refine lv_istore_n (lv' := [(3, .int z0_297), (0, .ref (a 0)), (1, .ref (q 3)), (2, .ref (q 4)), (4, .int (nI d44))]) hC.1 hC.2.1 dL_isStrip_297 rfl hl (by decide) rfl (fun ls hl => ?_)
                    refine lv_iinc (v := nI (d44 + 1)) (lv' := [(4, .int (nI (d44 + 1))), (3, .int z0_297), (0, .ref (a 0)), (1, .ref (q 3)), (2, .ref (q 4))]) hC.1 hC.2.1 dL_isStrip_298 hl (k := 4) rfl (nI_1 _) (by decide) rfl (fun ls hl => ?_)
                    refine lv_goto (tgt := 44) hC.1 hC.2.1 dL_isStrip_301 (by decide) ?_
                    have e_3 : tL_isStrip_J297 x v d44 z0_297 = Sum.inl z0_297 := by delta tL_isStrip_J297; exact rfl
                    have hg : fL_isStrip x v = (Sum.elim (tL_isStrip_44 x v) (tL_isStrip_44 x v) (lpR n44 (d44 + 1) (bL_isStrip_44 x v) z0_297)) := by have e2 := congrArg (fun z => (Sum.elim (tL_isStrip_44 x v) (tL_isStrip_44 x v) (lpRs n44 d44 (bL_isStrip_44 x v) z))) e_3; exact hg.trans e2
                    exact ih (d44 + 1) z0_297 (by omega) hg hI _ (lv_sub hl [2, 3, 4, 1, 0] rfl)
                  refine lv_if_eq (tgt := 296) hC.1 hC.2.1 dL_isStrip_228 (by decide) (fun k228 => ?_) (fun k228 => ?_)
                  · refine lv_iconst (v := 0) hC.1 hC.2.1 dL_isStrip_296 (by decide) ?_
                    have e_4 : tL_isStrip_118 x v d44 y3_118 = tL_isStrip_J297 x v d44 0 := by delta tL_isStrip_118; exact Eq.trans (if_pos k208) (Eq.trans (if_pos k228) rfl)
                    have hg : fL_isStrip x v = (Sum.elim (tL_isStrip_44 x v) (tL_isStrip_44 x v) (lpRs n44 d44 (bL_isStrip_44 x v) (tL_isStrip_J297 x v d44 0))) := by have e2 := congrArg (fun z => (Sum.elim (tL_isStrip_44 x v) (tL_isStrip_44 x v) (lpRs n44 d44 (bL_isStrip_44 x v) z))) e_4; exact hg.trans e2
                    exact J297 0 hg (by first | exact Or.inl rfl | exact Or.inr rfl) _ (lv_sub hl [1, 2, 3, 5] rfl)
                  · refine lv_iload hC.1 hC.2.1 dL_isStrip_231 (lv_at hl 0 rfl) ?_
                    refine lv_if_eq (tgt := 265) hC.1 hC.2.1 dL_isStrip_233 (by decide) (fun k233 => ?_) (fun k233 => ?_)
                    · refine lv_aload_n hC.1 hC.2.1 dL_isStrip_265 rfl (lv_at hl 1 rfl) ?_
                      refine lv_iload hC.1 hC.2.1 dL_isStrip_266 (lv_at hl 5 rfl) ?_
                      refine lv_bipush (v := 24) hC.1 hC.2.1 dL_isStrip_268 (by decide +kernel) ?_
                      refine lv_iload hC.1 hC.2.1 dL_isStrip_270 (lv_at hl 0 rfl) ?_
                      refine lv_iadd hC.1 hC.2.1 dL_isStrip_272 ?_
                      refine runP (rV (B := fun U H => PW G (hdW G a b x) H) (As := [.int (nI d44), .int (24 + 0)]) (rest := []) hC mwX5_told (c_X5_told l G a b x (nI d44) (24 + 0) (kpd (by have := h15.2; omega)) (by first | decide | exact sgn (c := 24) (by decide) (hk d44 (by have := h15.2; omega)) k208)) iwX5_told wd_409 ⟨rfl, rfl⟩ ⟨Nat.le_of_ble_eq_true rfl, Nat.le_of_ble_eq_true rfl⟩ (stb_h (fun H => PW G (hdW G a b x) H)) hKN hP (va_recv hKN.k hP (ci := 5) (q0 := 0) rfl rfl) rfl hl.1 rfl (Nat.le_of_ble_eq_true rfl) dL_isStrip_273 ⟨Nat.zero_le _, Nat.zero_le _⟩) ?_
                      refine lv_iconst (v := (-1)) hC.1 hC.2.1 dL_isStrip_276 (by decide) ?_
                      refine lv_icmp_ne (tgt := 296) hC.1 hC.2.1 dL_isStrip_277 (by decide) (fun k277 => ?_) (fun k277 => ?_)
                      · refine lv_iconst (v := 0) hC.1 hC.2.1 dL_isStrip_296 (by decide) ?_
                        have e_5 : tL_isStrip_118 x v d44 y3_118 = tL_isStrip_J297 x v d44 0 := by delta tL_isStrip_118; exact Eq.trans (if_pos k208) (Eq.trans (if_neg k228) (Eq.trans (if_neg k277) rfl))
                        have hg : fL_isStrip x v = (Sum.elim (tL_isStrip_44 x v) (tL_isStrip_44 x v) (lpRs n44 d44 (bL_isStrip_44 x v) (tL_isStrip_J297 x v d44 0))) := by have e2 := congrArg (fun z => (Sum.elim (tL_isStrip_44 x v) (tL_isStrip_44 x v) (lpRs n44 d44 (bL_isStrip_44 x v) z))) e_5; exact hg.trans e2
                        exact J297 0 hg (by first | exact Or.inl rfl | exact Or.inr rfl) _ (lv_sub hl [1, 2, 3, 5] rfl)
                      · refine lv_aload_n hC.1 hC.2.1 dL_isStrip_280 rfl (lv_at hl 1 rfl) ?_
                        refine lv_iload hC.1 hC.2.1 dL_isStrip_281 (lv_at hl 5 rfl) ?_
                        refine lv_bipush (v := 99) hC.1 hC.2.1 dL_isStrip_283 (by decide +kernel) ?_
                        refine runP (rV (B := fun U H => PW G (hdW G a b x) H) (As := [.int (nI d44), .int 99]) (rest := []) hC mwX5_told (c_X5_told l G a b x (nI d44) 99 (kpd (by have := h15.2; omega)) (by decide)) iwX5_told wd_409 ⟨rfl, rfl⟩ ⟨Nat.le_of_ble_eq_true rfl, Nat.le_of_ble_eq_true rfl⟩ (stb_h (fun H => PW G (hdW G a b x) H)) hKN hP (va_recv hKN.k hP (ci := 5) (q0 := 0) rfl rfl) rfl hl.1 rfl (Nat.le_of_ble_eq_true rfl) dL_isStrip_285 ⟨Nat.zero_le _, Nat.zero_le _⟩) ?_
                        refine lv_iconst (v := (-1)) hC.1 hC.2.1 dL_isStrip_288 (by decide) ?_
                        refine lv_icmp_ne (tgt := 296) hC.1 hC.2.1 dL_isStrip_289 (by decide) (fun k289 => ?_) (fun k289 => ?_)
                        · refine lv_iconst (v := 0) hC.1 hC.2.1 dL_isStrip_296 (by decide) ?_
                          have e_6 : tL_isStrip_118 x v d44 y3_118 = tL_isStrip_J297 x v d44 0 := by delta tL_isStrip_118; exact Eq.trans (if_pos k208) (Eq.trans (if_neg k228) (Eq.trans (if_pos k277) (Eq.trans (if_neg k289) rfl)))
                          have hg : fL_isStrip x v = (Sum.elim (tL_isStrip_44 x v) (tL_isStrip_44 x v) (lpRs n44 d44 (bL_isStrip_44 x v) (tL_isStrip_J297 x v d44 0))) := by have e2 := congrArg (fun z => (Sum.elim (tL_isStrip_44 x v) (tL_isStrip_44 x v) (lpRs n44 d44 (bL_isStrip_44 x v) z))) e_6; exact hg.trans e2
                          exact J297 0 hg (by first | exact Or.inl rfl | exact Or.inr rfl) _ (lv_sub hl [1, 2, 3, 5] rfl)
                        · refine lv_iconst (v := 1) hC.1 hC.2.1 dL_isStrip_292 (by decide) ?_
                          refine lv_goto (tgt := 297) hC.1 hC.2.1 dL_isStrip_293 (by decide) ?_
                          have e_7 : tL_isStrip_118 x v d44 y3_118 = tL_isStrip_J297 x v d44 1 := by delta tL_isStrip_118; exact Eq.trans (if_pos k208) (Eq.trans (if_neg k228) (Eq.trans (if_pos k277) (Eq.trans (if_pos k289) rfl)))
                          have hg : fL_isStrip x v = (Sum.elim (tL_isStrip_44 x v) (tL_isStrip_44 x v) (lpRs n44 d44 (bL_isStrip_44 x v) (tL_isStrip_J297 x v d44 1))) := by have e2 := congrArg (fun z => (Sum.elim (tL_isStrip_44 x v) (tL_isStrip_44 x v) (lpRs n44 d44 (bL_isStrip_44 x v) z))) e_7; exact hg.trans e2
                          exact J297 1 hg (by first | exact Or.inl rfl | exact Or.inr rfl) _ (lv_sub hl [1, 2, 3, 5] rfl)
                    · exact absurd (by decide) k233
                · refine lv_aload_n hC.1 hC.2.1 dL_isStrip_211 rfl (lv_at hl 1 rfl) ?_
                  refine lv_iconst (v := 3) hC.1 hC.2.1 dL_isStrip_212 (by decide) ?_
                  refine lv_iload hC.1 hC.2.1 dL_isStrip_213 (lv_at hl 4 rfl) ?_
                  refine lv_imul hC.1 hC.2.1 dL_isStrip_215 ?_
                  refine lv_iconst (v := 2) hC.1 hC.2.1 dL_isStrip_216 (by decide) ?_
                  refine lv_iadd hC.1 hC.2.1 dL_isStrip_217 ?_
                  refine iald_k hC hKN hP2 3 rfl (n := 36) (f := (v 3)) ((3 * d44) + 2) (nE_add (nE_mul (rfl) (rfl)) (rfl)) (by have := h15.2; omega) (by first | decide | omega) dL_isStrip_218 ?_
                  refine lv_iconst (v := 1) hC.1 hC.2.1 dL_isStrip_219 (by decide) ?_
                  refine lv_isub hC.1 hC.2.1 dL_isStrip_220 ?_
                  refine lv_goto (tgt := 225) hC.1 hC.2.1 dL_isStrip_221 (by decide) ?_
                  refine lv_istore (lv' := [(5, .int (((v 3) ((3 * d44) + 2)) - 1)), (0, .ref (a 0)), (1, .ref (q 3)), (2, .ref (q 4)), (3, .int y3_118), (4, .int (nI d44))]) hC.1 hC.2.1 dL_isStrip_225 hl (by decide) rfl (fun ls hl => ?_)
                  refine lv_iload_n hC.1 hC.2.1 dL_isStrip_227 rfl (lv_at hl 4 rfl) ?_
                  have J297 : ∀ (z0_297 : Int32), fL_isStrip x v = (Sum.elim (tL_isStrip_44 x v) (tL_isStrip_44 x v) (lpRs n44 d44 (bL_isStrip_44 x v) (tL_isStrip_J297 x v d44 z0_297))) → (z0_297 = 0 ∨ z0_297 = 1) → ∀ (ls : Array Slot), lv_has ls 7 [(0, .ref (a 0)), (1, .ref (q 3)), (2, .ref (q 4)), (4, .int (nI d44))] → W p l e ({ frames := 4, cells := 0, slots := 0, locals := 89 }) s m ([.ref (a 0), .ref (q 3), .ref (q 4)] : List Value).toArray below meth c s.heap [] 0 0 (MQ below (QP (.int (fL_isStrip x v))) ([.ref (a 0), .ref (q 3), .ref (q 4)] : List Value).toArray s 0 0 (fun _ => False)) (F0 m 297 ls [.int z0_297]) := by
                    intro z0_297 hg hI ls hl
                    refine lv_istore_n (lv' := [(3, .int z0_297), (0, .ref (a 0)), (1, .ref (q 3)), (2, .ref (q 4)), (4, .int (nI d44))]) hC.1 hC.2.1 dL_isStrip_297 rfl hl (by decide) rfl (fun ls hl => ?_)
                    refine lv_iinc (v := nI (d44 + 1)) (lv' := [(4, .int (nI (d44 + 1))), (3, .int z0_297), (0, .ref (a 0)), (1, .ref (q 3)), (2, .ref (q 4))]) hC.1 hC.2.1 dL_isStrip_298 hl (k := 4) rfl (nI_1 _) (by decide) rfl (fun ls hl => ?_)
                    refine lv_goto (tgt := 44) hC.1 hC.2.1 dL_isStrip_301 (by decide) ?_
                    have e_8 : tL_isStrip_J297 x v d44 z0_297 = Sum.inl z0_297 := by delta tL_isStrip_J297; exact rfl
                    have hg : fL_isStrip x v = (Sum.elim (tL_isStrip_44 x v) (tL_isStrip_44 x v) (lpR n44 (d44 + 1) (bL_isStrip_44 x v) z0_297)) := by have e2 := congrArg (fun z => (Sum.elim (tL_isStrip_44 x v) (tL_isStrip_44 x v) (lpRs n44 d44 (bL_isStrip_44 x v) z))) e_8; exact hg.trans e2
                    exact ih (d44 + 1) z0_297 (by omega) hg hI _ (lv_sub hl [2, 3, 4, 1, 0] rfl)
                  refine lv_if_eq (tgt := 296) hC.1 hC.2.1 dL_isStrip_228 (by decide) (fun k228 => ?_) (fun k228 => ?_)
                  · refine lv_iconst (v := 0) hC.1 hC.2.1 dL_isStrip_296 (by decide) ?_
                    have e_9 : tL_isStrip_118 x v d44 y3_118 = tL_isStrip_J297 x v d44 0 := by delta tL_isStrip_118; exact Eq.trans (if_neg k208) (Eq.trans (if_pos k228) rfl)
                    have hg : fL_isStrip x v = (Sum.elim (tL_isStrip_44 x v) (tL_isStrip_44 x v) (lpRs n44 d44 (bL_isStrip_44 x v) (tL_isStrip_J297 x v d44 0))) := by have e2 := congrArg (fun z => (Sum.elim (tL_isStrip_44 x v) (tL_isStrip_44 x v) (lpRs n44 d44 (bL_isStrip_44 x v) z))) e_9; exact hg.trans e2
                    exact J297 0 hg (by first | exact Or.inl rfl | exact Or.inr rfl) _ (lv_sub hl [1, 2, 3, 5] rfl)
                  · refine lv_iload hC.1 hC.2.1 dL_isStrip_231 (lv_at hl 0 rfl) ?_
                    refine lv_if_eq (tgt := 265) hC.1 hC.2.1 dL_isStrip_233 (by decide) (fun k233 => ?_) (fun k233 => ?_)
                    · refine lv_aload_n hC.1 hC.2.1 dL_isStrip_265 rfl (lv_at hl 1 rfl) ?_
                      refine lv_iload hC.1 hC.2.1 dL_isStrip_266 (lv_at hl 5 rfl) ?_
                      refine lv_bipush (v := 24) hC.1 hC.2.1 dL_isStrip_268 (by decide +kernel) ?_
                      refine lv_iload hC.1 hC.2.1 dL_isStrip_270 (lv_at hl 0 rfl) ?_
                      refine lv_iadd hC.1 hC.2.1 dL_isStrip_272 ?_
                      refine runP (rV (B := fun U H => PW G (hdW G a b x) H) (As := [.int (nI d44), .int (24 + (((v 3) ((3 * d44) + 2)) - 1))]) (rest := []) hC mwX5_told (c_X5_told l G a b x (nI d44) (24 + (((v 3) ((3 * d44) + 2)) - 1)) (kpd (by have := h15.2; omega)) (by first | decide | exact sgn (c := 24) (by decide) (hk d44 (by have := h15.2; omega)) k208)) iwX5_told wd_409 ⟨rfl, rfl⟩ ⟨Nat.le_of_ble_eq_true rfl, Nat.le_of_ble_eq_true rfl⟩ (stb_h (fun H => PW G (hdW G a b x) H)) hKN hP (va_recv hKN.k hP (ci := 5) (q0 := 0) rfl rfl) rfl hl.1 rfl (Nat.le_of_ble_eq_true rfl) dL_isStrip_273 ⟨Nat.zero_le _, Nat.zero_le _⟩) ?_
                      refine lv_iconst (v := (-1)) hC.1 hC.2.1 dL_isStrip_276 (by decide) ?_
                      refine lv_icmp_ne (tgt := 296) hC.1 hC.2.1 dL_isStrip_277 (by decide) (fun k277 => ?_) (fun k277 => ?_)
                      · refine lv_iconst (v := 0) hC.1 hC.2.1 dL_isStrip_296 (by decide) ?_
                        have e_10 : tL_isStrip_118 x v d44 y3_118 = tL_isStrip_J297 x v d44 0 := by delta tL_isStrip_118; exact Eq.trans (if_neg k208) (Eq.trans (if_neg k228) (Eq.trans (if_pos k233) (Eq.trans (if_neg k277) rfl)))
                        have hg : fL_isStrip x v = (Sum.elim (tL_isStrip_44 x v) (tL_isStrip_44 x v) (lpRs n44 d44 (bL_isStrip_44 x v) (tL_isStrip_J297 x v d44 0))) := by have e2 := congrArg (fun z => (Sum.elim (tL_isStrip_44 x v) (tL_isStrip_44 x v) (lpRs n44 d44 (bL_isStrip_44 x v) z))) e_10; exact hg.trans e2
                        exact J297 0 hg (by first | exact Or.inl rfl | exact Or.inr rfl) _ (lv_sub hl [1, 2, 3, 5] rfl)
                      · refine lv_aload_n hC.1 hC.2.1 dL_isStrip_280 rfl (lv_at hl 1 rfl) ?_
                        refine lv_iload hC.1 hC.2.1 dL_isStrip_281 (lv_at hl 5 rfl) ?_
                        refine lv_bipush (v := 99) hC.1 hC.2.1 dL_isStrip_283 (by decide +kernel) ?_
                        refine runP (rV (B := fun U H => PW G (hdW G a b x) H) (As := [.int (nI d44), .int 99]) (rest := []) hC mwX5_told (c_X5_told l G a b x (nI d44) 99 (kpd (by have := h15.2; omega)) (by decide)) iwX5_told wd_409 ⟨rfl, rfl⟩ ⟨Nat.le_of_ble_eq_true rfl, Nat.le_of_ble_eq_true rfl⟩ (stb_h (fun H => PW G (hdW G a b x) H)) hKN hP (va_recv hKN.k hP (ci := 5) (q0 := 0) rfl rfl) rfl hl.1 rfl (Nat.le_of_ble_eq_true rfl) dL_isStrip_285 ⟨Nat.zero_le _, Nat.zero_le _⟩) ?_
                        refine lv_iconst (v := (-1)) hC.1 hC.2.1 dL_isStrip_288 (by decide) ?_
                        refine lv_icmp_ne (tgt := 296) hC.1 hC.2.1 dL_isStrip_289 (by decide) (fun k289 => ?_) (fun k289 => ?_)
                        · refine lv_iconst (v := 0) hC.1 hC.2.1 dL_isStrip_296 (by decide) ?_
                          have e_11 : tL_isStrip_118 x v d44 y3_118 = tL_isStrip_J297 x v d44 0 := by delta tL_isStrip_118; exact Eq.trans (if_neg k208) (Eq.trans (if_neg k228) (Eq.trans (if_pos k233) (Eq.trans (if_pos k277) (Eq.trans (if_neg k289) rfl))))
                          have hg : fL_isStrip x v = (Sum.elim (tL_isStrip_44 x v) (tL_isStrip_44 x v) (lpRs n44 d44 (bL_isStrip_44 x v) (tL_isStrip_J297 x v d44 0))) := by have e2 := congrArg (fun z => (Sum.elim (tL_isStrip_44 x v) (tL_isStrip_44 x v) (lpRs n44 d44 (bL_isStrip_44 x v) z))) e_11; exact hg.trans e2
                          exact J297 0 hg (by first | exact Or.inl rfl | exact Or.inr rfl) _ (lv_sub hl [1, 2, 3, 5] rfl)
                        · refine lv_iconst (v := 1) hC.1 hC.2.1 dL_isStrip_292 (by decide) ?_
                          refine lv_goto (tgt := 297) hC.1 hC.2.1 dL_isStrip_293 (by decide) ?_
                          have e_12 : tL_isStrip_118 x v d44 y3_118 = tL_isStrip_J297 x v d44 1 := by delta tL_isStrip_118; exact Eq.trans (if_neg k208) (Eq.trans (if_neg k228) (Eq.trans (if_pos k233) (Eq.trans (if_pos k277) (Eq.trans (if_pos k289) rfl))))
                          have hg : fL_isStrip x v = (Sum.elim (tL_isStrip_44 x v) (tL_isStrip_44 x v) (lpRs n44 d44 (bL_isStrip_44 x v) (tL_isStrip_J297 x v d44 1))) := by have e2 := congrArg (fun z => (Sum.elim (tL_isStrip_44 x v) (tL_isStrip_44 x v) (lpRs n44 d44 (bL_isStrip_44 x v) z))) e_12; exact hg.trans e2
                          exact J297 1 hg (by first | exact Or.inl rfl | exact Or.inr rfl) _ (lv_sub hl [1, 2, 3, 5] rfl)
                    · refine lv_aload_n hC.1 hC.2.1 dL_isStrip_236 rfl (lv_at hl 1 rfl) ?_
                      refine lv_iload hC.1 hC.2.1 dL_isStrip_237 (lv_at hl 5 rfl) ?_
                      refine lv_bipush (v := 24) hC.1 hC.2.1 dL_isStrip_239 (by decide +kernel) ?_
                      refine runP (rV (B := fun U H => PW G (hdW G a b x) H) (As := [.int (nI d44), .int 24]) (rest := []) hC mwX5_told (c_X5_told l G a b x (nI d44) 24 (kpd (by have := h15.2; omega)) (by decide)) iwX5_told wd_409 ⟨rfl, rfl⟩ ⟨Nat.le_of_ble_eq_true rfl, Nat.le_of_ble_eq_true rfl⟩ (stb_h (fun H => PW G (hdW G a b x) H)) hKN hP (va_recv hKN.k hP (ci := 5) (q0 := 0) rfl rfl) rfl hl.1 rfl (Nat.le_of_ble_eq_true rfl) dL_isStrip_241 ⟨Nat.zero_le _, Nat.zero_le _⟩) ?_
                      refine lv_bipush (v := 124) hC.1 hC.2.1 dL_isStrip_244 (by decide +kernel) ?_
                      refine lv_icmp_ne (tgt := 296) hC.1 hC.2.1 dL_isStrip_246 (by decide) (fun k246 => ?_) (fun k246 => ?_)
                      · refine lv_iconst (v := 0) hC.1 hC.2.1 dL_isStrip_296 (by decide) ?_
                        have e_13 : tL_isStrip_118 x v d44 y3_118 = tL_isStrip_J297 x v d44 0 := by delta tL_isStrip_118; exact Eq.trans (if_neg k208) (Eq.trans (if_neg k228) (Eq.trans (if_neg k233) (Eq.trans (if_neg k246) rfl)))
                        have hg : fL_isStrip x v = (Sum.elim (tL_isStrip_44 x v) (tL_isStrip_44 x v) (lpRs n44 d44 (bL_isStrip_44 x v) (tL_isStrip_J297 x v d44 0))) := by have e2 := congrArg (fun z => (Sum.elim (tL_isStrip_44 x v) (tL_isStrip_44 x v) (lpRs n44 d44 (bL_isStrip_44 x v) z))) e_13; exact hg.trans e2
                        exact J297 0 hg (by first | exact Or.inl rfl | exact Or.inr rfl) _ (lv_sub hl [1, 2, 3, 5] rfl)
                      · refine lv_aload_n hC.1 hC.2.1 dL_isStrip_249 rfl (lv_at hl 1 rfl) ?_
                        refine lv_iload hC.1 hC.2.1 dL_isStrip_250 (lv_at hl 5 rfl) ?_
                        refine lv_bipush (v := 23) hC.1 hC.2.1 dL_isStrip_252 (by decide +kernel) ?_
                        refine lv_iload hC.1 hC.2.1 dL_isStrip_254 (lv_at hl 0 rfl) ?_
                        refine lv_iadd hC.1 hC.2.1 dL_isStrip_256 ?_
                        refine runP (rV (B := fun U H => PW G (hdW G a b x) H) (As := [.int (nI d44), .int (23 + (((v 3) ((3 * d44) + 2)) - 1))]) (rest := []) hC mwX5_told (c_X5_told l G a b x (nI d44) (23 + (((v 3) ((3 * d44) + 2)) - 1)) (kpd (by have := h15.2; omega)) (by first | decide | exact sgn (c := 23) (by decide) (hk d44 (by have := h15.2; omega)) k208)) iwX5_told wd_409 ⟨rfl, rfl⟩ ⟨Nat.le_of_ble_eq_true rfl, Nat.le_of_ble_eq_true rfl⟩ (stb_h (fun H => PW G (hdW G a b x) H)) hKN hP (va_recv hKN.k hP (ci := 5) (q0 := 0) rfl rfl) rfl hl.1 rfl (Nat.le_of_ble_eq_true rfl) dL_isStrip_257 ⟨Nat.zero_le _, Nat.zero_le _⟩) ?_
                        refine lv_bipush (v := 124) hC.1 hC.2.1 dL_isStrip_260 (by decide +kernel) ?_
                        refine lv_icmp_ne (tgt := 296) hC.1 hC.2.1 dL_isStrip_262 (by decide) (fun k262 => ?_) (fun k262 => ?_)
                        · refine lv_iconst (v := 0) hC.1 hC.2.1 dL_isStrip_296 (by decide) ?_
                          have e_14 : tL_isStrip_118 x v d44 y3_118 = tL_isStrip_J297 x v d44 0 := by delta tL_isStrip_118; exact Eq.trans (if_neg k208) (Eq.trans (if_neg k228) (Eq.trans (if_neg k233) (Eq.trans (if_pos k246) (Eq.trans (if_neg k262) rfl))))
                          have hg : fL_isStrip x v = (Sum.elim (tL_isStrip_44 x v) (tL_isStrip_44 x v) (lpRs n44 d44 (bL_isStrip_44 x v) (tL_isStrip_J297 x v d44 0))) := by have e2 := congrArg (fun z => (Sum.elim (tL_isStrip_44 x v) (tL_isStrip_44 x v) (lpRs n44 d44 (bL_isStrip_44 x v) z))) e_14; exact hg.trans e2
                          exact J297 0 hg (by first | exact Or.inl rfl | exact Or.inr rfl) _ (lv_sub hl [1, 2, 3, 5] rfl)
                        · refine lv_aload_n hC.1 hC.2.1 dL_isStrip_265 rfl (lv_at hl 1 rfl) ?_
                          refine lv_iload hC.1 hC.2.1 dL_isStrip_266 (lv_at hl 5 rfl) ?_
                          refine lv_bipush (v := 24) hC.1 hC.2.1 dL_isStrip_268 (by decide +kernel) ?_
                          refine lv_iload hC.1 hC.2.1 dL_isStrip_270 (lv_at hl 0 rfl) ?_
                          refine lv_iadd hC.1 hC.2.1 dL_isStrip_272 ?_
                          refine runP (rV (B := fun U H => PW G (hdW G a b x) H) (As := [.int (nI d44), .int (24 + (((v 3) ((3 * d44) + 2)) - 1))]) (rest := []) hC mwX5_told (c_X5_told l G a b x (nI d44) (24 + (((v 3) ((3 * d44) + 2)) - 1)) (kpd (by have := h15.2; omega)) (by first | decide | exact sgn (c := 24) (by decide) (hk d44 (by have := h15.2; omega)) k208)) iwX5_told wd_409 ⟨rfl, rfl⟩ ⟨Nat.le_of_ble_eq_true rfl, Nat.le_of_ble_eq_true rfl⟩ (stb_h (fun H => PW G (hdW G a b x) H)) hKN hP (va_recv hKN.k hP (ci := 5) (q0 := 0) rfl rfl) rfl hl.1 rfl (Nat.le_of_ble_eq_true rfl) dL_isStrip_273 ⟨Nat.zero_le _, Nat.zero_le _⟩) ?_
                          refine lv_iconst (v := (-1)) hC.1 hC.2.1 dL_isStrip_276 (by decide) ?_
                          refine lv_icmp_ne (tgt := 296) hC.1 hC.2.1 dL_isStrip_277 (by decide) (fun k277 => ?_) (fun k277 => ?_)
                          · refine lv_iconst (v := 0) hC.1 hC.2.1 dL_isStrip_296 (by decide) ?_
                            have e_15 : tL_isStrip_118 x v d44 y3_118 = tL_isStrip_J297 x v d44 0 := by delta tL_isStrip_118; exact Eq.trans (if_neg k208) (Eq.trans (if_neg k228) (Eq.trans (if_neg k233) (Eq.trans (if_pos k246) (Eq.trans (if_pos k262) (Eq.trans (if_neg k277) rfl)))))
                            have hg : fL_isStrip x v = (Sum.elim (tL_isStrip_44 x v) (tL_isStrip_44 x v) (lpRs n44 d44 (bL_isStrip_44 x v) (tL_isStrip_J297 x v d44 0))) := by have e2 := congrArg (fun z => (Sum.elim (tL_isStrip_44 x v) (tL_isStrip_44 x v) (lpRs n44 d44 (bL_isStrip_44 x v) z))) e_15; exact hg.trans e2
                            exact J297 0 hg (by first | exact Or.inl rfl | exact Or.inr rfl) _ (lv_sub hl [1, 2, 3, 5] rfl)
                          · refine lv_aload_n hC.1 hC.2.1 dL_isStrip_280 rfl (lv_at hl 1 rfl) ?_
                            refine lv_iload hC.1 hC.2.1 dL_isStrip_281 (lv_at hl 5 rfl) ?_
                            refine lv_bipush (v := 99) hC.1 hC.2.1 dL_isStrip_283 (by decide +kernel) ?_
                            refine runP (rV (B := fun U H => PW G (hdW G a b x) H) (As := [.int (nI d44), .int 99]) (rest := []) hC mwX5_told (c_X5_told l G a b x (nI d44) 99 (kpd (by have := h15.2; omega)) (by decide)) iwX5_told wd_409 ⟨rfl, rfl⟩ ⟨Nat.le_of_ble_eq_true rfl, Nat.le_of_ble_eq_true rfl⟩ (stb_h (fun H => PW G (hdW G a b x) H)) hKN hP (va_recv hKN.k hP (ci := 5) (q0 := 0) rfl rfl) rfl hl.1 rfl (Nat.le_of_ble_eq_true rfl) dL_isStrip_285 ⟨Nat.zero_le _, Nat.zero_le _⟩) ?_
                            refine lv_iconst (v := (-1)) hC.1 hC.2.1 dL_isStrip_288 (by decide) ?_
                            refine lv_icmp_ne (tgt := 296) hC.1 hC.2.1 dL_isStrip_289 (by decide) (fun k289 => ?_) (fun k289 => ?_)
                            · refine lv_iconst (v := 0) hC.1 hC.2.1 dL_isStrip_296 (by decide) ?_
                              have e_16 : tL_isStrip_118 x v d44 y3_118 = tL_isStrip_J297 x v d44 0 := by delta tL_isStrip_118; exact Eq.trans (if_neg k208) (Eq.trans (if_neg k228) (Eq.trans (if_neg k233) (Eq.trans (if_pos k246) (Eq.trans (if_pos k262) (Eq.trans (if_pos k277) (Eq.trans (if_neg k289) rfl))))))
                              have hg : fL_isStrip x v = (Sum.elim (tL_isStrip_44 x v) (tL_isStrip_44 x v) (lpRs n44 d44 (bL_isStrip_44 x v) (tL_isStrip_J297 x v d44 0))) := by have e2 := congrArg (fun z => (Sum.elim (tL_isStrip_44 x v) (tL_isStrip_44 x v) (lpRs n44 d44 (bL_isStrip_44 x v) z))) e_16; exact hg.trans e2
                              exact J297 0 hg (by first | exact Or.inl rfl | exact Or.inr rfl) _ (lv_sub hl [1, 2, 3, 5] rfl)
                            · refine lv_iconst (v := 1) hC.1 hC.2.1 dL_isStrip_292 (by decide) ?_
                              refine lv_goto (tgt := 297) hC.1 hC.2.1 dL_isStrip_293 (by decide) ?_
                              have e_17 : tL_isStrip_118 x v d44 y3_118 = tL_isStrip_J297 x v d44 1 := by delta tL_isStrip_118; exact Eq.trans (if_neg k208) (Eq.trans (if_neg k228) (Eq.trans (if_neg k233) (Eq.trans (if_pos k246) (Eq.trans (if_pos k262) (Eq.trans (if_pos k277) (Eq.trans (if_pos k289) rfl))))))
                              have hg : fL_isStrip x v = (Sum.elim (tL_isStrip_44 x v) (tL_isStrip_44 x v) (lpRs n44 d44 (bL_isStrip_44 x v) (tL_isStrip_J297 x v d44 1))) := by have e2 := congrArg (fun z => (Sum.elim (tL_isStrip_44 x v) (tL_isStrip_44 x v) (lpRs n44 d44 (bL_isStrip_44 x v) z))) e_17; exact hg.trans e2
                              exact J297 1 hg (by first | exact Or.inl rfl | exact Or.inr rfl) _ (lv_sub hl [1, 2, 3, 5] rfl)
              have L118 : ∀ (n118 d118 : Nat), ∀ (y3_118 : Int32), d118 + n118 = 24 → fL_isStrip x v = (Sum.elim (tL_isStrip_44 x v) (tL_isStrip_44 x v) (lpRs n44 d44 (bL_isStrip_44 x v) (tL_isStrip_118 x v d44 (lpF n118 d118 (bL_isStrip_118 x v d44) y3_118)))) → (y3_118 = 0 ∨ y3_118 = 1) → ∀ (ls : Array Slot), lv_has ls 7 [(0, .ref (a 0)), (1, .ref (q 3)), (2, .ref (q 4)), (3, .int y3_118), (4, .int (nI d44)), (5, .int (nI d118))] → W p l e ({ frames := 4, cells := 0, slots := 0, locals := 89 }) s m ([.ref (a 0), .ref (q 3), .ref (q 4)] : List Value).toArray below meth c s.heap [] 0 0 (MQ below (QP (.int (fL_isStrip x v))) ([.ref (a 0), .ref (q 3), .ref (q 4)] : List Value).toArray s 0 0 (fun _ => False)) (F0 m 118 ls []) := by
                intro n118
                induction n118 with
                | zero =>
                  intro d118 y3_118 hd hg hI ls hl
                  refine lv_iload hC.1 hC.2.1 dL_isStrip_118 (lv_at hl 5 rfl) ?_
                  refine lv_bipush (v := 24) hC.1 hC.2.1 dL_isStrip_120 (by decide +kernel) ?_
                  refine lv_icmp_ge (tgt := 200) hC.1 hC.2.1 dL_isStrip_122 (by decide) (fun k122 => ?_) (fun k122 => ?_)
                  · exact A118  y3_118 hg hI _ (lv_sub hl [0, 1, 2, 3, 4] rfl)
                  · exact absurd (nI_le (a := 24) (b := d118) (by omega) (by omega)) k122
                | succ n118 ih =>
                  intro d118 y3_118 hd hg hI ls hl
                  have hg : fL_isStrip x v = (Sum.elim (tL_isStrip_44 x v) (tL_isStrip_44 x v) (lpRs n44 d44 (bL_isStrip_44 x v) (tL_isStrip_118 x v d44 (lpF n118 (d118 + 1) (bL_isStrip_118 x v d44) (bL_isStrip_118 x v d44 d118 y3_118))))) := hg
                  refine lv_iload hC.1 hC.2.1 dL_isStrip_118 (lv_at hl 5 rfl) ?_
                  refine lv_bipush (v := 24) hC.1 hC.2.1 dL_isStrip_120 (by decide +kernel) ?_
                  refine lv_icmp_ge (tgt := 200) hC.1 hC.2.1 dL_isStrip_122 (by decide) (fun k122 => ?_) (fun k122 => ?_)
                  · exact absurd k122 (nI_ge (a := d118) (b := 24) (by omega) (by omega))
                  · refine lv_aload_n hC.1 hC.2.1 dL_isStrip_125 rfl (lv_at hl 1 rfl) ?_
                    refine lv_iconst (v := 3) hC.1 hC.2.1 dL_isStrip_126 (by decide) ?_
                    refine lv_iload hC.1 hC.2.1 dL_isStrip_127 (lv_at hl 4 rfl) ?_
                    refine lv_imul hC.1 hC.2.1 dL_isStrip_129 ?_
                    refine iald_k hC hKN hP2 3 rfl (n := 36) (f := (v 3)) (3 * d44) (nE_mul (rfl) (rfl)) (by have := h15.2; omega) (by first | decide | omega) dL_isStrip_130 ?_
                    refine lv_iload hC.1 hC.2.1 dL_isStrip_131 (lv_at hl 5 rfl) ?_
                    refine lv_ishr hC.1 hC.2.1 dL_isStrip_133 ?_
                    refine lv_iconst (v := 1) hC.1 hC.2.1 dL_isStrip_134 (by decide) ?_
                    refine lv_iand hC.1 hC.2.1 dL_isStrip_135 ?_
                    refine lv_iconst (v := 1) hC.1 hC.2.1 dL_isStrip_136 (by decide) ?_
                    have J169 : ∀ (y3_169 : Int32) (z0_169 : Int32), fL_isStrip x v = (Sum.elim (tL_isStrip_44 x v) (tL_isStrip_44 x v) (lpRs n44 d44 (bL_isStrip_44 x v) (tL_isStrip_118 x v d44 (lpF n118 (d118 + 1) (bL_isStrip_118 x v d44) (tL_isStrip_J169 x v d44 d118 y3_169 z0_169))))) → (y3_169 = 0 ∨ y3_169 = 1) → ∀ (ls : Array Slot), lv_has ls 7 [(0, .ref (a 0)), (1, .ref (q 3)), (2, .ref (q 4)), (3, .int y3_169), (4, .int (nI d44)), (5, .int (nI d118))] → W p l e ({ frames := 4, cells := 0, slots := 0, locals := 89 }) s m ([.ref (a 0), .ref (q 3), .ref (q 4)] : List Value).toArray below meth c s.heap [] 0 0 (MQ below (QP (.int (fL_isStrip x v))) ([.ref (a 0), .ref (q 3), .ref (q 4)] : List Value).toArray s 0 0 (fun _ => False)) (F0 m 169 ls [.int z0_169]) := by
                      intro y3_169 z0_169 hg hI ls hl
                      refine lv_istore (lv' := [(6, .int z0_169), (0, .ref (a 0)), (1, .ref (q 3)), (2, .ref (q 4)), (3, .int y3_169), (4, .int (nI d44)), (5, .int (nI d118))]) hC.1 hC.2.1 dL_isStrip_169 hl (by decide) rfl (fun ls hl => ?_)
                      refine lv_iload_n hC.1 hC.2.1 dL_isStrip_171 rfl (lv_at hl 4 rfl) ?_
                      have J193 : ∀ (z0_193 : Int32), fL_isStrip x v = (Sum.elim (tL_isStrip_44 x v) (tL_isStrip_44 x v) (lpRs n44 d44 (bL_isStrip_44 x v) (tL_isStrip_118 x v d44 (lpF n118 (d118 + 1) (bL_isStrip_118 x v d44) (tL_isStrip_J193 x v d44 d118 z0_193))))) → (z0_193 = 0 ∨ z0_193 = 1) → ∀ (ls : Array Slot), lv_has ls 7 [(0, .ref (a 0)), (1, .ref (q 3)), (2, .ref (q 4)), (4, .int (nI d44)), (5, .int (nI d118))] → W p l e ({ frames := 4, cells := 0, slots := 0, locals := 89 }) s m ([.ref (a 0), .ref (q 3), .ref (q 4)] : List Value).toArray below meth c s.heap [] 0 0 (MQ below (QP (.int (fL_isStrip x v))) ([.ref (a 0), .ref (q 3), .ref (q 4)] : List Value).toArray s 0 0 (fun _ => False)) (F0 m 193 ls [.int z0_193]) := by
                        intro z0_193 hg hI ls hl
                        refine lv_istore_n (lv' := [(3, .int z0_193), (0, .ref (a 0)), (1, .ref (q 3)), (2, .ref (q 4)), (4, .int (nI d44)), (5, .int (nI d118))]) hC.1 hC.2.1 dL_isStrip_193 rfl hl (by decide) rfl (fun ls hl => ?_)
                        refine lv_iinc (v := nI (d118 + 1)) (lv' := [(5, .int (nI (d118 + 1))), (3, .int z0_193), (0, .ref (a 0)), (1, .ref (q 3)), (2, .ref (q 4)), (4, .int (nI d44))]) hC.1 hC.2.1 dL_isStrip_194 hl (k := 5) rfl (nI_1 _) (by decide) rfl (fun ls hl => ?_)
                        refine lv_goto (tgt := 118) hC.1 hC.2.1 dL_isStrip_197 (by decide) ?_
                        have e_18 : tL_isStrip_J193 x v d44 d118 z0_193 = z0_193 := by delta tL_isStrip_J193; exact rfl
                        have hg : fL_isStrip x v = (Sum.elim (tL_isStrip_44 x v) (tL_isStrip_44 x v) (lpRs n44 d44 (bL_isStrip_44 x v) (tL_isStrip_118 x v d44 (lpF n118 (d118 + 1) (bL_isStrip_118 x v d44) z0_193)))) := by have e2 := congrArg (fun z => (Sum.elim (tL_isStrip_44 x v) (tL_isStrip_44 x v) (lpRs n44 d44 (bL_isStrip_44 x v) (tL_isStrip_118 x v d44 (lpF n118 (d118 + 1) (bL_isStrip_118 x v d44) z))))) e_18; exact hg.trans e2
                        exact ih (d118 + 1) z0_193 (by omega) hg hI _ (lv_sub hl [2, 3, 4, 1, 5, 0] rfl)
                      refine lv_if_eq (tgt := 192) hC.1 hC.2.1 dL_isStrip_172 (by decide) (fun k172 => ?_) (fun k172 => ?_)
                      · refine lv_iconst (v := 0) hC.1 hC.2.1 dL_isStrip_192 (by decide) ?_
                        have e_19 : tL_isStrip_J169 x v d44 d118 y3_169 z0_169 = tL_isStrip_J193 x v d44 d118 0 := by delta tL_isStrip_J169; exact Eq.trans (if_pos k172) rfl
                        have hg : fL_isStrip x v = (Sum.elim (tL_isStrip_44 x v) (tL_isStrip_44 x v) (lpRs n44 d44 (bL_isStrip_44 x v) (tL_isStrip_118 x v d44 (lpF n118 (d118 + 1) (bL_isStrip_118 x v d44) (tL_isStrip_J193 x v d44 d118 0))))) := by have e2 := congrArg (fun z => (Sum.elim (tL_isStrip_44 x v) (tL_isStrip_44 x v) (lpRs n44 d44 (bL_isStrip_44 x v) (tL_isStrip_118 x v d44 (lpF n118 (d118 + 1) (bL_isStrip_118 x v d44) z))))) e_19; exact hg.trans e2
                        exact J193 0 hg (by first | exact Or.inl rfl | exact Or.inr rfl) _ (lv_sub hl [1, 2, 3, 5, 6] rfl)
                      · refine lv_aload_n hC.1 hC.2.1 dL_isStrip_175 rfl (lv_at hl 1 rfl) ?_
                        refine lv_iload hC.1 hC.2.1 dL_isStrip_176 (lv_at hl 5 rfl) ?_
                        refine lv_iload hC.1 hC.2.1 dL_isStrip_178 (lv_at hl 6 rfl) ?_
                        refine runP (rV (B := fun U H => PW G (hdW G a b x) H) (As := [.int (nI d44), .int (nI d118)]) (rest := []) hC mwX5_told (c_X5_told l G a b x (nI d44) (nI d118) (kpd (by have := h15.2; omega)) (nI_nn (by omega))) iwX5_told wd_409 ⟨rfl, rfl⟩ ⟨Nat.le_of_ble_eq_true rfl, Nat.le_of_ble_eq_true rfl⟩ (stb_h (fun H => PW G (hdW G a b x) H)) hKN hP (va_recv hKN.k hP (ci := 5) (q0 := 0) rfl rfl) rfl hl.1 rfl (Nat.le_of_ble_eq_true rfl) dL_isStrip_180 ⟨Nat.zero_le _, Nat.zero_le _⟩) ?_
                        refine lv_iload hC.1 hC.2.1 dL_isStrip_183 (lv_at hl 0 rfl) ?_
                        refine lv_icmp_ne (tgt := 192) hC.1 hC.2.1 dL_isStrip_185 (by decide) (fun k185 => ?_) (fun k185 => ?_)
                        · refine lv_iconst (v := 0) hC.1 hC.2.1 dL_isStrip_192 (by decide) ?_
                          have e_20 : tL_isStrip_J169 x v d44 d118 y3_169 z0_169 = tL_isStrip_J193 x v d44 d118 0 := by delta tL_isStrip_J169; exact Eq.trans (if_neg k172) (Eq.trans (if_neg k185) rfl)
                          have hg : fL_isStrip x v = (Sum.elim (tL_isStrip_44 x v) (tL_isStrip_44 x v) (lpRs n44 d44 (bL_isStrip_44 x v) (tL_isStrip_118 x v d44 (lpF n118 (d118 + 1) (bL_isStrip_118 x v d44) (tL_isStrip_J193 x v d44 d118 0))))) := by have e2 := congrArg (fun z => (Sum.elim (tL_isStrip_44 x v) (tL_isStrip_44 x v) (lpRs n44 d44 (bL_isStrip_44 x v) (tL_isStrip_118 x v d44 (lpF n118 (d118 + 1) (bL_isStrip_118 x v d44) z))))) e_20; exact hg.trans e2
                          exact J193 0 hg (by first | exact Or.inl rfl | exact Or.inr rfl) _ (lv_sub hl [1, 2, 3, 5, 6] rfl)
                        · refine lv_iconst (v := 1) hC.1 hC.2.1 dL_isStrip_188 (by decide) ?_
                          refine lv_goto (tgt := 193) hC.1 hC.2.1 dL_isStrip_189 (by decide) ?_
                          have e_21 : tL_isStrip_J169 x v d44 d118 y3_169 z0_169 = tL_isStrip_J193 x v d44 d118 1 := by delta tL_isStrip_J169; exact Eq.trans (if_neg k172) (Eq.trans (if_pos k185) rfl)
                          have hg : fL_isStrip x v = (Sum.elim (tL_isStrip_44 x v) (tL_isStrip_44 x v) (lpRs n44 d44 (bL_isStrip_44 x v) (tL_isStrip_118 x v d44 (lpF n118 (d118 + 1) (bL_isStrip_118 x v d44) (tL_isStrip_J193 x v d44 d118 1))))) := by have e2 := congrArg (fun z => (Sum.elim (tL_isStrip_44 x v) (tL_isStrip_44 x v) (lpRs n44 d44 (bL_isStrip_44 x v) (tL_isStrip_118 x v d44 (lpF n118 (d118 + 1) (bL_isStrip_118 x v d44) z))))) e_21; exact hg.trans e2
                          exact J193 1 hg (by first | exact Or.inl rfl | exact Or.inr rfl) _ (lv_sub hl [1, 2, 3, 5, 6] rfl)
                    refine lv_icmp_ne (tgt := 145) hC.1 hC.2.1 dL_isStrip_137 (by decide) (fun k137 => ?_) (fun k137 => ?_)
                    · refine lv_aload_n hC.1 hC.2.1 dL_isStrip_145 rfl (lv_at hl 1 rfl) ?_
                      refine lv_iconst (v := 3) hC.1 hC.2.1 dL_isStrip_146 (by decide) ?_
                      refine lv_iload hC.1 hC.2.1 dL_isStrip_147 (lv_at hl 4 rfl) ?_
                      refine lv_imul hC.1 hC.2.1 dL_isStrip_149 ?_
                      refine lv_iconst (v := 1) hC.1 hC.2.1 dL_isStrip_150 (by decide) ?_
                      refine lv_iadd hC.1 hC.2.1 dL_isStrip_151 ?_
                      refine iald_k hC hKN hP2 3 rfl (n := 36) (f := (v 3)) ((3 * d44) + 1) (nE_add (nE_mul (rfl) (rfl)) (rfl)) (by have := h15.2; omega) (by first | decide | omega) dL_isStrip_152 ?_
                      refine lv_iload hC.1 hC.2.1 dL_isStrip_153 (lv_at hl 5 rfl) ?_
                      refine lv_ishr hC.1 hC.2.1 dL_isStrip_155 ?_
                      refine lv_iconst (v := 1) hC.1 hC.2.1 dL_isStrip_156 (by decide) ?_
                      refine lv_iand hC.1 hC.2.1 dL_isStrip_157 ?_
                      refine lv_iconst (v := 1) hC.1 hC.2.1 dL_isStrip_158 (by decide) ?_
                      refine lv_icmp_ne (tgt := 167) hC.1 hC.2.1 dL_isStrip_159 (by decide) (fun k159 => ?_) (fun k159 => ?_)
                      · refine lv_bipush (v := 46) hC.1 hC.2.1 dL_isStrip_167 (by decide +kernel) ?_
                        have e_22 : bL_isStrip_118 x v d44 d118 y3_118 = tL_isStrip_J169 x v d44 d118 y3_118 46 := by delta bL_isStrip_118; exact Eq.trans (if_neg k137) (Eq.trans (if_neg k159) rfl)
                        have hg : fL_isStrip x v = (Sum.elim (tL_isStrip_44 x v) (tL_isStrip_44 x v) (lpRs n44 d44 (bL_isStrip_44 x v) (tL_isStrip_118 x v d44 (lpF n118 (d118 + 1) (bL_isStrip_118 x v d44) (tL_isStrip_J169 x v d44 d118 y3_118 46))))) := by have e2 := congrArg (fun z => (Sum.elim (tL_isStrip_44 x v) (tL_isStrip_44 x v) (lpRs n44 d44 (bL_isStrip_44 x v) (tL_isStrip_118 x v d44 (lpF n118 (d118 + 1) (bL_isStrip_118 x v d44) z))))) e_22; exact hg.trans e2
                        exact J169 y3_118 46 hg hI _ (lv_sub hl [0, 1, 2, 3, 4, 5] rfl)
                      · refine lv_bipush (v := 43) hC.1 hC.2.1 dL_isStrip_162 (by decide +kernel) ?_
                        refine lv_goto (tgt := 169) hC.1 hC.2.1 dL_isStrip_164 (by decide) ?_
                        have e_23 : bL_isStrip_118 x v d44 d118 y3_118 = tL_isStrip_J169 x v d44 d118 y3_118 43 := by delta bL_isStrip_118; exact Eq.trans (if_neg k137) (Eq.trans (if_pos k159) rfl)
                        have hg : fL_isStrip x v = (Sum.elim (tL_isStrip_44 x v) (tL_isStrip_44 x v) (lpRs n44 d44 (bL_isStrip_44 x v) (tL_isStrip_118 x v d44 (lpF n118 (d118 + 1) (bL_isStrip_118 x v d44) (tL_isStrip_J169 x v d44 d118 y3_118 43))))) := by have e2 := congrArg (fun z => (Sum.elim (tL_isStrip_44 x v) (tL_isStrip_44 x v) (lpRs n44 d44 (bL_isStrip_44 x v) (tL_isStrip_118 x v d44 (lpF n118 (d118 + 1) (bL_isStrip_118 x v d44) z))))) e_23; exact hg.trans e2
                        exact J169 y3_118 43 hg hI _ (lv_sub hl [0, 1, 2, 3, 4, 5] rfl)
                    · refine lv_bipush (v := 35) hC.1 hC.2.1 dL_isStrip_140 (by decide +kernel) ?_
                      refine lv_goto (tgt := 169) hC.1 hC.2.1 dL_isStrip_142 (by decide) ?_
                      have e_24 : bL_isStrip_118 x v d44 d118 y3_118 = tL_isStrip_J169 x v d44 d118 y3_118 35 := by delta bL_isStrip_118; exact Eq.trans (if_pos k137) rfl
                      have hg : fL_isStrip x v = (Sum.elim (tL_isStrip_44 x v) (tL_isStrip_44 x v) (lpRs n44 d44 (bL_isStrip_44 x v) (tL_isStrip_118 x v d44 (lpF n118 (d118 + 1) (bL_isStrip_118 x v d44) (tL_isStrip_J169 x v d44 d118 y3_118 35))))) := by have e2 := congrArg (fun z => (Sum.elim (tL_isStrip_44 x v) (tL_isStrip_44 x v) (lpRs n44 d44 (bL_isStrip_44 x v) (tL_isStrip_118 x v d44 (lpF n118 (d118 + 1) (bL_isStrip_118 x v d44) z))))) e_24; exact hg.trans e2
                      exact J169 y3_118 35 hg hI _ (lv_sub hl [0, 1, 2, 3, 4, 5] rfl)
              have e_25 : tL_isStrip_J114 x v d44 z0_114 = tL_isStrip_118 x v d44 (lpF 24 0 (bL_isStrip_118 x v d44) z0_114) := by delta tL_isStrip_J114; exact rfl
              have hg : fL_isStrip x v = (Sum.elim (tL_isStrip_44 x v) (tL_isStrip_44 x v) (lpRs n44 d44 (bL_isStrip_44 x v) (tL_isStrip_118 x v d44 (lpF 24 0 (bL_isStrip_118 x v d44) z0_114)))) := by have e2 := congrArg (fun z => (Sum.elim (tL_isStrip_44 x v) (tL_isStrip_44 x v) (lpRs n44 d44 (bL_isStrip_44 x v) z))) e_25; exact hg.trans e2
              exact L118  24 0 z0_114 (by omega) hg hI _ (lv_sub hl [2, 3, 4, 1, 5, 0] rfl)
            refine lv_icmp_ne (tgt := 113) hC.1 hC.2.1 dL_isStrip_70 (by decide) (fun k70 => ?_) (fun k70 => ?_)
            · refine lv_iconst (v := 0) hC.1 hC.2.1 dL_isStrip_113 (by decide) ?_
              have e_26 : bL_isStrip_44 x v d44 y3_44 = tL_isStrip_J114 x v d44 0 := by delta bL_isStrip_44; exact Eq.trans (if_neg k54) (Eq.trans (if_neg k70) rfl)
              have hg : fL_isStrip x v = (Sum.elim (tL_isStrip_44 x v) (tL_isStrip_44 x v) (lpRs n44 d44 (bL_isStrip_44 x v) (tL_isStrip_J114 x v d44 0))) := by have e2 := congrArg (fun z => (Sum.elim (tL_isStrip_44 x v) (tL_isStrip_44 x v) (lpRs n44 d44 (bL_isStrip_44 x v) z))) e_26; exact hg.trans e2
              exact J114 0 hg (by first | exact Or.inl rfl | exact Or.inr rfl) _ (lv_sub hl [0, 1, 2, 4] rfl)
            · refine lv_aload_n hC.1 hC.2.1 dL_isStrip_73 rfl (lv_at hl 0 rfl) ?_
              refine lv_iload hC.1 hC.2.1 dL_isStrip_74 (lv_at hl 4 rfl) ?_
              refine lv_iconst (v := 1) hC.1 hC.2.1 dL_isStrip_76 (by decide) ?_
              refine runP (rV (B := fun U H => PW G (hdW G a b x) H) (As := [.int (nI d44), .int 1]) (rest := []) hC mwX5_kept (c_X5_kept l G a b x (nI d44) 1 (kpd (by have := h15.2; omega)) (by decide +kernel)) iwX5_kept wd_399 ⟨rfl, rfl⟩ ⟨Nat.le_of_ble_eq_true rfl, Nat.le_of_ble_eq_true rfl⟩ (stb_h (fun H => PW G (hdW G a b x) H)) hKN hP (va_recv hKN.k hP (ci := 5) (q0 := 0) rfl rfl) rfl hl.1 rfl (Nat.le_of_ble_eq_true rfl) dL_isStrip_77 ⟨Nat.zero_le _, Nat.zero_le _⟩) ?_
              refine lv_aload_n hC.1 hC.2.1 dL_isStrip_80 rfl (lv_at hl 1 rfl) ?_
              refine lv_iconst (v := 3) hC.1 hC.2.1 dL_isStrip_81 (by decide) ?_
              refine lv_iload hC.1 hC.2.1 dL_isStrip_82 (lv_at hl 4 rfl) ?_
              refine lv_imul hC.1 hC.2.1 dL_isStrip_84 ?_
              refine lv_iconst (v := 1) hC.1 hC.2.1 dL_isStrip_85 (by decide) ?_
              refine lv_iadd hC.1 hC.2.1 dL_isStrip_86 ?_
              refine iald_k hC hKN hP2 3 rfl (n := 36) (f := (v 3)) ((3 * d44) + 1) (nE_add (nE_mul (rfl) (rfl)) (rfl)) (by have := h15.2; omega) (by first | decide | omega) dL_isStrip_87 ?_
              refine lv_icmp_ne (tgt := 113) hC.1 hC.2.1 dL_isStrip_88 (by decide) (fun k88 => ?_) (fun k88 => ?_)
              · refine lv_iconst (v := 0) hC.1 hC.2.1 dL_isStrip_113 (by decide) ?_
                have e_27 : bL_isStrip_44 x v d44 y3_44 = tL_isStrip_J114 x v d44 0 := by delta bL_isStrip_44; exact Eq.trans (if_neg k54) (Eq.trans (if_pos k70) (Eq.trans (if_neg k88) rfl))
                have hg : fL_isStrip x v = (Sum.elim (tL_isStrip_44 x v) (tL_isStrip_44 x v) (lpRs n44 d44 (bL_isStrip_44 x v) (tL_isStrip_J114 x v d44 0))) := by have e2 := congrArg (fun z => (Sum.elim (tL_isStrip_44 x v) (tL_isStrip_44 x v) (lpRs n44 d44 (bL_isStrip_44 x v) z))) e_27; exact hg.trans e2
                exact J114 0 hg (by first | exact Or.inl rfl | exact Or.inr rfl) _ (lv_sub hl [0, 1, 2, 4] rfl)
              · refine lv_aload_n hC.1 hC.2.1 dL_isStrip_91 rfl (lv_at hl 0 rfl) ?_
                refine lv_iload hC.1 hC.2.1 dL_isStrip_92 (lv_at hl 4 rfl) ?_
                refine lv_iconst (v := 2) hC.1 hC.2.1 dL_isStrip_94 (by decide) ?_
                refine runP (rV (B := fun U H => PW G (hdW G a b x) H) (As := [.int (nI d44), .int 2]) (rest := []) hC mwX5_kept (c_X5_kept l G a b x (nI d44) 2 (kpd (by have := h15.2; omega)) (by decide +kernel)) iwX5_kept wd_399 ⟨rfl, rfl⟩ ⟨Nat.le_of_ble_eq_true rfl, Nat.le_of_ble_eq_true rfl⟩ (stb_h (fun H => PW G (hdW G a b x) H)) hKN hP (va_recv hKN.k hP (ci := 5) (q0 := 0) rfl rfl) rfl hl.1 rfl (Nat.le_of_ble_eq_true rfl) dL_isStrip_95 ⟨Nat.zero_le _, Nat.zero_le _⟩) ?_
                refine lv_aload_n hC.1 hC.2.1 dL_isStrip_98 rfl (lv_at hl 1 rfl) ?_
                refine lv_iconst (v := 3) hC.1 hC.2.1 dL_isStrip_99 (by decide) ?_
                refine lv_iload hC.1 hC.2.1 dL_isStrip_100 (lv_at hl 4 rfl) ?_
                refine lv_imul hC.1 hC.2.1 dL_isStrip_102 ?_
                refine lv_iconst (v := 2) hC.1 hC.2.1 dL_isStrip_103 (by decide) ?_
                refine lv_iadd hC.1 hC.2.1 dL_isStrip_104 ?_
                refine iald_k hC hKN hP2 3 rfl (n := 36) (f := (v 3)) ((3 * d44) + 2) (nE_add (nE_mul (rfl) (rfl)) (rfl)) (by have := h15.2; omega) (by first | decide | omega) dL_isStrip_105 ?_
                refine lv_icmp_ne (tgt := 113) hC.1 hC.2.1 dL_isStrip_106 (by decide) (fun k106 => ?_) (fun k106 => ?_)
                · refine lv_iconst (v := 0) hC.1 hC.2.1 dL_isStrip_113 (by decide) ?_
                  have e_28 : bL_isStrip_44 x v d44 y3_44 = tL_isStrip_J114 x v d44 0 := by delta bL_isStrip_44; exact Eq.trans (if_neg k54) (Eq.trans (if_pos k70) (Eq.trans (if_pos k88) (Eq.trans (if_neg k106) rfl)))
                  have hg : fL_isStrip x v = (Sum.elim (tL_isStrip_44 x v) (tL_isStrip_44 x v) (lpRs n44 d44 (bL_isStrip_44 x v) (tL_isStrip_J114 x v d44 0))) := by have e2 := congrArg (fun z => (Sum.elim (tL_isStrip_44 x v) (tL_isStrip_44 x v) (lpRs n44 d44 (bL_isStrip_44 x v) z))) e_28; exact hg.trans e2
                  exact J114 0 hg (by first | exact Or.inl rfl | exact Or.inr rfl) _ (lv_sub hl [0, 1, 2, 4] rfl)
                · refine lv_iconst (v := 1) hC.1 hC.2.1 dL_isStrip_109 (by decide) ?_
                  refine lv_goto (tgt := 114) hC.1 hC.2.1 dL_isStrip_110 (by decide) ?_
                  have e_29 : bL_isStrip_44 x v d44 y3_44 = tL_isStrip_J114 x v d44 1 := by delta bL_isStrip_44; exact Eq.trans (if_neg k54) (Eq.trans (if_pos k70) (Eq.trans (if_pos k88) (Eq.trans (if_pos k106) rfl)))
                  have hg : fL_isStrip x v = (Sum.elim (tL_isStrip_44 x v) (tL_isStrip_44 x v) (lpRs n44 d44 (bL_isStrip_44 x v) (tL_isStrip_J114 x v d44 1))) := by have e2 := congrArg (fun z => (Sum.elim (tL_isStrip_44 x v) (tL_isStrip_44 x v) (lpRs n44 d44 (bL_isStrip_44 x v) z))) e_29; exact hg.trans e2
                  exact J114 1 hg (by first | exact Or.inl rfl | exact Or.inr rfl) _ (lv_sub hl [0, 1, 2, 4] rfl)
    have e_30 : tL_isStrip_J40 x v z0_40 = Sum.elim (tL_isStrip_44 x v) (tL_isStrip_44 x v) (lpR ((v 4 15).toNatClampNeg) 0 (bL_isStrip_44 x v) z0_40) := by delta tL_isStrip_J40; exact rfl
    have hg : fL_isStrip x v = (Sum.elim (tL_isStrip_44 x v) (tL_isStrip_44 x v) (lpR ((v 4 15).toNatClampNeg) 0 (bL_isStrip_44 x v) z0_40)) := by have e2 := congrArg (fun z => z) e_30; exact hg.trans e2
    exact L44  ((v 4 15).toNatClampNeg) 0 z0_40 (by omega) hg hI _ (lv_sub hl [2, 3, 4, 1, 0] rfl)
  refine lv_icmp_eq (tgt := 35) hC.1 hC.2.1 dL_isStrip_6 (by decide) (fun k6 => ?_) (fun k6 => ?_)
  · refine lv_iconst (v := 1) hC.1 hC.2.1 dL_isStrip_35 (by decide) ?_
    refine lv_goto (tgt := 40) hC.1 hC.2.1 dL_isStrip_36 (by decide) ?_
    have e_31 : fL_isStrip x v = tL_isStrip_J40 x v 1 := by delta fL_isStrip; exact Eq.trans (if_pos k6) rfl
    have hg : fL_isStrip x v = tL_isStrip_J40 x v 1 := by have e2 := congrArg (fun z => z) e_31; exact hg.trans e2
    exact J40 1 hg (by first | exact Or.inl rfl | exact Or.inr rfl) _ (lv_sub hl [0, 1, 2] rfl)
  · refine lv_aload_n hC.1 hC.2.1 dL_isStrip_9 rfl (lv_at hl 0 rfl) ?_
    refine lv_aload_n hC.1 hC.2.1 dL_isStrip_10 rfl (lv_at hl 2 rfl) ?_
    refine lv_bipush (v := 15) hC.1 hC.2.1 dL_isStrip_11 (by decide +kernel) ?_
    refine iald_k hC hKN hP2 4 rfl (n := 21) (f := (v 4)) 15 (rfl) (by omega) (by first | decide | omega) dL_isStrip_13 ?_
    refine lv_iconst (v := 0) hC.1 hC.2.1 dL_isStrip_14 (by decide) ?_
    refine runP (rV (B := fun U H => PW G (hdW G a b x) H) (As := [.int ((v 4) 15), .int 0]) (rest := []) hC mwX5_kept (c_X5_kept l G a b x ((v 4) 15) 0 (kp15 h15 k6) (by decide +kernel)) iwX5_kept wd_399 ⟨rfl, rfl⟩ ⟨Nat.le_of_ble_eq_true rfl, Nat.le_of_ble_eq_true rfl⟩ (stb_h (fun H => PW G (hdW G a b x) H)) hKN hP (va_recv hKN.k hP (ci := 5) (q0 := 0) rfl rfl) rfl hl.1 rfl (Nat.le_of_ble_eq_true rfl) dL_isStrip_15 ⟨Nat.zero_le _, Nat.zero_le _⟩) ?_
    refine lv_iconst (v := (-1)) hC.1 hC.2.1 dL_isStrip_18 (by decide) ?_
    refine lv_icmp_ne (tgt := 39) hC.1 hC.2.1 dL_isStrip_19 (by decide) (fun k19 => ?_) (fun k19 => ?_)
    · refine lv_iconst (v := 0) hC.1 hC.2.1 dL_isStrip_39 (by decide) ?_
      have e_32 : fL_isStrip x v = tL_isStrip_J40 x v 0 := by delta fL_isStrip; exact Eq.trans (if_neg k6) (Eq.trans (if_neg k19) rfl)
      have hg : fL_isStrip x v = tL_isStrip_J40 x v 0 := by have e2 := congrArg (fun z => z) e_32; exact hg.trans e2
      exact J40 0 hg (by first | exact Or.inl rfl | exact Or.inr rfl) _ (lv_sub hl [0, 1, 2] rfl)
    · refine lv_aload_n hC.1 hC.2.1 dL_isStrip_22 rfl (lv_at hl 0 rfl) ?_
      refine lv_aload_n hC.1 hC.2.1 dL_isStrip_23 rfl (lv_at hl 2 rfl) ?_
      refine lv_bipush (v := 15) hC.1 hC.2.1 dL_isStrip_24 (by decide +kernel) ?_
      refine iald_k hC hKN hP2 4 rfl (n := 21) (f := (v 4)) 15 (rfl) (by omega) (by first | decide | omega) dL_isStrip_26 ?_
      refine lv_iconst (v := 0) hC.1 hC.2.1 dL_isStrip_27 (by decide) ?_
      refine runP (rV (B := fun U H => PW G (hdW G a b x) H) (As := [.int ((v 4) 15), .int 0]) (rest := []) hC mwX5_told (c_X5_told l G a b x ((v 4) 15) 0 (kp15 h15 k6) (by decide)) iwX5_told wd_409 ⟨rfl, rfl⟩ ⟨Nat.le_of_ble_eq_true rfl, Nat.le_of_ble_eq_true rfl⟩ (stb_h (fun H => PW G (hdW G a b x) H)) hKN hP (va_recv hKN.k hP (ci := 5) (q0 := 0) rfl rfl) rfl hl.1 rfl (Nat.le_of_ble_eq_true rfl) dL_isStrip_28 ⟨Nat.zero_le _, Nat.zero_le _⟩) ?_
      refine lv_iconst (v := (-1)) hC.1 hC.2.1 dL_isStrip_31 (by decide) ?_
      refine lv_icmp_ne (tgt := 39) hC.1 hC.2.1 dL_isStrip_32 (by decide) (fun k32 => ?_) (fun k32 => ?_)
      · refine lv_iconst (v := 0) hC.1 hC.2.1 dL_isStrip_39 (by decide) ?_
        have e_33 : fL_isStrip x v = tL_isStrip_J40 x v 0 := by delta fL_isStrip; exact Eq.trans (if_neg k6) (Eq.trans (if_pos k19) (Eq.trans (if_neg k32) rfl))
        have hg : fL_isStrip x v = tL_isStrip_J40 x v 0 := by have e2 := congrArg (fun z => z) e_33; exact hg.trans e2
        exact J40 0 hg (by first | exact Or.inl rfl | exact Or.inr rfl) _ (lv_sub hl [0, 1, 2] rfl)
      · refine lv_iconst (v := 1) hC.1 hC.2.1 dL_isStrip_35 (by decide) ?_
        refine lv_goto (tgt := 40) hC.1 hC.2.1 dL_isStrip_36 (by decide) ?_
        have e_34 : fL_isStrip x v = tL_isStrip_J40 x v 1 := by delta fL_isStrip; exact Eq.trans (if_neg k6) (Eq.trans (if_pos k19) (Eq.trans (if_pos k32) rfl))
        have hg : fL_isStrip x v = tL_isStrip_J40 x v 1 := by have e2 := congrArg (fun z => z) e_34; exact hg.trans e2
        exact J40 1 hg (by first | exact Or.inl rfl | exact Or.inr rfl) _ (lv_sub hl [0, 1, 2] rfl)
