def tL_areDots_J470 (x : HV) (v : SV) (y8_470 : Int32) (z0_470 : UInt64) (z1_470 : UInt64) : Int32 := if (Op.cmpValue (FP.dcmp z0_470 z1_470) .l) = 0 then (if (Op.cmpValue (FP.fcmp (fX5_meanHeat x) (FP.fdiv (FP.i2f y8_470) 1103101952)) .l) = 0 then (1) else (0)) else (0)
def tL_areDots_400 (x : HV) (v : SV) (y5_400 : Int32) (y6_400 : Int32) (y8_400 : Int32) (s : Int32) : Int32 := let y9_400 := s; if y9_400 = 0 then (0) else (if y5_400 = 0 then (tL_areDots_J470 x v y8_400 (fX5_darkness x) FP.dconst1) else (tL_areDots_J470 x v y8_400 (fX5_darkness x) (FP.ddiv (FP.i2d (y5_400 - y6_400)) (FP.i2d y5_400))))
def tL_areDots_J434 (x : HV) (v : SV) (y5_400 : Int32) (y6_400 : Int32) (y8_400 : Int32) (d400 : Nat) (z0_434 : Int32) : Int32 := z0_434
def bL_areDots_400 (x : HV) (v : SV) (y5_400 : Int32) (y6_400 : Int32) (y8_400 : Int32) (d400 : Nat) (s : Int32) : Int32 := let y9_400 := s; if y9_400 = 0 then (tL_areDots_J434 x v y5_400 y6_400 y8_400 d400 0) else (if (fX5_count x (11 + (nI d400))) = ((v 4) d400) then (tL_areDots_J434 x v y5_400 y6_400 y8_400 d400 1) else (tL_areDots_J434 x v y5_400 y6_400 y8_400 d400 0))
def tL_areDots_J395 (x : HV) (v : SV) (y5_395 : Int32) (y6_395 : Int32) (y8_395 : Int32) (z0_395 : Int32) : Int32 := tL_areDots_400 x v y5_395 y6_395 y8_395 (lpF 7 0 (bL_areDots_400 x v y5_395 y6_395 y8_395) z0_395)
def tL_areDots_18 (x : HV) (v : SV) (s : Int32 × Int32 × Int32 × Int32 × Int32) : Int32 := let y5_18 := s.1; let y6_18 := s.2.1; let y7_18 := s.2.2.1; let y8_18 := s.2.2.2.1; let y9_18 := s.2.2.2.2; if y9_18 = 0 then (tL_areDots_J395 x v y5_18 y6_18 y8_18 0) else (if (fX5_count x 0) = ((v 4) 8) then (if (fX5_count x 1) = ((v 4) 9) then (if (fX5_count x 2) = ((v 4) 10) then (if (fX5_count x 3) = ((v 4) 11) then (if (fX5_count x 4) = y5_18 then (if (fX5_count x 5) = y5_18 then (if (fX5_count x 6) = y6_18 then (if (fX5_count x 7) = y7_18 then (if (fX5_count x 8) = ((v 4) 12) then (if (fX5_count x 9) = ((v 4) 7) then (if (fX5_count x 10) = ((v 4) 15) then (tL_areDots_J395 x v y5_18 y6_18 y8_18 1) else (tL_areDots_J395 x v y5_18 y6_18 y8_18 0)) else (tL_areDots_J395 x v y5_18 y6_18 y8_18 0)) else (tL_areDots_J395 x v y5_18 y6_18 y8_18 0)) else (tL_areDots_J395 x v y5_18 y6_18 y8_18 0)) else (tL_areDots_J395 x v y5_18 y6_18 y8_18 0)) else (tL_areDots_J395 x v y5_18 y6_18 y8_18 0)) else (tL_areDots_J395 x v y5_18 y6_18 y8_18 0)) else (tL_areDots_J395 x v y5_18 y6_18 y8_18 0)) else (tL_areDots_J395 x v y5_18 y6_18 y8_18 0)) else (tL_areDots_J395 x v y5_18 y6_18 y8_18 0)) else (tL_areDots_J395 x v y5_18 y6_18 y8_18 0))
def tL_areDots_J241 (x : HV) (v : SV) (d18 : Nat) (y5_241 : Int32) (y6_241 : Int32) (y8_241 : Int32) (y9_241 : Int32) (z0_241 : Int32) : (Int32 × Int32 × Int32 × Int32 × Int32) ⊕ (Int32 × Int32 × Int32 × Int32 × Int32) := Sum.inl (y5_241, y6_241, z0_241, y8_241, y9_241)
def tL_areDots_J194 (x : HV) (v : SV) (d18 : Nat) (y5_194 : Int32) (y6_194 : Int32) (y7_194 : Int32) (y8_194 : Int32) (z0_194 : Int32) : (Int32 × Int32 × Int32 × Int32 × Int32) ⊕ (Int32 × Int32 × Int32 × Int32 × Int32) := if ((v 0) d18) ≤ y7_194 then (tL_areDots_J241 x v d18 (y5_194 + ((v 1) d18)) (y6_194 + ((v 2) d18)) (y8_194 + ((v 0) d18)) z0_194 y7_194) else (tL_areDots_J241 x v d18 (y5_194 + ((v 1) d18)) (y6_194 + ((v 2) d18)) (y8_194 + ((v 0) d18)) z0_194 ((v 0) d18))
def tL_areDots_53 (x : HV) (v : SV) (d18 : Nat) (y5_53 : Int32) (y6_53 : Int32) (y7_53 : Int32) (y8_53 : Int32) (y11_53 : Int32) (s : Int32 × Int32) : (Int32 × Int32 × Int32 × Int32 × Int32) ⊕ (Int32 × Int32 × Int32 × Int32 × Int32) := let y12_53 := s.1; let y13_53 := s.2; if (fX5_dot x (nI d18) 0) = ((v 0) d18) then (if (fX5_dot x (nI d18) 1) = ((((v 4) 13) >>> ((nI d18) &&& 31)) &&& 1) then (if (fX5_dot x (nI d18) 2) = ((((v 4) 14) >>> ((nI d18) &&& 31)) &&& 1) then (if (fX5_dot x (nI d18) 3) = ((v 1) d18) then (if (fX5_dot x (nI d18) 4) = ((v 2) d18) then (if (fX5_dot x (nI d18) 5) = y11_53 then (if (fX5_dot x (nI d18) 6) = y12_53 then (tL_areDots_J194 x v d18 y5_53 y6_53 y7_53 y8_53 1) else (tL_areDots_J194 x v d18 y5_53 y6_53 y7_53 y8_53 0)) else (tL_areDots_J194 x v d18 y5_53 y6_53 y7_53 y8_53 0)) else (tL_areDots_J194 x v d18 y5_53 y6_53 y7_53 y8_53 0)) else (tL_areDots_J194 x v d18 y5_53 y6_53 y7_53 y8_53 0)) else (tL_areDots_J194 x v d18 y5_53 y6_53 y7_53 y8_53 0)) else (tL_areDots_J194 x v d18 y5_53 y6_53 y7_53 y8_53 0)) else (tL_areDots_J194 x v d18 y5_53 y6_53 y7_53 y8_53 0)
def bL_areDots_53 (x : HV) (v : SV) (d18 : Nat) (y5_53 : Int32) (y6_53 : Int32) (y7_53 : Int32) (y8_53 : Int32) (y11_53 : Int32) (s : Int32 × Int32) : Bool × (Int32 × Int32) := let y12_53 := s.1; let y13_53 := s.2; if (y13_53 + y11_53) ≤ ((v 4) 2) then ((false, (y12_53, y13_53))) else ((true, (y12_53 + 1, fL_less y13_53 ((v 4) 1))))
def bL_areDots_18 (x : HV) (v : SV) (d18 : Nat) (s : Int32 × Int32 × Int32 × Int32 × Int32) : (Int32 × Int32 × Int32 × Int32 × Int32) ⊕ (Int32 × Int32 × Int32 × Int32 × Int32) := let y5_18 := s.1; let y6_18 := s.2.1; let y7_18 := s.2.2.1; let y8_18 := s.2.2.2.1; let y9_18 := s.2.2.2.2; if y9_18 = 0 then (Sum.inr (y5_18, y6_18, y7_18, y8_18, y9_18)) else (tL_areDots_53 x v d18 y5_18 y6_18 y7_18 y8_18 (fL_pulse v 0 (nI d18) ((v 4) 0)) (lpB (mT + 1) (bL_areDots_53 x v d18 y5_18 y6_18 y7_18 y8_18 (fL_pulse v 0 (nI d18) ((v 4) 0))) (0, (v 0) d18)))
def fL_areDots (x : HV) (v : SV) : Int32 := Sum.elim (tL_areDots_18 x v) (tL_areDots_18 x v) (lpR 24 0 (bL_areDots_18 x v) (0, 0, 0, 0, 1))
theorem T_areDots_53 {x : HV} {v : SV} {d18 : Nat} {y5 y6 y7 y8 : Int32} (hI : Lgs v) (hd : d18 < 24) (s : Int32 × Int32) : lpT (mT + 1) (bL_areDots_53 x v d18 y5 y6 y7 y8 (fL_pulse v 0 (nI d18) (v 4 0))) s := by
  obtain ⟨n, h1, h2, h3⟩ := pulse_Lb hI 0 hd
  refine lpB_mT (fun s => s.2) (fun s h => ?_) (fun s => ?_) s
  · obtain ⟨a, b⟩ := s
    unfold bL_areDots_53
    dsimp only at h ⊢
    rw [h3, if_pos (wait_L hI h2 h)]
  · obtain ⟨a, b⟩ := s
    unfold bL_areDots_53
    dsimp only
    split
    · exact Or.inl rfl
    · exact Or.inr (less_bd hI b)
theorem dL_areDots_0 : decode cL_areDots 0 = .ok (.iconst 0, 1) := by decide +kernel
theorem dL_areDots_1 : decode cL_areDots 1 = .ok (.istore 5, 2) := by decide +kernel
theorem dL_areDots_3 : decode cL_areDots 3 = .ok (.iconst 0, 1) := by decide +kernel
theorem dL_areDots_4 : decode cL_areDots 4 = .ok (.istore 6, 2) := by decide +kernel
theorem dL_areDots_6 : decode cL_areDots 6 = .ok (.iconst 0, 1) := by decide +kernel
theorem dL_areDots_7 : decode cL_areDots 7 = .ok (.istore 7, 2) := by decide +kernel
theorem dL_areDots_9 : decode cL_areDots 9 = .ok (.iconst 0, 1) := by decide +kernel
theorem dL_areDots_10 : decode cL_areDots 10 = .ok (.istore 8, 2) := by decide +kernel
theorem dL_areDots_12 : decode cL_areDots 12 = .ok (.iconst 1, 1) := by decide +kernel
theorem dL_areDots_13 : decode cL_areDots 13 = .ok (.istore 9, 2) := by decide +kernel
theorem dL_areDots_15 : decode cL_areDots 15 = .ok (.iconst 0, 1) := by decide +kernel
theorem dL_areDots_16 : decode cL_areDots 16 = .ok (.istore 10, 2) := by decide +kernel
theorem dL_areDots_18 : decode cL_areDots 18 = .ok (.iload 10, 2) := by decide +kernel
theorem dL_areDots_20 : decode cL_areDots 20 = .ok (.bipush 24, 2) := by decide +kernel
theorem dL_areDots_22 : decode cL_areDots 22 = .ok (.if_icmp .ge 227, 3) := by decide +kernel
theorem dL_areDots_25 : decode cL_areDots 25 = .ok (.iload 9, 2) := by decide +kernel
theorem dL_areDots_27 : decode cL_areDots 27 = .ok (.ifCond .eq 222, 3) := by decide +kernel
theorem dL_areDots_30 : decode cL_areDots 30 = .ok (.aload 4, 2) := by decide +kernel
theorem dL_areDots_32 : decode cL_areDots 32 = .ok (.iconst 0, 1) := by decide +kernel
theorem dL_areDots_33 : decode cL_areDots 33 = .ok (.iload 10, 2) := by decide +kernel
theorem dL_areDots_35 : decode cL_areDots 35 = .ok (.aload 4, 2) := by decide +kernel
theorem dL_areDots_37 : decode cL_areDots 37 = .ok (.iconst 0, 1) := by decide +kernel
theorem dL_areDots_38 : decode cL_areDots 38 = .ok (.iaload, 1) := by decide +kernel
theorem dL_areDots_39 : decode cL_areDots 39 = .ok (.invokestatic 23, 3) := by decide +kernel
theorem dL_areDots_42 : decode cL_areDots 42 = .ok (.istore 11, 2) := by decide +kernel
theorem dL_areDots_44 : decode cL_areDots 44 = .ok (.iconst 0, 1) := by decide +kernel
theorem dL_areDots_45 : decode cL_areDots 45 = .ok (.istore 12, 2) := by decide +kernel
theorem dL_areDots_47 : decode cL_areDots 47 = .ok (.aload_n 1, 1) := by decide +kernel
theorem dL_areDots_48 : decode cL_areDots 48 = .ok (.iload 10, 2) := by decide +kernel
theorem dL_areDots_50 : decode cL_areDots 50 = .ok (.iaload, 1) := by decide +kernel
theorem dL_areDots_51 : decode cL_areDots 51 = .ok (.istore 13, 2) := by decide +kernel
theorem dL_areDots_53 : decode cL_areDots 53 = .ok (.iload 13, 2) := by decide +kernel
theorem dL_areDots_55 : decode cL_areDots 55 = .ok (.iload 11, 2) := by decide +kernel
theorem dL_areDots_57 : decode cL_areDots 57 = .ok (.iadd, 1) := by decide +kernel
theorem dL_areDots_58 : decode cL_areDots 58 = .ok (.aload 4, 2) := by decide +kernel
theorem dL_areDots_60 : decode cL_areDots 60 = .ok (.iconst 2, 1) := by decide +kernel
theorem dL_areDots_61 : decode cL_areDots 61 = .ok (.iaload, 1) := by decide +kernel
theorem dL_areDots_62 : decode cL_areDots 62 = .ok (.if_icmp .le 20, 3) := by decide +kernel
theorem dL_areDots_65 : decode cL_areDots 65 = .ok (.iinc 12 1, 3) := by decide +kernel
theorem dL_areDots_68 : decode cL_areDots 68 = .ok (.iload 13, 2) := by decide +kernel
theorem dL_areDots_70 : decode cL_areDots 70 = .ok (.aload 4, 2) := by decide +kernel
theorem dL_areDots_72 : decode cL_areDots 72 = .ok (.iconst 1, 1) := by decide +kernel
theorem dL_areDots_73 : decode cL_areDots 73 = .ok (.iaload, 1) := by decide +kernel
theorem dL_areDots_74 : decode cL_areDots 74 = .ok (.invokestatic 9, 3) := by decide +kernel
theorem dL_areDots_77 : decode cL_areDots 77 = .ok (.istore 13, 2) := by decide +kernel
theorem dL_areDots_79 : decode cL_areDots 79 = .ok (.goto (-26), 3) := by decide +kernel
theorem dL_areDots_82 : decode cL_areDots 82 = .ok (.aload_n 0, 1) := by decide +kernel
theorem dL_areDots_83 : decode cL_areDots 83 = .ok (.iload 10, 2) := by decide +kernel
theorem dL_areDots_85 : decode cL_areDots 85 = .ok (.iconst 0, 1) := by decide +kernel
theorem dL_areDots_86 : decode cL_areDots 86 = .ok (.invokevirtual 35, 3) := by decide +kernel
theorem dL_areDots_89 : decode cL_areDots 89 = .ok (.aload_n 1, 1) := by decide +kernel
theorem dL_areDots_90 : decode cL_areDots 90 = .ok (.iload 10, 2) := by decide +kernel
theorem dL_areDots_92 : decode cL_areDots 92 = .ok (.iaload, 1) := by decide +kernel
theorem dL_areDots_93 : decode cL_areDots 93 = .ok (.if_icmp .ne 100, 3) := by decide +kernel
theorem dL_areDots_96 : decode cL_areDots 96 = .ok (.aload_n 0, 1) := by decide +kernel
theorem dL_areDots_97 : decode cL_areDots 97 = .ok (.iload 10, 2) := by decide +kernel
theorem dL_areDots_99 : decode cL_areDots 99 = .ok (.iconst 1, 1) := by decide +kernel
theorem dL_areDots_100 : decode cL_areDots 100 = .ok (.invokevirtual 35, 3) := by decide +kernel
theorem dL_areDots_103 : decode cL_areDots 103 = .ok (.aload 4, 2) := by decide +kernel
theorem dL_areDots_105 : decode cL_areDots 105 = .ok (.bipush 13, 2) := by decide +kernel
theorem dL_areDots_107 : decode cL_areDots 107 = .ok (.iaload, 1) := by decide +kernel
theorem dL_areDots_108 : decode cL_areDots 108 = .ok (.iload 10, 2) := by decide +kernel
theorem dL_areDots_110 : decode cL_areDots 110 = .ok (.ishr, 1) := by decide +kernel
theorem dL_areDots_111 : decode cL_areDots 111 = .ok (.iconst 1, 1) := by decide +kernel
theorem dL_areDots_112 : decode cL_areDots 112 = .ok (.iand, 1) := by decide +kernel
theorem dL_areDots_113 : decode cL_areDots 113 = .ok (.if_icmp .ne 80, 3) := by decide +kernel
theorem dL_areDots_116 : decode cL_areDots 116 = .ok (.aload_n 0, 1) := by decide +kernel
theorem dL_areDots_117 : decode cL_areDots 117 = .ok (.iload 10, 2) := by decide +kernel
theorem dL_areDots_119 : decode cL_areDots 119 = .ok (.iconst 2, 1) := by decide +kernel
theorem dL_areDots_120 : decode cL_areDots 120 = .ok (.invokevirtual 35, 3) := by decide +kernel
theorem dL_areDots_123 : decode cL_areDots 123 = .ok (.aload 4, 2) := by decide +kernel
theorem dL_areDots_125 : decode cL_areDots 125 = .ok (.bipush 14, 2) := by decide +kernel
theorem dL_areDots_127 : decode cL_areDots 127 = .ok (.iaload, 1) := by decide +kernel
theorem dL_areDots_128 : decode cL_areDots 128 = .ok (.iload 10, 2) := by decide +kernel
theorem dL_areDots_130 : decode cL_areDots 130 = .ok (.ishr, 1) := by decide +kernel
theorem dL_areDots_131 : decode cL_areDots 131 = .ok (.iconst 1, 1) := by decide +kernel
theorem dL_areDots_132 : decode cL_areDots 132 = .ok (.iand, 1) := by decide +kernel
theorem dL_areDots_133 : decode cL_areDots 133 = .ok (.if_icmp .ne 60, 3) := by decide +kernel
theorem dL_areDots_136 : decode cL_areDots 136 = .ok (.aload_n 0, 1) := by decide +kernel
theorem dL_areDots_137 : decode cL_areDots 137 = .ok (.iload 10, 2) := by decide +kernel
theorem dL_areDots_139 : decode cL_areDots 139 = .ok (.iconst 3, 1) := by decide +kernel
theorem dL_areDots_140 : decode cL_areDots 140 = .ok (.invokevirtual 35, 3) := by decide +kernel
theorem dL_areDots_143 : decode cL_areDots 143 = .ok (.aload_n 2, 1) := by decide +kernel
theorem dL_areDots_144 : decode cL_areDots 144 = .ok (.iload 10, 2) := by decide +kernel
theorem dL_areDots_146 : decode cL_areDots 146 = .ok (.iaload, 1) := by decide +kernel
theorem dL_areDots_147 : decode cL_areDots 147 = .ok (.if_icmp .ne 46, 3) := by decide +kernel
theorem dL_areDots_150 : decode cL_areDots 150 = .ok (.aload_n 0, 1) := by decide +kernel
theorem dL_areDots_151 : decode cL_areDots 151 = .ok (.iload 10, 2) := by decide +kernel
theorem dL_areDots_153 : decode cL_areDots 153 = .ok (.iconst 4, 1) := by decide +kernel
theorem dL_areDots_154 : decode cL_areDots 154 = .ok (.invokevirtual 35, 3) := by decide +kernel
theorem dL_areDots_157 : decode cL_areDots 157 = .ok (.aload_n 3, 1) := by decide +kernel
theorem dL_areDots_158 : decode cL_areDots 158 = .ok (.iload 10, 2) := by decide +kernel
theorem dL_areDots_160 : decode cL_areDots 160 = .ok (.iaload, 1) := by decide +kernel
theorem dL_areDots_161 : decode cL_areDots 161 = .ok (.if_icmp .ne 32, 3) := by decide +kernel
theorem dL_areDots_164 : decode cL_areDots 164 = .ok (.aload_n 0, 1) := by decide +kernel
theorem dL_areDots_165 : decode cL_areDots 165 = .ok (.iload 10, 2) := by decide +kernel
theorem dL_areDots_167 : decode cL_areDots 167 = .ok (.iconst 5, 1) := by decide +kernel
theorem dL_areDots_168 : decode cL_areDots 168 = .ok (.invokevirtual 35, 3) := by decide +kernel
theorem dL_areDots_171 : decode cL_areDots 171 = .ok (.iload 11, 2) := by decide +kernel
theorem dL_areDots_173 : decode cL_areDots 173 = .ok (.if_icmp .ne 20, 3) := by decide +kernel
theorem dL_areDots_176 : decode cL_areDots 176 = .ok (.aload_n 0, 1) := by decide +kernel
theorem dL_areDots_177 : decode cL_areDots 177 = .ok (.iload 10, 2) := by decide +kernel
theorem dL_areDots_179 : decode cL_areDots 179 = .ok (.bipush 6, 2) := by decide +kernel
theorem dL_areDots_181 : decode cL_areDots 181 = .ok (.invokevirtual 35, 3) := by decide +kernel
theorem dL_areDots_184 : decode cL_areDots 184 = .ok (.iload 12, 2) := by decide +kernel
theorem dL_areDots_186 : decode cL_areDots 186 = .ok (.if_icmp .ne 7, 3) := by decide +kernel
theorem dL_areDots_189 : decode cL_areDots 189 = .ok (.iconst 1, 1) := by decide +kernel
theorem dL_areDots_190 : decode cL_areDots 190 = .ok (.goto 4, 3) := by decide +kernel
theorem dL_areDots_193 : decode cL_areDots 193 = .ok (.iconst 0, 1) := by decide +kernel
theorem dL_areDots_194 : decode cL_areDots 194 = .ok (.istore 9, 2) := by decide +kernel
theorem dL_areDots_196 : decode cL_areDots 196 = .ok (.iload 5, 2) := by decide +kernel
theorem dL_areDots_198 : decode cL_areDots 198 = .ok (.aload_n 2, 1) := by decide +kernel
theorem dL_areDots_199 : decode cL_areDots 199 = .ok (.iload 10, 2) := by decide +kernel
theorem dL_areDots_201 : decode cL_areDots 201 = .ok (.iaload, 1) := by decide +kernel
theorem dL_areDots_202 : decode cL_areDots 202 = .ok (.iadd, 1) := by decide +kernel
theorem dL_areDots_203 : decode cL_areDots 203 = .ok (.istore 5, 2) := by decide +kernel
theorem dL_areDots_205 : decode cL_areDots 205 = .ok (.iload 6, 2) := by decide +kernel
theorem dL_areDots_207 : decode cL_areDots 207 = .ok (.aload_n 3, 1) := by decide +kernel
theorem dL_areDots_208 : decode cL_areDots 208 = .ok (.iload 10, 2) := by decide +kernel
theorem dL_areDots_210 : decode cL_areDots 210 = .ok (.iaload, 1) := by decide +kernel
theorem dL_areDots_211 : decode cL_areDots 211 = .ok (.iadd, 1) := by decide +kernel
theorem dL_areDots_212 : decode cL_areDots 212 = .ok (.istore 6, 2) := by decide +kernel
theorem dL_areDots_214 : decode cL_areDots 214 = .ok (.iload 8, 2) := by decide +kernel
theorem dL_areDots_216 : decode cL_areDots 216 = .ok (.aload_n 1, 1) := by decide +kernel
theorem dL_areDots_217 : decode cL_areDots 217 = .ok (.iload 10, 2) := by decide +kernel
theorem dL_areDots_219 : decode cL_areDots 219 = .ok (.iaload, 1) := by decide +kernel
theorem dL_areDots_220 : decode cL_areDots 220 = .ok (.iadd, 1) := by decide +kernel
theorem dL_areDots_221 : decode cL_areDots 221 = .ok (.istore 8, 2) := by decide +kernel
theorem dL_areDots_223 : decode cL_areDots 223 = .ok (.aload_n 1, 1) := by decide +kernel
theorem dL_areDots_224 : decode cL_areDots 224 = .ok (.iload 10, 2) := by decide +kernel
theorem dL_areDots_226 : decode cL_areDots 226 = .ok (.iaload, 1) := by decide +kernel
theorem dL_areDots_227 : decode cL_areDots 227 = .ok (.iload 7, 2) := by decide +kernel
theorem dL_areDots_229 : decode cL_areDots 229 = .ok (.if_icmp .le 10, 3) := by decide +kernel
theorem dL_areDots_232 : decode cL_areDots 232 = .ok (.aload_n 1, 1) := by decide +kernel
theorem dL_areDots_233 : decode cL_areDots 233 = .ok (.iload 10, 2) := by decide +kernel
theorem dL_areDots_235 : decode cL_areDots 235 = .ok (.iaload, 1) := by decide +kernel
theorem dL_areDots_236 : decode cL_areDots 236 = .ok (.goto 5, 3) := by decide +kernel
theorem dL_areDots_239 : decode cL_areDots 239 = .ok (.iload 7, 2) := by decide +kernel
theorem dL_areDots_241 : decode cL_areDots 241 = .ok (.istore 7, 2) := by decide +kernel
theorem dL_areDots_243 : decode cL_areDots 243 = .ok (.iinc 10 1, 3) := by decide +kernel
theorem dL_areDots_246 : decode cL_areDots 246 = .ok (.goto (-228), 3) := by decide +kernel
theorem dL_areDots_249 : decode cL_areDots 249 = .ok (.iload 9, 2) := by decide +kernel
theorem dL_areDots_251 : decode cL_areDots 251 = .ok (.ifCond .eq 143, 3) := by decide +kernel
theorem dL_areDots_254 : decode cL_areDots 254 = .ok (.aload_n 0, 1) := by decide +kernel
theorem dL_areDots_255 : decode cL_areDots 255 = .ok (.iconst 0, 1) := by decide +kernel
theorem dL_areDots_256 : decode cL_areDots 256 = .ok (.invokevirtual 40, 3) := by decide +kernel
theorem dL_areDots_259 : decode cL_areDots 259 = .ok (.aload 4, 2) := by decide +kernel
theorem dL_areDots_261 : decode cL_areDots 261 = .ok (.bipush 8, 2) := by decide +kernel
theorem dL_areDots_263 : decode cL_areDots 263 = .ok (.iaload, 1) := by decide +kernel
theorem dL_areDots_264 : decode cL_areDots 264 = .ok (.if_icmp .ne 130, 3) := by decide +kernel
theorem dL_areDots_267 : decode cL_areDots 267 = .ok (.aload_n 0, 1) := by decide +kernel
theorem dL_areDots_268 : decode cL_areDots 268 = .ok (.iconst 1, 1) := by decide +kernel
theorem dL_areDots_269 : decode cL_areDots 269 = .ok (.invokevirtual 40, 3) := by decide +kernel
theorem dL_areDots_272 : decode cL_areDots 272 = .ok (.aload 4, 2) := by decide +kernel
theorem dL_areDots_274 : decode cL_areDots 274 = .ok (.bipush 9, 2) := by decide +kernel
theorem dL_areDots_276 : decode cL_areDots 276 = .ok (.iaload, 1) := by decide +kernel
theorem dL_areDots_277 : decode cL_areDots 277 = .ok (.if_icmp .ne 117, 3) := by decide +kernel
theorem dL_areDots_280 : decode cL_areDots 280 = .ok (.aload_n 0, 1) := by decide +kernel
theorem dL_areDots_281 : decode cL_areDots 281 = .ok (.iconst 2, 1) := by decide +kernel
theorem dL_areDots_282 : decode cL_areDots 282 = .ok (.invokevirtual 40, 3) := by decide +kernel
theorem dL_areDots_285 : decode cL_areDots 285 = .ok (.aload 4, 2) := by decide +kernel
theorem dL_areDots_287 : decode cL_areDots 287 = .ok (.bipush 10, 2) := by decide +kernel
theorem dL_areDots_289 : decode cL_areDots 289 = .ok (.iaload, 1) := by decide +kernel
theorem dL_areDots_290 : decode cL_areDots 290 = .ok (.if_icmp .ne 104, 3) := by decide +kernel
theorem dL_areDots_293 : decode cL_areDots 293 = .ok (.aload_n 0, 1) := by decide +kernel
theorem dL_areDots_294 : decode cL_areDots 294 = .ok (.iconst 3, 1) := by decide +kernel
theorem dL_areDots_295 : decode cL_areDots 295 = .ok (.invokevirtual 40, 3) := by decide +kernel
theorem dL_areDots_298 : decode cL_areDots 298 = .ok (.aload 4, 2) := by decide +kernel
theorem dL_areDots_300 : decode cL_areDots 300 = .ok (.bipush 11, 2) := by decide +kernel
theorem dL_areDots_302 : decode cL_areDots 302 = .ok (.iaload, 1) := by decide +kernel
theorem dL_areDots_303 : decode cL_areDots 303 = .ok (.if_icmp .ne 91, 3) := by decide +kernel
theorem dL_areDots_306 : decode cL_areDots 306 = .ok (.aload_n 0, 1) := by decide +kernel
theorem dL_areDots_307 : decode cL_areDots 307 = .ok (.iconst 4, 1) := by decide +kernel
theorem dL_areDots_308 : decode cL_areDots 308 = .ok (.invokevirtual 40, 3) := by decide +kernel
theorem dL_areDots_311 : decode cL_areDots 311 = .ok (.iload 5, 2) := by decide +kernel
theorem dL_areDots_313 : decode cL_areDots 313 = .ok (.if_icmp .ne 81, 3) := by decide +kernel
theorem dL_areDots_316 : decode cL_areDots 316 = .ok (.aload_n 0, 1) := by decide +kernel
theorem dL_areDots_317 : decode cL_areDots 317 = .ok (.iconst 5, 1) := by decide +kernel
theorem dL_areDots_318 : decode cL_areDots 318 = .ok (.invokevirtual 40, 3) := by decide +kernel
theorem dL_areDots_321 : decode cL_areDots 321 = .ok (.iload 5, 2) := by decide +kernel
theorem dL_areDots_323 : decode cL_areDots 323 = .ok (.if_icmp .ne 71, 3) := by decide +kernel
theorem dL_areDots_326 : decode cL_areDots 326 = .ok (.aload_n 0, 1) := by decide +kernel
theorem dL_areDots_327 : decode cL_areDots 327 = .ok (.bipush 6, 2) := by decide +kernel
theorem dL_areDots_329 : decode cL_areDots 329 = .ok (.invokevirtual 40, 3) := by decide +kernel
theorem dL_areDots_332 : decode cL_areDots 332 = .ok (.iload 6, 2) := by decide +kernel
theorem dL_areDots_334 : decode cL_areDots 334 = .ok (.if_icmp .ne 60, 3) := by decide +kernel
theorem dL_areDots_337 : decode cL_areDots 337 = .ok (.aload_n 0, 1) := by decide +kernel
theorem dL_areDots_338 : decode cL_areDots 338 = .ok (.bipush 7, 2) := by decide +kernel
theorem dL_areDots_340 : decode cL_areDots 340 = .ok (.invokevirtual 40, 3) := by decide +kernel
theorem dL_areDots_343 : decode cL_areDots 343 = .ok (.iload 7, 2) := by decide +kernel
theorem dL_areDots_345 : decode cL_areDots 345 = .ok (.if_icmp .ne 49, 3) := by decide +kernel
theorem dL_areDots_348 : decode cL_areDots 348 = .ok (.aload_n 0, 1) := by decide +kernel
theorem dL_areDots_349 : decode cL_areDots 349 = .ok (.bipush 8, 2) := by decide +kernel
theorem dL_areDots_351 : decode cL_areDots 351 = .ok (.invokevirtual 40, 3) := by decide +kernel
theorem dL_areDots_354 : decode cL_areDots 354 = .ok (.aload 4, 2) := by decide +kernel
theorem dL_areDots_356 : decode cL_areDots 356 = .ok (.bipush 12, 2) := by decide +kernel
theorem dL_areDots_358 : decode cL_areDots 358 = .ok (.iaload, 1) := by decide +kernel
theorem dL_areDots_359 : decode cL_areDots 359 = .ok (.if_icmp .ne 35, 3) := by decide +kernel
theorem dL_areDots_362 : decode cL_areDots 362 = .ok (.aload_n 0, 1) := by decide +kernel
theorem dL_areDots_363 : decode cL_areDots 363 = .ok (.bipush 9, 2) := by decide +kernel
theorem dL_areDots_365 : decode cL_areDots 365 = .ok (.invokevirtual 40, 3) := by decide +kernel
theorem dL_areDots_368 : decode cL_areDots 368 = .ok (.aload 4, 2) := by decide +kernel
theorem dL_areDots_370 : decode cL_areDots 370 = .ok (.bipush 7, 2) := by decide +kernel
theorem dL_areDots_372 : decode cL_areDots 372 = .ok (.iaload, 1) := by decide +kernel
theorem dL_areDots_373 : decode cL_areDots 373 = .ok (.if_icmp .ne 21, 3) := by decide +kernel
theorem dL_areDots_376 : decode cL_areDots 376 = .ok (.aload_n 0, 1) := by decide +kernel
theorem dL_areDots_377 : decode cL_areDots 377 = .ok (.bipush 10, 2) := by decide +kernel
theorem dL_areDots_379 : decode cL_areDots 379 = .ok (.invokevirtual 40, 3) := by decide +kernel
theorem dL_areDots_382 : decode cL_areDots 382 = .ok (.aload 4, 2) := by decide +kernel
theorem dL_areDots_384 : decode cL_areDots 384 = .ok (.bipush 15, 2) := by decide +kernel
theorem dL_areDots_386 : decode cL_areDots 386 = .ok (.iaload, 1) := by decide +kernel
theorem dL_areDots_387 : decode cL_areDots 387 = .ok (.if_icmp .ne 7, 3) := by decide +kernel
theorem dL_areDots_390 : decode cL_areDots 390 = .ok (.iconst 1, 1) := by decide +kernel
theorem dL_areDots_391 : decode cL_areDots 391 = .ok (.goto 4, 3) := by decide +kernel
theorem dL_areDots_394 : decode cL_areDots 394 = .ok (.iconst 0, 1) := by decide +kernel
theorem dL_areDots_395 : decode cL_areDots 395 = .ok (.istore 9, 2) := by decide +kernel
theorem dL_areDots_397 : decode cL_areDots 397 = .ok (.iconst 0, 1) := by decide +kernel
theorem dL_areDots_398 : decode cL_areDots 398 = .ok (.istore 10, 2) := by decide +kernel
theorem dL_areDots_400 : decode cL_areDots 400 = .ok (.iload 10, 2) := by decide +kernel
theorem dL_areDots_402 : decode cL_areDots 402 = .ok (.bipush 7, 2) := by decide +kernel
theorem dL_areDots_404 : decode cL_areDots 404 = .ok (.if_icmp .ge 38, 3) := by decide +kernel
theorem dL_areDots_407 : decode cL_areDots 407 = .ok (.iload 9, 2) := by decide +kernel
theorem dL_areDots_409 : decode cL_areDots 409 = .ok (.ifCond .eq 24, 3) := by decide +kernel
theorem dL_areDots_412 : decode cL_areDots 412 = .ok (.aload_n 0, 1) := by decide +kernel
theorem dL_areDots_413 : decode cL_areDots 413 = .ok (.bipush 11, 2) := by decide +kernel
theorem dL_areDots_415 : decode cL_areDots 415 = .ok (.iload 10, 2) := by decide +kernel
theorem dL_areDots_417 : decode cL_areDots 417 = .ok (.iadd, 1) := by decide +kernel
theorem dL_areDots_418 : decode cL_areDots 418 = .ok (.invokevirtual 40, 3) := by decide +kernel
theorem dL_areDots_421 : decode cL_areDots 421 = .ok (.aload 4, 2) := by decide +kernel
theorem dL_areDots_423 : decode cL_areDots 423 = .ok (.iload 10, 2) := by decide +kernel
theorem dL_areDots_425 : decode cL_areDots 425 = .ok (.iaload, 1) := by decide +kernel
theorem dL_areDots_426 : decode cL_areDots 426 = .ok (.if_icmp .ne 7, 3) := by decide +kernel
theorem dL_areDots_429 : decode cL_areDots 429 = .ok (.iconst 1, 1) := by decide +kernel
theorem dL_areDots_430 : decode cL_areDots 430 = .ok (.goto 4, 3) := by decide +kernel
theorem dL_areDots_433 : decode cL_areDots 433 = .ok (.iconst 0, 1) := by decide +kernel
theorem dL_areDots_434 : decode cL_areDots 434 = .ok (.istore 9, 2) := by decide +kernel
theorem dL_areDots_436 : decode cL_areDots 436 = .ok (.iinc 10 1, 3) := by decide +kernel
theorem dL_areDots_439 : decode cL_areDots 439 = .ok (.goto (-39), 3) := by decide +kernel
theorem dL_areDots_442 : decode cL_areDots 442 = .ok (.iload 9, 2) := by decide +kernel
theorem dL_areDots_444 : decode cL_areDots 444 = .ok (.ifCond .eq 48, 3) := by decide +kernel
theorem dL_areDots_447 : decode cL_areDots 447 = .ok (.aload_n 0, 1) := by decide +kernel
theorem dL_areDots_448 : decode cL_areDots 448 = .ok (.invokevirtual 43, 3) := by decide +kernel
theorem dL_areDots_451 : decode cL_areDots 451 = .ok (.iload 5, 2) := by decide +kernel
theorem dL_areDots_453 : decode cL_areDots 453 = .ok (.ifCond .ne 7, 3) := by decide +kernel
theorem dL_areDots_456 : decode cL_areDots 456 = .ok (.dconst 1, 1) := by decide +kernel
theorem dL_areDots_457 : decode cL_areDots 457 = .ok (.goto 13, 3) := by decide +kernel
theorem dL_areDots_460 : decode cL_areDots 460 = .ok (.iload 5, 2) := by decide +kernel
theorem dL_areDots_462 : decode cL_areDots 462 = .ok (.iload 6, 2) := by decide +kernel
theorem dL_areDots_464 : decode cL_areDots 464 = .ok (.isub, 1) := by decide +kernel
theorem dL_areDots_465 : decode cL_areDots 465 = .ok (.i2d, 1) := by decide +kernel
theorem dL_areDots_466 : decode cL_areDots 466 = .ok (.iload 5, 2) := by decide +kernel
theorem dL_areDots_468 : decode cL_areDots 468 = .ok (.i2d, 1) := by decide +kernel
theorem dL_areDots_469 : decode cL_areDots 469 = .ok (.ddiv, 1) := by decide +kernel
theorem dL_areDots_470 : decode cL_areDots 470 = .ok (.dcmp .l, 1) := by decide +kernel
theorem dL_areDots_471 : decode cL_areDots 471 = .ok (.ifCond .ne 21, 3) := by decide +kernel
theorem dL_areDots_474 : decode cL_areDots 474 = .ok (.aload_n 0, 1) := by decide +kernel
theorem dL_areDots_475 : decode cL_areDots 475 = .ok (.invokevirtual 47, 3) := by decide +kernel
theorem dL_areDots_478 : decode cL_areDots 478 = .ok (.iload 8, 2) := by decide +kernel
theorem dL_areDots_480 : decode cL_areDots 480 = .ok (.i2f, 1) := by decide +kernel
theorem dL_areDots_481 : decode cL_areDots 481 = .ok (.ldc 51, 2) := by decide +kernel
theorem dL_areDots_483 : decode cL_areDots 483 = .ok (.fdiv, 1) := by decide +kernel
theorem dL_areDots_484 : decode cL_areDots 484 = .ok (.fcmp .l, 1) := by decide +kernel
theorem dL_areDots_485 : decode cL_areDots 485 = .ok (.ifCond .ne 7, 3) := by decide +kernel
theorem dL_areDots_488 : decode cL_areDots 488 = .ok (.iconst 1, 1) := by decide +kernel
theorem dL_areDots_489 : decode cL_areDots 489 = .ok (.goto 4, 3) := by decide +kernel
theorem dL_areDots_492 : decode cL_areDots 492 = .ok (.iconst 0, 1) := by decide +kernel
theorem dL_areDots_493 : decode cL_areDots 493 = .ok (.ireturn, 1) := by decide +kernel
set_option maxHeartbeats 4000000 in
set_option maxRecDepth 100000 in
theorem c_L_areDots (l : Launch) (G : GT) (a : Nat → Nat) (b : Nat → Nat) (x : HV) (q : Nat → Nat) (v : SV) (hI : Lgs v) : Met l yL_areDots (Cond.code yL_areDots cL_areDots 14 (some .boolean) :: bigW) ({ frames := 5, cells := 0, slots := 0, locals := 114 }) (BP G [.ref (a 0), .ref (q 0), .ref (q 1), .ref (q 2), .ref (q 4)] (fun U H => PW G (hdW G a b x) H ∧ PW G (lwW G q v) H)) (QP (.int (fL_areDots x v))) 0 0 (fun _ => False) := by
  refine met_of (by decide) (Nat.le_of_ble_eq_true rfl) ?_
  intro p e s m below meth c ls hC hKN hB0 hl
  obtain ⟨hP, hP2⟩ := hB0
  have hl : lv_has ls 14 [(0, .ref (a 0)), (1, .ref (q 0)), (2, .ref (q 1)), (3, .ref (q 2)), (4, .ref (q 4))] := hl
  have hg : fL_areDots x v = fL_areDots x v := rfl
  refine lv_iconst (v := 0) hC.1 hC.2.1 dL_areDots_0 (by decide) ?_
  refine lv_istore (lv' := [(5, .int 0), (0, .ref (a 0)), (1, .ref (q 0)), (2, .ref (q 1)), (3, .ref (q 2)), (4, .ref (q 4))]) hC.1 hC.2.1 dL_areDots_1 hl (by decide) rfl (fun ls hl => ?_)
  refine lv_iconst (v := 0) hC.1 hC.2.1 dL_areDots_3 (by decide) ?_
  refine lv_istore (lv' := [(6, .int 0), (5, .int 0), (0, .ref (a 0)), (1, .ref (q 0)), (2, .ref (q 1)), (3, .ref (q 2)), (4, .ref (q 4))]) hC.1 hC.2.1 dL_areDots_4 hl (by decide) rfl (fun ls hl => ?_)
  refine lv_iconst (v := 0) hC.1 hC.2.1 dL_areDots_6 (by decide) ?_
  refine lv_istore (lv' := [(7, .int 0), (6, .int 0), (5, .int 0), (0, .ref (a 0)), (1, .ref (q 0)), (2, .ref (q 1)), (3, .ref (q 2)), (4, .ref (q 4))]) hC.1 hC.2.1 dL_areDots_7 hl (by decide) rfl (fun ls hl => ?_)
  refine lv_iconst (v := 0) hC.1 hC.2.1 dL_areDots_9 (by decide) ?_
  refine lv_istore (lv' := [(8, .int 0), (7, .int 0), (6, .int 0), (5, .int 0), (0, .ref (a 0)), (1, .ref (q 0)), (2, .ref (q 1)), (3, .ref (q 2)), (4, .ref (q 4))]) hC.1 hC.2.1 dL_areDots_10 hl (by decide) rfl (fun ls hl => ?_)
  refine lv_iconst (v := 1) hC.1 hC.2.1 dL_areDots_12 (by decide) ?_
  refine lv_istore (lv' := [(9, .int 1), (8, .int 0), (7, .int 0), (6, .int 0), (5, .int 0), (0, .ref (a 0)), (1, .ref (q 0)), (2, .ref (q 1)), (3, .ref (q 2)), (4, .ref (q 4))]) hC.1 hC.2.1 dL_areDots_13 hl (by decide) rfl (fun ls hl => ?_)
  refine lv_iconst (v := 0) hC.1 hC.2.1 dL_areDots_15 (by decide) ?_
  refine lv_istore (lv' := [(10, .int 0), (9, .int 1), (8, .int 0), (7, .int 0), (6, .int 0), (5, .int 0), (0, .ref (a 0)), (1, .ref (q 0)), (2, .ref (q 1)), (3, .ref (q 2)), (4, .ref (q 4))]) hC.1 hC.2.1 dL_areDots_16 hl (by decide) rfl (fun ls hl => ?_)
  have A18 : ∀ (y5_18 : Int32) (y6_18 : Int32) (y7_18 : Int32) (y8_18 : Int32) (y9_18 : Int32), fL_areDots x v = (tL_areDots_18 x v (y5_18, y6_18, y7_18, y8_18, y9_18)) → ∀ (ls : Array Slot), lv_has ls 14 [(0, .ref (a 0)), (4, .ref (q 4)), (5, .int y5_18), (6, .int y6_18), (7, .int y7_18), (8, .int y8_18), (9, .int y9_18)] → W p l e ({ frames := 5, cells := 0, slots := 0, locals := 114 }) s m ([.ref (a 0), .ref (q 0), .ref (q 1), .ref (q 2), .ref (q 4)] : List Value).toArray below meth c s.heap [] 0 0 (MQ below (QP (.int (fL_areDots x v))) ([.ref (a 0), .ref (q 0), .ref (q 1), .ref (q 2), .ref (q 4)] : List Value).toArray s 0 0 (fun _ => False)) (F0 m 249 ls []) := by
    intro  y5_18 y6_18 y7_18 y8_18 y9_18 hg ls hl
    refine lv_iload hC.1 hC.2.1 dL_areDots_249 (lv_at hl 6 rfl) ?_
    have J395 : ∀ (y5_395 : Int32) (y6_395 : Int32) (y8_395 : Int32) (z0_395 : Int32), fL_areDots x v = tL_areDots_J395 x v y5_395 y6_395 y8_395 z0_395 → ∀ (ls : Array Slot), lv_has ls 14 [(0, .ref (a 0)), (4, .ref (q 4)), (5, .int y5_395), (6, .int y6_395), (8, .int y8_395)] → W p l e ({ frames := 5, cells := 0, slots := 0, locals := 114 }) s m ([.ref (a 0), .ref (q 0), .ref (q 1), .ref (q 2), .ref (q 4)] : List Value).toArray below meth c s.heap [] 0 0 (MQ below (QP (.int (fL_areDots x v))) ([.ref (a 0), .ref (q 0), .ref (q 1), .ref (q 2), .ref (q 4)] : List Value).toArray s 0 0 (fun _ => False)) (F0 m 395 ls [.int z0_395]) := by
      intro y5_395 y6_395 y8_395 z0_395 hg ls hl
      refine lv_istore (lv' := [(9, .int z0_395), (0, .ref (a 0)), (4, .ref (q 4)), (5, .int y5_395), (6, .int y6_395), (8, .int y8_395)]) hC.1 hC.2.1 dL_areDots_395 hl (by decide) rfl (fun ls hl => ?_)
      refine lv_iconst (v := 0) hC.1 hC.2.1 dL_areDots_397 (by decide) ?_
      refine lv_istore (lv' := [(10, .int 0), (9, .int z0_395), (0, .ref (a 0)), (4, .ref (q 4)), (5, .int y5_395), (6, .int y6_395), (8, .int y8_395)]) hC.1 hC.2.1 dL_areDots_398 hl (by decide) rfl (fun ls hl => ?_)
      have A400 : ∀ (y5_400 : Int32) (y6_400 : Int32) (y8_400 : Int32), ∀ (y9_400 : Int32), fL_areDots x v = (tL_areDots_400 x v y5_400 y6_400 y8_400 y9_400) → ∀ (ls : Array Slot), lv_has ls 14 [(0, .ref (a 0)), (5, .int y5_400), (6, .int y6_400), (8, .int y8_400), (9, .int y9_400)] → W p l e ({ frames := 5, cells := 0, slots := 0, locals := 114 }) s m ([.ref (a 0), .ref (q 0), .ref (q 1), .ref (q 2), .ref (q 4)] : List Value).toArray below meth c s.heap [] 0 0 (MQ below (QP (.int (fL_areDots x v))) ([.ref (a 0), .ref (q 0), .ref (q 1), .ref (q 2), .ref (q 4)] : List Value).toArray s 0 0 (fun _ => False)) (F0 m 442 ls []) := by
        intro y5_400 y6_400 y8_400 y9_400 hg ls hl
        refine lv_iload hC.1 hC.2.1 dL_areDots_442 (lv_at hl 4 rfl) ?_
        refine lv_if_eq (tgt := 492) hC.1 hC.2.1 dL_areDots_444 (by decide) (fun k444 => ?_) (fun k444 => ?_)
        · refine lv_iconst (v := 0) hC.1 hC.2.1 dL_areDots_492 (by decide) ?_
          have e_1 : tL_areDots_400 x v y5_400 y6_400 y8_400 y9_400 = 0 := by delta tL_areDots_400; exact Eq.trans (if_pos k444) rfl
          have hg : fL_areDots x v = 0 := by have e2 := congrArg (fun z => z) e_1; exact hg.trans e2
          exact eP_z hC (congrArg Value.int hg) rfl dL_areDots_493
        · refine lv_aload_n hC.1 hC.2.1 dL_areDots_447 rfl (lv_at hl 0 rfl) ?_
          refine runP (rV (B := fun U H => PW G (hdW G a b x) H) (As := []) (rest := []) hC mwX5_darkness (c_X5_darkness l G a b x) iwX5_darkness wd_378 ⟨rfl, rfl⟩ ⟨Nat.le_of_ble_eq_true rfl, Nat.le_of_ble_eq_true rfl⟩ (stb_h (fun H => PW G (hdW G a b x) H)) hKN hP (va_recv hKN.k hP (ci := 5) (q0 := 0) rfl rfl) rfl hl.1 rfl (Nat.le_of_ble_eq_true rfl) dL_areDots_448 ⟨Nat.zero_le _, Nat.zero_le _⟩) ?_
          refine lv_iload hC.1 hC.2.1 dL_areDots_451 (lv_at hl 1 rfl) ?_
          have J470 : ∀ (y8_470 : Int32) (z0_470 : UInt64) (z1_470 : UInt64), fL_areDots x v = tL_areDots_J470 x v y8_470 z0_470 z1_470 → ∀ (ls : Array Slot), lv_has ls 14 [(0, .ref (a 0)), (8, .int y8_470)] → W p l e ({ frames := 5, cells := 0, slots := 0, locals := 114 }) s m ([.ref (a 0), .ref (q 0), .ref (q 1), .ref (q 2), .ref (q 4)] : List Value).toArray below meth c s.heap [] 0 0 (MQ below (QP (.int (fL_areDots x v))) ([.ref (a 0), .ref (q 0), .ref (q 1), .ref (q 2), .ref (q 4)] : List Value).toArray s 0 0 (fun _ => False)) (F0 m 470 ls [.double z1_470, .double z0_470]) := by
            intro y8_470 z0_470 z1_470 hg ls hl
            refine lv_dcmp hC.1 hC.2.1 dL_areDots_470 ?_
            refine lv_if_ne (tgt := 492) hC.1 hC.2.1 dL_areDots_471 (by decide) (fun k471 => ?_) (fun k471 => ?_)
            · refine lv_iconst (v := 0) hC.1 hC.2.1 dL_areDots_492 (by decide) ?_
              have e_2 : tL_areDots_J470 x v y8_470 z0_470 z1_470 = 0 := by delta tL_areDots_J470; exact Eq.trans (if_neg k471) rfl
              have hg : fL_areDots x v = 0 := by have e2 := congrArg (fun z => z) e_2; exact hg.trans e2
              exact eP_z hC (congrArg Value.int hg) rfl dL_areDots_493
            · refine lv_aload_n hC.1 hC.2.1 dL_areDots_474 rfl (lv_at hl 0 rfl) ?_
              refine runP (rV (B := fun U H => PW G (hdW G a b x) H) (As := []) (rest := []) hC mwX5_meanHeat (c_X5_meanHeat l G a b x) iwX5_meanHeat wd_386 ⟨rfl, rfl⟩ ⟨Nat.le_of_ble_eq_true rfl, Nat.le_of_ble_eq_true rfl⟩ (stb_h (fun H => PW G (hdW G a b x) H)) hKN hP (va_recv hKN.k hP (ci := 5) (q0 := 0) rfl rfl) rfl hl.1 rfl (Nat.le_of_ble_eq_true rfl) dL_areDots_475 ⟨Nat.zero_le _, Nat.zero_le _⟩) ?_
              refine lv_iload hC.1 hC.2.1 dL_areDots_478 (lv_at hl 1 rfl) ?_
              refine lv_i2f hC.1 hC.2.1 dL_areDots_480 ?_
              refine lv_ldcf (v := 1103101952) hC.1 hC.2.1 hC.2.2.2.2.1 (hC.2.2.2.2.2.2.1 _ wd_395) dL_areDots_481 ?_
              refine lv_fdiv hC.1 hC.2.1 dL_areDots_483 (n32_24 _) ?_
              refine lv_fcmp hC.1 hC.2.1 dL_areDots_484 ?_
              refine lv_if_ne (tgt := 492) hC.1 hC.2.1 dL_areDots_485 (by decide) (fun k485 => ?_) (fun k485 => ?_)
              · refine lv_iconst (v := 0) hC.1 hC.2.1 dL_areDots_492 (by decide) ?_
                have e_3 : tL_areDots_J470 x v y8_470 z0_470 z1_470 = 0 := by delta tL_areDots_J470; exact Eq.trans (if_pos k471) (Eq.trans (if_neg k485) rfl)
                have hg : fL_areDots x v = 0 := by have e2 := congrArg (fun z => z) e_3; exact hg.trans e2
                exact eP_z hC (congrArg Value.int hg) rfl dL_areDots_493
              · refine lv_iconst (v := 1) hC.1 hC.2.1 dL_areDots_488 (by decide) ?_
                refine lv_goto (tgt := 493) hC.1 hC.2.1 dL_areDots_489 (by decide) ?_
                have e_4 : tL_areDots_J470 x v y8_470 z0_470 z1_470 = 1 := by delta tL_areDots_J470; exact Eq.trans (if_pos k471) (Eq.trans (if_pos k485) rfl)
                have hg : fL_areDots x v = 1 := by have e2 := congrArg (fun z => z) e_4; exact hg.trans e2
                exact eP_z hC (congrArg Value.int hg) rfl dL_areDots_493
          refine lv_if_ne (tgt := 460) hC.1 hC.2.1 dL_areDots_453 (by decide) (fun k453 => ?_) (fun k453 => ?_)
          · refine lv_iload hC.1 hC.2.1 dL_areDots_460 (lv_at hl 1 rfl) ?_
            refine lv_iload hC.1 hC.2.1 dL_areDots_462 (lv_at hl 2 rfl) ?_
            refine lv_isub hC.1 hC.2.1 dL_areDots_464 ?_
            refine lv_i2d hC.1 hC.2.1 dL_areDots_465 ?_
            refine lv_iload hC.1 hC.2.1 dL_areDots_466 (lv_at hl 1 rfl) ?_
            refine lv_i2d hC.1 hC.2.1 dL_areDots_468 ?_
            refine lv_ddiv hC.1 hC.2.1 dL_areDots_469 (n64_div _ k453) ?_
            have e_5 : tL_areDots_400 x v y5_400 y6_400 y8_400 y9_400 = tL_areDots_J470 x v y8_400 (fX5_darkness x) (FP.ddiv (FP.i2d (y5_400 - y6_400)) (FP.i2d y5_400)) := by delta tL_areDots_400; exact Eq.trans (if_neg k444) (Eq.trans (if_neg k453) rfl)
            have hg : fL_areDots x v = tL_areDots_J470 x v y8_400 (fX5_darkness x) (FP.ddiv (FP.i2d (y5_400 - y6_400)) (FP.i2d y5_400)) := by have e2 := congrArg (fun z => z) e_5; exact hg.trans e2
            exact J470 y8_400 (fX5_darkness x) (FP.ddiv (FP.i2d (y5_400 - y6_400)) (FP.i2d y5_400)) hg _ (lv_sub hl [0, 3] rfl)
          · refine lv_dconst1 hC.1 hC.2.1 dL_areDots_456 ?_
            refine lv_goto (tgt := 470) hC.1 hC.2.1 dL_areDots_457 (by decide) ?_
            have e_6 : tL_areDots_400 x v y5_400 y6_400 y8_400 y9_400 = tL_areDots_J470 x v y8_400 (fX5_darkness x) FP.dconst1 := by delta tL_areDots_400; exact Eq.trans (if_neg k444) (Eq.trans (if_pos k453) rfl)
            have hg : fL_areDots x v = tL_areDots_J470 x v y8_400 (fX5_darkness x) FP.dconst1 := by have e2 := congrArg (fun z => z) e_6; exact hg.trans e2
            exact J470 y8_400 (fX5_darkness x) FP.dconst1 hg _ (lv_sub hl [0, 3] rfl)
      have L400 : ∀ (y5_400 : Int32) (y6_400 : Int32) (y8_400 : Int32), ∀ (n400 d400 : Nat), ∀ (y9_400 : Int32), d400 + n400 = 7 → fL_areDots x v = (tL_areDots_400 x v y5_400 y6_400 y8_400 (lpF n400 d400 (bL_areDots_400 x v y5_400 y6_400 y8_400) y9_400)) → ∀ (ls : Array Slot), lv_has ls 14 [(0, .ref (a 0)), (4, .ref (q 4)), (5, .int y5_400), (6, .int y6_400), (8, .int y8_400), (9, .int y9_400), (10, .int (nI d400))] → W p l e ({ frames := 5, cells := 0, slots := 0, locals := 114 }) s m ([.ref (a 0), .ref (q 0), .ref (q 1), .ref (q 2), .ref (q 4)] : List Value).toArray below meth c s.heap [] 0 0 (MQ below (QP (.int (fL_areDots x v))) ([.ref (a 0), .ref (q 0), .ref (q 1), .ref (q 2), .ref (q 4)] : List Value).toArray s 0 0 (fun _ => False)) (F0 m 400 ls []) := by
        intro y5_400 y6_400 y8_400
        intro n400
        induction n400 with
        | zero =>
          intro d400 y9_400 hd hg ls hl
          refine lv_iload hC.1 hC.2.1 dL_areDots_400 (lv_at hl 6 rfl) ?_
          refine lv_bipush (v := 7) hC.1 hC.2.1 dL_areDots_402 (by decide +kernel) ?_
          refine lv_icmp_ge (tgt := 442) hC.1 hC.2.1 dL_areDots_404 (by decide) (fun k404 => ?_) (fun k404 => ?_)
          · exact A400 y5_400 y6_400 y8_400 y9_400 hg _ (lv_sub hl [0, 2, 3, 4, 5] rfl)
          · exact absurd (nI_le (a := 7) (b := d400) (by omega) (by omega)) k404
        | succ n400 ih =>
          intro d400 y9_400 hd hg ls hl
          have hg : fL_areDots x v = (tL_areDots_400 x v y5_400 y6_400 y8_400 (lpF n400 (d400 + 1) (bL_areDots_400 x v y5_400 y6_400 y8_400) (bL_areDots_400 x v y5_400 y6_400 y8_400 d400 y9_400))) := hg
          refine lv_iload hC.1 hC.2.1 dL_areDots_400 (lv_at hl 6 rfl) ?_
          refine lv_bipush (v := 7) hC.1 hC.2.1 dL_areDots_402 (by decide +kernel) ?_
          refine lv_icmp_ge (tgt := 442) hC.1 hC.2.1 dL_areDots_404 (by decide) (fun k404 => ?_) (fun k404 => ?_)
          · exact absurd k404 (nI_ge (a := d400) (b := 7) (by omega) (by omega))
          · refine lv_iload hC.1 hC.2.1 dL_areDots_407 (lv_at hl 5 rfl) ?_
            have J434 : ∀ (z0_434 : Int32), fL_areDots x v = (tL_areDots_400 x v y5_400 y6_400 y8_400 (lpF n400 (d400 + 1) (bL_areDots_400 x v y5_400 y6_400 y8_400) (tL_areDots_J434 x v y5_400 y6_400 y8_400 d400 z0_434))) → ∀ (ls : Array Slot), lv_has ls 14 [(0, .ref (a 0)), (4, .ref (q 4)), (5, .int y5_400), (6, .int y6_400), (8, .int y8_400), (10, .int (nI d400))] → W p l e ({ frames := 5, cells := 0, slots := 0, locals := 114 }) s m ([.ref (a 0), .ref (q 0), .ref (q 1), .ref (q 2), .ref (q 4)] : List Value).toArray below meth c s.heap [] 0 0 (MQ below (QP (.int (fL_areDots x v))) ([.ref (a 0), .ref (q 0), .ref (q 1), .ref (q 2), .ref (q 4)] : List Value).toArray s 0 0 (fun _ => False)) (F0 m 434 ls [.int z0_434]) := by
              intro z0_434 hg ls hl
              refine lv_istore (lv' := [(9, .int z0_434), (0, .ref (a 0)), (4, .ref (q 4)), (5, .int y5_400), (6, .int y6_400), (8, .int y8_400), (10, .int (nI d400))]) hC.1 hC.2.1 dL_areDots_434 hl (by decide) rfl (fun ls hl => ?_)
              refine lv_iinc (v := nI (d400 + 1)) (lv' := [(10, .int (nI (d400 + 1))), (9, .int z0_434), (0, .ref (a 0)), (4, .ref (q 4)), (5, .int y5_400), (6, .int y6_400), (8, .int y8_400)]) hC.1 hC.2.1 dL_areDots_436 hl (k := 6) rfl (nI_1 _) (by decide) rfl (fun ls hl => ?_)
              refine lv_goto (tgt := 400) hC.1 hC.2.1 dL_areDots_439 (by decide) ?_
              have e_7 : tL_areDots_J434 x v y5_400 y6_400 y8_400 d400 z0_434 = z0_434 := by delta tL_areDots_J434; exact rfl
              have hg : fL_areDots x v = (tL_areDots_400 x v y5_400 y6_400 y8_400 (lpF n400 (d400 + 1) (bL_areDots_400 x v y5_400 y6_400 y8_400) z0_434)) := by have e2 := congrArg (fun z => (tL_areDots_400 x v y5_400 y6_400 y8_400 (lpF n400 (d400 + 1) (bL_areDots_400 x v y5_400 y6_400 y8_400) z))) e_7; exact hg.trans e2
              exact ih (d400 + 1) z0_434 (by omega) hg _ (lv_sub hl [2, 3, 4, 5, 6, 1, 0] rfl)
            refine lv_if_eq (tgt := 433) hC.1 hC.2.1 dL_areDots_409 (by decide) (fun k409 => ?_) (fun k409 => ?_)
            · refine lv_iconst (v := 0) hC.1 hC.2.1 dL_areDots_433 (by decide) ?_
              have e_8 : bL_areDots_400 x v y5_400 y6_400 y8_400 d400 y9_400 = tL_areDots_J434 x v y5_400 y6_400 y8_400 d400 0 := by delta bL_areDots_400; exact Eq.trans (if_pos k409) rfl
              have hg : fL_areDots x v = (tL_areDots_400 x v y5_400 y6_400 y8_400 (lpF n400 (d400 + 1) (bL_areDots_400 x v y5_400 y6_400 y8_400) (tL_areDots_J434 x v y5_400 y6_400 y8_400 d400 0))) := by have e2 := congrArg (fun z => (tL_areDots_400 x v y5_400 y6_400 y8_400 (lpF n400 (d400 + 1) (bL_areDots_400 x v y5_400 y6_400 y8_400) z))) e_8; exact hg.trans e2
              exact J434 0 hg _ (lv_sub hl [0, 1, 2, 3, 4, 6] rfl)
            · refine lv_aload_n hC.1 hC.2.1 dL_areDots_412 rfl (lv_at hl 0 rfl) ?_
              refine lv_bipush (v := 11) hC.1 hC.2.1 dL_areDots_413 (by decide +kernel) ?_
              refine lv_iload hC.1 hC.2.1 dL_areDots_415 (lv_at hl 6 rfl) ?_
              refine lv_iadd hC.1 hC.2.1 dL_areDots_417 ?_
              refine runP (rV (B := fun U H => PW G (hdW G a b x) H) (As := [.int (11 + (nI d400))]) (rest := []) hC mwX5_count (c_X5_count l G a b x (11 + (nI d400)) (iw_11 (by omega))) iwX5_count wd_358 ⟨rfl, rfl⟩ ⟨Nat.le_of_ble_eq_true rfl, Nat.le_of_ble_eq_true rfl⟩ (stb_h (fun H => PW G (hdW G a b x) H)) hKN hP (va_recv hKN.k hP (ci := 5) (q0 := 0) rfl rfl) rfl hl.1 rfl (Nat.le_of_ble_eq_true rfl) dL_areDots_418 ⟨Nat.zero_le _, Nat.zero_le _⟩) ?_
              refine lv_aload hC.1 hC.2.1 dL_areDots_421 (lv_at hl 1 rfl) ?_
              refine lv_iload hC.1 hC.2.1 dL_areDots_423 (lv_at hl 6 rfl) ?_
              refine iald_k hC hKN hP2 4 rfl (n := 21) (f := (v 4)) d400 (rfl) (by omega) (by first | decide | omega) dL_areDots_425 ?_
              refine lv_icmp_ne (tgt := 433) hC.1 hC.2.1 dL_areDots_426 (by decide) (fun k426 => ?_) (fun k426 => ?_)
              · refine lv_iconst (v := 0) hC.1 hC.2.1 dL_areDots_433 (by decide) ?_
                have e_9 : bL_areDots_400 x v y5_400 y6_400 y8_400 d400 y9_400 = tL_areDots_J434 x v y5_400 y6_400 y8_400 d400 0 := by delta bL_areDots_400; exact Eq.trans (if_neg k409) (Eq.trans (if_neg k426) rfl)
                have hg : fL_areDots x v = (tL_areDots_400 x v y5_400 y6_400 y8_400 (lpF n400 (d400 + 1) (bL_areDots_400 x v y5_400 y6_400 y8_400) (tL_areDots_J434 x v y5_400 y6_400 y8_400 d400 0))) := by have e2 := congrArg (fun z => (tL_areDots_400 x v y5_400 y6_400 y8_400 (lpF n400 (d400 + 1) (bL_areDots_400 x v y5_400 y6_400 y8_400) z))) e_9; exact hg.trans e2
                exact J434 0 hg _ (lv_sub hl [0, 1, 2, 3, 4, 6] rfl)
              · refine lv_iconst (v := 1) hC.1 hC.2.1 dL_areDots_429 (by decide) ?_
                refine lv_goto (tgt := 434) hC.1 hC.2.1 dL_areDots_430 (by decide) ?_
                have e_10 : bL_areDots_400 x v y5_400 y6_400 y8_400 d400 y9_400 = tL_areDots_J434 x v y5_400 y6_400 y8_400 d400 1 := by delta bL_areDots_400; exact Eq.trans (if_neg k409) (Eq.trans (if_pos k426) rfl)
                have hg : fL_areDots x v = (tL_areDots_400 x v y5_400 y6_400 y8_400 (lpF n400 (d400 + 1) (bL_areDots_400 x v y5_400 y6_400 y8_400) (tL_areDots_J434 x v y5_400 y6_400 y8_400 d400 1))) := by have e2 := congrArg (fun z => (tL_areDots_400 x v y5_400 y6_400 y8_400 (lpF n400 (d400 + 1) (bL_areDots_400 x v y5_400 y6_400 y8_400) z))) e_10; exact hg.trans e2
                exact J434 1 hg _ (lv_sub hl [0, 1, 2, 3, 4, 6] rfl)
      have e_11 : tL_areDots_J395 x v y5_395 y6_395 y8_395 z0_395 = tL_areDots_400 x v y5_395 y6_395 y8_395 (lpF 7 0 (bL_areDots_400 x v y5_395 y6_395 y8_395) z0_395) := by delta tL_areDots_J395; exact rfl
      have hg : fL_areDots x v = (tL_areDots_400 x v y5_395 y6_395 y8_395 (lpF 7 0 (bL_areDots_400 x v y5_395 y6_395 y8_395) z0_395)) := by have e2 := congrArg (fun z => z) e_11; exact hg.trans e2
      exact L400 y5_395 y6_395 y8_395 7 0 z0_395 (by omega) hg _ (lv_sub hl [2, 3, 4, 5, 6, 1, 0] rfl)
    refine lv_if_eq (tgt := 394) hC.1 hC.2.1 dL_areDots_251 (by decide) (fun k251 => ?_) (fun k251 => ?_)
    · refine lv_iconst (v := 0) hC.1 hC.2.1 dL_areDots_394 (by decide) ?_
      have e_12 : tL_areDots_18 x v (y5_18, y6_18, y7_18, y8_18, y9_18) = tL_areDots_J395 x v y5_18 y6_18 y8_18 0 := by delta tL_areDots_18; exact Eq.trans (if_pos k251) rfl
      have hg : fL_areDots x v = tL_areDots_J395 x v y5_18 y6_18 y8_18 0 := by have e2 := congrArg (fun z => z) e_12; exact hg.trans e2
      exact J395 y5_18 y6_18 y8_18 0 hg _ (lv_sub hl [0, 1, 2, 3, 5] rfl)
    · refine lv_aload_n hC.1 hC.2.1 dL_areDots_254 rfl (lv_at hl 0 rfl) ?_
      refine lv_iconst (v := 0) hC.1 hC.2.1 dL_areDots_255 (by decide) ?_
      refine runP (rV (B := fun U H => PW G (hdW G a b x) H) (As := [.int 0]) (rest := []) hC mwX5_count (c_X5_count l G a b x 0 (by decide +kernel)) iwX5_count wd_358 ⟨rfl, rfl⟩ ⟨Nat.le_of_ble_eq_true rfl, Nat.le_of_ble_eq_true rfl⟩ (stb_h (fun H => PW G (hdW G a b x) H)) hKN hP (va_recv hKN.k hP (ci := 5) (q0 := 0) rfl rfl) rfl hl.1 rfl (Nat.le_of_ble_eq_true rfl) dL_areDots_256 ⟨Nat.zero_le _, Nat.zero_le _⟩) ?_
      refine lv_aload hC.1 hC.2.1 dL_areDots_259 (lv_at hl 1 rfl) ?_
      refine lv_bipush (v := 8) hC.1 hC.2.1 dL_areDots_261 (by decide +kernel) ?_
      refine iald_k hC hKN hP2 4 rfl (n := 21) (f := (v 4)) 8 (rfl) (by omega) (by first | decide | omega) dL_areDots_263 ?_
      refine lv_icmp_ne (tgt := 394) hC.1 hC.2.1 dL_areDots_264 (by decide) (fun k264 => ?_) (fun k264 => ?_)
      · refine lv_iconst (v := 0) hC.1 hC.2.1 dL_areDots_394 (by decide) ?_
        have e_13 : tL_areDots_18 x v (y5_18, y6_18, y7_18, y8_18, y9_18) = tL_areDots_J395 x v y5_18 y6_18 y8_18 0 := by delta tL_areDots_18; exact Eq.trans (if_neg k251) (Eq.trans (if_neg k264) rfl)
        have hg : fL_areDots x v = tL_areDots_J395 x v y5_18 y6_18 y8_18 0 := by have e2 := congrArg (fun z => z) e_13; exact hg.trans e2
        exact J395 y5_18 y6_18 y8_18 0 hg _ (lv_sub hl [0, 1, 2, 3, 5] rfl)
      · refine lv_aload_n hC.1 hC.2.1 dL_areDots_267 rfl (lv_at hl 0 rfl) ?_
        refine lv_iconst (v := 1) hC.1 hC.2.1 dL_areDots_268 (by decide) ?_
        refine runP (rV (B := fun U H => PW G (hdW G a b x) H) (As := [.int 1]) (rest := []) hC mwX5_count (c_X5_count l G a b x 1 (by decide +kernel)) iwX5_count wd_358 ⟨rfl, rfl⟩ ⟨Nat.le_of_ble_eq_true rfl, Nat.le_of_ble_eq_true rfl⟩ (stb_h (fun H => PW G (hdW G a b x) H)) hKN hP (va_recv hKN.k hP (ci := 5) (q0 := 0) rfl rfl) rfl hl.1 rfl (Nat.le_of_ble_eq_true rfl) dL_areDots_269 ⟨Nat.zero_le _, Nat.zero_le _⟩) ?_
        refine lv_aload hC.1 hC.2.1 dL_areDots_272 (lv_at hl 1 rfl) ?_
        refine lv_bipush (v := 9) hC.1 hC.2.1 dL_areDots_274 (by decide +kernel) ?_
        refine iald_k hC hKN hP2 4 rfl (n := 21) (f := (v 4)) 9 (rfl) (by omega) (by first | decide | omega) dL_areDots_276 ?_
        refine lv_icmp_ne (tgt := 394) hC.1 hC.2.1 dL_areDots_277 (by decide) (fun k277 => ?_) (fun k277 => ?_)
        · refine lv_iconst (v := 0) hC.1 hC.2.1 dL_areDots_394 (by decide) ?_
          have e_14 : tL_areDots_18 x v (y5_18, y6_18, y7_18, y8_18, y9_18) = tL_areDots_J395 x v y5_18 y6_18 y8_18 0 := by delta tL_areDots_18; exact Eq.trans (if_neg k251) (Eq.trans (if_pos k264) (Eq.trans (if_neg k277) rfl))
          have hg : fL_areDots x v = tL_areDots_J395 x v y5_18 y6_18 y8_18 0 := by have e2 := congrArg (fun z => z) e_14; exact hg.trans e2
          exact J395 y5_18 y6_18 y8_18 0 hg _ (lv_sub hl [0, 1, 2, 3, 5] rfl)
        · refine lv_aload_n hC.1 hC.2.1 dL_areDots_280 rfl (lv_at hl 0 rfl) ?_
          refine lv_iconst (v := 2) hC.1 hC.2.1 dL_areDots_281 (by decide) ?_
          refine runP (rV (B := fun U H => PW G (hdW G a b x) H) (As := [.int 2]) (rest := []) hC mwX5_count (c_X5_count l G a b x 2 (by decide +kernel)) iwX5_count wd_358 ⟨rfl, rfl⟩ ⟨Nat.le_of_ble_eq_true rfl, Nat.le_of_ble_eq_true rfl⟩ (stb_h (fun H => PW G (hdW G a b x) H)) hKN hP (va_recv hKN.k hP (ci := 5) (q0 := 0) rfl rfl) rfl hl.1 rfl (Nat.le_of_ble_eq_true rfl) dL_areDots_282 ⟨Nat.zero_le _, Nat.zero_le _⟩) ?_
          refine lv_aload hC.1 hC.2.1 dL_areDots_285 (lv_at hl 1 rfl) ?_
          refine lv_bipush (v := 10) hC.1 hC.2.1 dL_areDots_287 (by decide +kernel) ?_
          refine iald_k hC hKN hP2 4 rfl (n := 21) (f := (v 4)) 10 (rfl) (by omega) (by first | decide | omega) dL_areDots_289 ?_
          refine lv_icmp_ne (tgt := 394) hC.1 hC.2.1 dL_areDots_290 (by decide) (fun k290 => ?_) (fun k290 => ?_)
          · refine lv_iconst (v := 0) hC.1 hC.2.1 dL_areDots_394 (by decide) ?_
            have e_15 : tL_areDots_18 x v (y5_18, y6_18, y7_18, y8_18, y9_18) = tL_areDots_J395 x v y5_18 y6_18 y8_18 0 := by delta tL_areDots_18; exact Eq.trans (if_neg k251) (Eq.trans (if_pos k264) (Eq.trans (if_pos k277) (Eq.trans (if_neg k290) rfl)))
            have hg : fL_areDots x v = tL_areDots_J395 x v y5_18 y6_18 y8_18 0 := by have e2 := congrArg (fun z => z) e_15; exact hg.trans e2
            exact J395 y5_18 y6_18 y8_18 0 hg _ (lv_sub hl [0, 1, 2, 3, 5] rfl)
          · refine lv_aload_n hC.1 hC.2.1 dL_areDots_293 rfl (lv_at hl 0 rfl) ?_
            refine lv_iconst (v := 3) hC.1 hC.2.1 dL_areDots_294 (by decide) ?_
            refine runP (rV (B := fun U H => PW G (hdW G a b x) H) (As := [.int 3]) (rest := []) hC mwX5_count (c_X5_count l G a b x 3 (by decide +kernel)) iwX5_count wd_358 ⟨rfl, rfl⟩ ⟨Nat.le_of_ble_eq_true rfl, Nat.le_of_ble_eq_true rfl⟩ (stb_h (fun H => PW G (hdW G a b x) H)) hKN hP (va_recv hKN.k hP (ci := 5) (q0 := 0) rfl rfl) rfl hl.1 rfl (Nat.le_of_ble_eq_true rfl) dL_areDots_295 ⟨Nat.zero_le _, Nat.zero_le _⟩) ?_
            refine lv_aload hC.1 hC.2.1 dL_areDots_298 (lv_at hl 1 rfl) ?_
            refine lv_bipush (v := 11) hC.1 hC.2.1 dL_areDots_300 (by decide +kernel) ?_
            refine iald_k hC hKN hP2 4 rfl (n := 21) (f := (v 4)) 11 (rfl) (by omega) (by first | decide | omega) dL_areDots_302 ?_
            refine lv_icmp_ne (tgt := 394) hC.1 hC.2.1 dL_areDots_303 (by decide) (fun k303 => ?_) (fun k303 => ?_)
            · refine lv_iconst (v := 0) hC.1 hC.2.1 dL_areDots_394 (by decide) ?_
              have e_16 : tL_areDots_18 x v (y5_18, y6_18, y7_18, y8_18, y9_18) = tL_areDots_J395 x v y5_18 y6_18 y8_18 0 := by delta tL_areDots_18; exact Eq.trans (if_neg k251) (Eq.trans (if_pos k264) (Eq.trans (if_pos k277) (Eq.trans (if_pos k290) (Eq.trans (if_neg k303) rfl))))
              have hg : fL_areDots x v = tL_areDots_J395 x v y5_18 y6_18 y8_18 0 := by have e2 := congrArg (fun z => z) e_16; exact hg.trans e2
              exact J395 y5_18 y6_18 y8_18 0 hg _ (lv_sub hl [0, 1, 2, 3, 5] rfl)
            · refine lv_aload_n hC.1 hC.2.1 dL_areDots_306 rfl (lv_at hl 0 rfl) ?_
              refine lv_iconst (v := 4) hC.1 hC.2.1 dL_areDots_307 (by decide) ?_
              refine runP (rV (B := fun U H => PW G (hdW G a b x) H) (As := [.int 4]) (rest := []) hC mwX5_count (c_X5_count l G a b x 4 (by decide +kernel)) iwX5_count wd_358 ⟨rfl, rfl⟩ ⟨Nat.le_of_ble_eq_true rfl, Nat.le_of_ble_eq_true rfl⟩ (stb_h (fun H => PW G (hdW G a b x) H)) hKN hP (va_recv hKN.k hP (ci := 5) (q0 := 0) rfl rfl) rfl hl.1 rfl (Nat.le_of_ble_eq_true rfl) dL_areDots_308 ⟨Nat.zero_le _, Nat.zero_le _⟩) ?_
              refine lv_iload hC.1 hC.2.1 dL_areDots_311 (lv_at hl 2 rfl) ?_
              refine lv_icmp_ne (tgt := 394) hC.1 hC.2.1 dL_areDots_313 (by decide) (fun k313 => ?_) (fun k313 => ?_)
              · refine lv_iconst (v := 0) hC.1 hC.2.1 dL_areDots_394 (by decide) ?_
                have e_17 : tL_areDots_18 x v (y5_18, y6_18, y7_18, y8_18, y9_18) = tL_areDots_J395 x v y5_18 y6_18 y8_18 0 := by delta tL_areDots_18; exact Eq.trans (if_neg k251) (Eq.trans (if_pos k264) (Eq.trans (if_pos k277) (Eq.trans (if_pos k290) (Eq.trans (if_pos k303) (Eq.trans (if_neg k313) rfl)))))
                have hg : fL_areDots x v = tL_areDots_J395 x v y5_18 y6_18 y8_18 0 := by have e2 := congrArg (fun z => z) e_17; exact hg.trans e2
                exact J395 y5_18 y6_18 y8_18 0 hg _ (lv_sub hl [0, 1, 2, 3, 5] rfl)
              · refine lv_aload_n hC.1 hC.2.1 dL_areDots_316 rfl (lv_at hl 0 rfl) ?_
                refine lv_iconst (v := 5) hC.1 hC.2.1 dL_areDots_317 (by decide) ?_
                refine runP (rV (B := fun U H => PW G (hdW G a b x) H) (As := [.int 5]) (rest := []) hC mwX5_count (c_X5_count l G a b x 5 (by decide +kernel)) iwX5_count wd_358 ⟨rfl, rfl⟩ ⟨Nat.le_of_ble_eq_true rfl, Nat.le_of_ble_eq_true rfl⟩ (stb_h (fun H => PW G (hdW G a b x) H)) hKN hP (va_recv hKN.k hP (ci := 5) (q0 := 0) rfl rfl) rfl hl.1 rfl (Nat.le_of_ble_eq_true rfl) dL_areDots_318 ⟨Nat.zero_le _, Nat.zero_le _⟩) ?_
                refine lv_iload hC.1 hC.2.1 dL_areDots_321 (lv_at hl 2 rfl) ?_
                refine lv_icmp_ne (tgt := 394) hC.1 hC.2.1 dL_areDots_323 (by decide) (fun k323 => ?_) (fun k323 => ?_)
                · refine lv_iconst (v := 0) hC.1 hC.2.1 dL_areDots_394 (by decide) ?_
                  have e_18 : tL_areDots_18 x v (y5_18, y6_18, y7_18, y8_18, y9_18) = tL_areDots_J395 x v y5_18 y6_18 y8_18 0 := by delta tL_areDots_18; exact Eq.trans (if_neg k251) (Eq.trans (if_pos k264) (Eq.trans (if_pos k277) (Eq.trans (if_pos k290) (Eq.trans (if_pos k303) (Eq.trans (if_pos k313) (Eq.trans (if_neg k323) rfl))))))
                  have hg : fL_areDots x v = tL_areDots_J395 x v y5_18 y6_18 y8_18 0 := by have e2 := congrArg (fun z => z) e_18; exact hg.trans e2
                  exact J395 y5_18 y6_18 y8_18 0 hg _ (lv_sub hl [0, 1, 2, 3, 5] rfl)
                · refine lv_aload_n hC.1 hC.2.1 dL_areDots_326 rfl (lv_at hl 0 rfl) ?_
                  refine lv_bipush (v := 6) hC.1 hC.2.1 dL_areDots_327 (by decide +kernel) ?_
                  refine runP (rV (B := fun U H => PW G (hdW G a b x) H) (As := [.int 6]) (rest := []) hC mwX5_count (c_X5_count l G a b x 6 (by decide +kernel)) iwX5_count wd_358 ⟨rfl, rfl⟩ ⟨Nat.le_of_ble_eq_true rfl, Nat.le_of_ble_eq_true rfl⟩ (stb_h (fun H => PW G (hdW G a b x) H)) hKN hP (va_recv hKN.k hP (ci := 5) (q0 := 0) rfl rfl) rfl hl.1 rfl (Nat.le_of_ble_eq_true rfl) dL_areDots_329 ⟨Nat.zero_le _, Nat.zero_le _⟩) ?_
                  refine lv_iload hC.1 hC.2.1 dL_areDots_332 (lv_at hl 3 rfl) ?_
                  refine lv_icmp_ne (tgt := 394) hC.1 hC.2.1 dL_areDots_334 (by decide) (fun k334 => ?_) (fun k334 => ?_)
                  · refine lv_iconst (v := 0) hC.1 hC.2.1 dL_areDots_394 (by decide) ?_
                    have e_19 : tL_areDots_18 x v (y5_18, y6_18, y7_18, y8_18, y9_18) = tL_areDots_J395 x v y5_18 y6_18 y8_18 0 := by delta tL_areDots_18; exact Eq.trans (if_neg k251) (Eq.trans (if_pos k264) (Eq.trans (if_pos k277) (Eq.trans (if_pos k290) (Eq.trans (if_pos k303) (Eq.trans (if_pos k313) (Eq.trans (if_pos k323) (Eq.trans (if_neg k334) rfl)))))))
                    have hg : fL_areDots x v = tL_areDots_J395 x v y5_18 y6_18 y8_18 0 := by have e2 := congrArg (fun z => z) e_19; exact hg.trans e2
                    exact J395 y5_18 y6_18 y8_18 0 hg _ (lv_sub hl [0, 1, 2, 3, 5] rfl)
                  · refine lv_aload_n hC.1 hC.2.1 dL_areDots_337 rfl (lv_at hl 0 rfl) ?_
                    refine lv_bipush (v := 7) hC.1 hC.2.1 dL_areDots_338 (by decide +kernel) ?_
                    refine runP (rV (B := fun U H => PW G (hdW G a b x) H) (As := [.int 7]) (rest := []) hC mwX5_count (c_X5_count l G a b x 7 (by decide +kernel)) iwX5_count wd_358 ⟨rfl, rfl⟩ ⟨Nat.le_of_ble_eq_true rfl, Nat.le_of_ble_eq_true rfl⟩ (stb_h (fun H => PW G (hdW G a b x) H)) hKN hP (va_recv hKN.k hP (ci := 5) (q0 := 0) rfl rfl) rfl hl.1 rfl (Nat.le_of_ble_eq_true rfl) dL_areDots_340 ⟨Nat.zero_le _, Nat.zero_le _⟩) ?_
                    refine lv_iload hC.1 hC.2.1 dL_areDots_343 (lv_at hl 4 rfl) ?_
                    refine lv_icmp_ne (tgt := 394) hC.1 hC.2.1 dL_areDots_345 (by decide) (fun k345 => ?_) (fun k345 => ?_)
                    · refine lv_iconst (v := 0) hC.1 hC.2.1 dL_areDots_394 (by decide) ?_
                      have e_20 : tL_areDots_18 x v (y5_18, y6_18, y7_18, y8_18, y9_18) = tL_areDots_J395 x v y5_18 y6_18 y8_18 0 := by delta tL_areDots_18; exact Eq.trans (if_neg k251) (Eq.trans (if_pos k264) (Eq.trans (if_pos k277) (Eq.trans (if_pos k290) (Eq.trans (if_pos k303) (Eq.trans (if_pos k313) (Eq.trans (if_pos k323) (Eq.trans (if_pos k334) (Eq.trans (if_neg k345) rfl))))))))
                      have hg : fL_areDots x v = tL_areDots_J395 x v y5_18 y6_18 y8_18 0 := by have e2 := congrArg (fun z => z) e_20; exact hg.trans e2
                      exact J395 y5_18 y6_18 y8_18 0 hg _ (lv_sub hl [0, 1, 2, 3, 5] rfl)
                    · refine lv_aload_n hC.1 hC.2.1 dL_areDots_348 rfl (lv_at hl 0 rfl) ?_
                      refine lv_bipush (v := 8) hC.1 hC.2.1 dL_areDots_349 (by decide +kernel) ?_
                      refine runP (rV (B := fun U H => PW G (hdW G a b x) H) (As := [.int 8]) (rest := []) hC mwX5_count (c_X5_count l G a b x 8 (by decide +kernel)) iwX5_count wd_358 ⟨rfl, rfl⟩ ⟨Nat.le_of_ble_eq_true rfl, Nat.le_of_ble_eq_true rfl⟩ (stb_h (fun H => PW G (hdW G a b x) H)) hKN hP (va_recv hKN.k hP (ci := 5) (q0 := 0) rfl rfl) rfl hl.1 rfl (Nat.le_of_ble_eq_true rfl) dL_areDots_351 ⟨Nat.zero_le _, Nat.zero_le _⟩) ?_
                      refine lv_aload hC.1 hC.2.1 dL_areDots_354 (lv_at hl 1 rfl) ?_
                      refine lv_bipush (v := 12) hC.1 hC.2.1 dL_areDots_356 (by decide +kernel) ?_
                      refine iald_k hC hKN hP2 4 rfl (n := 21) (f := (v 4)) 12 (rfl) (by omega) (by first | decide | omega) dL_areDots_358 ?_
                      refine lv_icmp_ne (tgt := 394) hC.1 hC.2.1 dL_areDots_359 (by decide) (fun k359 => ?_) (fun k359 => ?_)
                      · refine lv_iconst (v := 0) hC.1 hC.2.1 dL_areDots_394 (by decide) ?_
                        have e_21 : tL_areDots_18 x v (y5_18, y6_18, y7_18, y8_18, y9_18) = tL_areDots_J395 x v y5_18 y6_18 y8_18 0 := by delta tL_areDots_18; exact Eq.trans (if_neg k251) (Eq.trans (if_pos k264) (Eq.trans (if_pos k277) (Eq.trans (if_pos k290) (Eq.trans (if_pos k303) (Eq.trans (if_pos k313) (Eq.trans (if_pos k323) (Eq.trans (if_pos k334) (Eq.trans (if_pos k345) (Eq.trans (if_neg k359) rfl)))))))))
                        have hg : fL_areDots x v = tL_areDots_J395 x v y5_18 y6_18 y8_18 0 := by have e2 := congrArg (fun z => z) e_21; exact hg.trans e2
                        exact J395 y5_18 y6_18 y8_18 0 hg _ (lv_sub hl [0, 1, 2, 3, 5] rfl)
                      · refine lv_aload_n hC.1 hC.2.1 dL_areDots_362 rfl (lv_at hl 0 rfl) ?_
                        refine lv_bipush (v := 9) hC.1 hC.2.1 dL_areDots_363 (by decide +kernel) ?_
                        refine runP (rV (B := fun U H => PW G (hdW G a b x) H) (As := [.int 9]) (rest := []) hC mwX5_count (c_X5_count l G a b x 9 (by decide +kernel)) iwX5_count wd_358 ⟨rfl, rfl⟩ ⟨Nat.le_of_ble_eq_true rfl, Nat.le_of_ble_eq_true rfl⟩ (stb_h (fun H => PW G (hdW G a b x) H)) hKN hP (va_recv hKN.k hP (ci := 5) (q0 := 0) rfl rfl) rfl hl.1 rfl (Nat.le_of_ble_eq_true rfl) dL_areDots_365 ⟨Nat.zero_le _, Nat.zero_le _⟩) ?_
                        refine lv_aload hC.1 hC.2.1 dL_areDots_368 (lv_at hl 1 rfl) ?_
                        refine lv_bipush (v := 7) hC.1 hC.2.1 dL_areDots_370 (by decide +kernel) ?_
                        refine iald_k hC hKN hP2 4 rfl (n := 21) (f := (v 4)) 7 (rfl) (by omega) (by first | decide | omega) dL_areDots_372 ?_
                        refine lv_icmp_ne (tgt := 394) hC.1 hC.2.1 dL_areDots_373 (by decide) (fun k373 => ?_) (fun k373 => ?_)
                        · refine lv_iconst (v := 0) hC.1 hC.2.1 dL_areDots_394 (by decide) ?_
                          have e_22 : tL_areDots_18 x v (y5_18, y6_18, y7_18, y8_18, y9_18) = tL_areDots_J395 x v y5_18 y6_18 y8_18 0 := by delta tL_areDots_18; exact Eq.trans (if_neg k251) (Eq.trans (if_pos k264) (Eq.trans (if_pos k277) (Eq.trans (if_pos k290) (Eq.trans (if_pos k303) (Eq.trans (if_pos k313) (Eq.trans (if_pos k323) (Eq.trans (if_pos k334) (Eq.trans (if_pos k345) (Eq.trans (if_pos k359) (Eq.trans (if_neg k373) rfl))))))))))
                          have hg : fL_areDots x v = tL_areDots_J395 x v y5_18 y6_18 y8_18 0 := by have e2 := congrArg (fun z => z) e_22; exact hg.trans e2
                          exact J395 y5_18 y6_18 y8_18 0 hg _ (lv_sub hl [0, 1, 2, 3, 5] rfl)
                        · refine lv_aload_n hC.1 hC.2.1 dL_areDots_376 rfl (lv_at hl 0 rfl) ?_
                          refine lv_bipush (v := 10) hC.1 hC.2.1 dL_areDots_377 (by decide +kernel) ?_
                          refine runP (rV (B := fun U H => PW G (hdW G a b x) H) (As := [.int 10]) (rest := []) hC mwX5_count (c_X5_count l G a b x 10 (by decide +kernel)) iwX5_count wd_358 ⟨rfl, rfl⟩ ⟨Nat.le_of_ble_eq_true rfl, Nat.le_of_ble_eq_true rfl⟩ (stb_h (fun H => PW G (hdW G a b x) H)) hKN hP (va_recv hKN.k hP (ci := 5) (q0 := 0) rfl rfl) rfl hl.1 rfl (Nat.le_of_ble_eq_true rfl) dL_areDots_379 ⟨Nat.zero_le _, Nat.zero_le _⟩) ?_
                          refine lv_aload hC.1 hC.2.1 dL_areDots_382 (lv_at hl 1 rfl) ?_
                          refine lv_bipush (v := 15) hC.1 hC.2.1 dL_areDots_384 (by decide +kernel) ?_
                          refine iald_k hC hKN hP2 4 rfl (n := 21) (f := (v 4)) 15 (rfl) (by omega) (by first | decide | omega) dL_areDots_386 ?_
                          refine lv_icmp_ne (tgt := 394) hC.1 hC.2.1 dL_areDots_387 (by decide) (fun k387 => ?_) (fun k387 => ?_)
                          · refine lv_iconst (v := 0) hC.1 hC.2.1 dL_areDots_394 (by decide) ?_
                            have e_23 : tL_areDots_18 x v (y5_18, y6_18, y7_18, y8_18, y9_18) = tL_areDots_J395 x v y5_18 y6_18 y8_18 0 := by delta tL_areDots_18; exact Eq.trans (if_neg k251) (Eq.trans (if_pos k264) (Eq.trans (if_pos k277) (Eq.trans (if_pos k290) (Eq.trans (if_pos k303) (Eq.trans (if_pos k313) (Eq.trans (if_pos k323) (Eq.trans (if_pos k334) (Eq.trans (if_pos k345) (Eq.trans (if_pos k359) (Eq.trans (if_pos k373) (Eq.trans (if_neg k387) rfl)))))))))))
                            have hg : fL_areDots x v = tL_areDots_J395 x v y5_18 y6_18 y8_18 0 := by have e2 := congrArg (fun z => z) e_23; exact hg.trans e2
                            exact J395 y5_18 y6_18 y8_18 0 hg _ (lv_sub hl [0, 1, 2, 3, 5] rfl)
                          · refine lv_iconst (v := 1) hC.1 hC.2.1 dL_areDots_390 (by decide) ?_
                            refine lv_goto (tgt := 395) hC.1 hC.2.1 dL_areDots_391 (by decide) ?_
                            have e_24 : tL_areDots_18 x v (y5_18, y6_18, y7_18, y8_18, y9_18) = tL_areDots_J395 x v y5_18 y6_18 y8_18 1 := by delta tL_areDots_18; exact Eq.trans (if_neg k251) (Eq.trans (if_pos k264) (Eq.trans (if_pos k277) (Eq.trans (if_pos k290) (Eq.trans (if_pos k303) (Eq.trans (if_pos k313) (Eq.trans (if_pos k323) (Eq.trans (if_pos k334) (Eq.trans (if_pos k345) (Eq.trans (if_pos k359) (Eq.trans (if_pos k373) (Eq.trans (if_pos k387) rfl)))))))))))
                            have hg : fL_areDots x v = tL_areDots_J395 x v y5_18 y6_18 y8_18 1 := by have e2 := congrArg (fun z => z) e_24; exact hg.trans e2
                            exact J395 y5_18 y6_18 y8_18 1 hg _ (lv_sub hl [0, 1, 2, 3, 5] rfl)
  have L18 : ∀ (n18 d18 : Nat), ∀ (y5_18 : Int32) (y6_18 : Int32) (y7_18 : Int32) (y8_18 : Int32) (y9_18 : Int32), d18 + n18 = 24 → fL_areDots x v = (Sum.elim (tL_areDots_18 x v) (tL_areDots_18 x v) (lpR n18 d18 (bL_areDots_18 x v) (y5_18, y6_18, y7_18, y8_18, y9_18))) → ∀ (ls : Array Slot), lv_has ls 14 [(0, .ref (a 0)), (1, .ref (q 0)), (2, .ref (q 1)), (3, .ref (q 2)), (4, .ref (q 4)), (5, .int y5_18), (6, .int y6_18), (7, .int y7_18), (8, .int y8_18), (9, .int y9_18), (10, .int (nI d18))] → W p l e ({ frames := 5, cells := 0, slots := 0, locals := 114 }) s m ([.ref (a 0), .ref (q 0), .ref (q 1), .ref (q 2), .ref (q 4)] : List Value).toArray below meth c s.heap [] 0 0 (MQ below (QP (.int (fL_areDots x v))) ([.ref (a 0), .ref (q 0), .ref (q 1), .ref (q 2), .ref (q 4)] : List Value).toArray s 0 0 (fun _ => False)) (F0 m 18 ls []) := by
    intro n18
    induction n18 with
    | zero =>
      intro d18 y5_18 y6_18 y7_18 y8_18 y9_18 hd hg ls hl
      refine lv_iload hC.1 hC.2.1 dL_areDots_18 (lv_at hl 10 rfl) ?_
      refine lv_bipush (v := 24) hC.1 hC.2.1 dL_areDots_20 (by decide +kernel) ?_
      refine lv_icmp_ge (tgt := 249) hC.1 hC.2.1 dL_areDots_22 (by decide) (fun k22 => ?_) (fun k22 => ?_)
      · exact A18  y5_18 y6_18 y7_18 y8_18 y9_18 hg _ (lv_sub hl [0, 4, 5, 6, 7, 8, 9] rfl)
      · exact absurd (nI_le (a := 24) (b := d18) (by omega) (by omega)) k22
    | succ n18 ih =>
      intro d18 y5_18 y6_18 y7_18 y8_18 y9_18 hd hg ls hl
      have hg : fL_areDots x v = (Sum.elim (tL_areDots_18 x v) (tL_areDots_18 x v) (lpRs n18 d18 (bL_areDots_18 x v) (bL_areDots_18 x v d18 (y5_18, y6_18, y7_18, y8_18, y9_18)))) := hg
      refine lv_iload hC.1 hC.2.1 dL_areDots_18 (lv_at hl 10 rfl) ?_
      refine lv_bipush (v := 24) hC.1 hC.2.1 dL_areDots_20 (by decide +kernel) ?_
      refine lv_icmp_ge (tgt := 249) hC.1 hC.2.1 dL_areDots_22 (by decide) (fun k22 => ?_) (fun k22 => ?_)
      · exact absurd k22 (nI_ge (a := d18) (b := 24) (by omega) (by omega))
      · refine lv_iload hC.1 hC.2.1 dL_areDots_25 (lv_at hl 9 rfl) ?_
        refine lv_if_eq (tgt := 249) hC.1 hC.2.1 dL_areDots_27 (by decide) (fun k27 => ?_) (fun k27 => ?_)
        · have e_25 : bL_areDots_18 x v d18 (y5_18, y6_18, y7_18, y8_18, y9_18) = Sum.inr (y5_18, y6_18, y7_18, y8_18, y9_18) := by delta bL_areDots_18; exact Eq.trans (if_pos k27) rfl
          have hg : fL_areDots x v = (tL_areDots_18 x v (y5_18, y6_18, y7_18, y8_18, y9_18)) := by have e2 := congrArg (fun z => (Sum.elim (tL_areDots_18 x v) (tL_areDots_18 x v) (lpRs n18 d18 (bL_areDots_18 x v) z))) e_25; exact hg.trans e2
          exact A18  y5_18 y6_18 y7_18 y8_18 y9_18 hg _ (lv_sub hl [0, 4, 5, 6, 7, 8, 9] rfl)
        · refine lv_aload hC.1 hC.2.1 dL_areDots_30 (lv_at hl 4 rfl) ?_
          refine lv_iconst (v := 0) hC.1 hC.2.1 dL_areDots_32 (by decide) ?_
          refine lv_iload hC.1 hC.2.1 dL_areDots_33 (lv_at hl 10 rfl) ?_
          refine lv_aload hC.1 hC.2.1 dL_areDots_35 (lv_at hl 4 rfl) ?_
          refine lv_iconst (v := 0) hC.1 hC.2.1 dL_areDots_37 (by decide) ?_
          refine iald_k hC hKN hP2 4 rfl (n := 21) (f := (v 4)) 0 (rfl) (by omega) (by first | decide | omega) dL_areDots_38 ?_
          refine runP (rS (B := fun U H => PW G (lwW G q v) H) (As := [.ref (q 4), .int 0, .int (nI d18), .int ((v 4) 0)]) (rest := []) hC mwL_pulse (c_L_pulse l G q v 0 (nI d18) ((v 4) 0)) wd_226 wd_225 ⟨rfl, rfl⟩ ⟨Nat.le_of_ble_eq_true rfl, Nat.le_of_ble_eq_true rfl⟩ (stb_h (fun H => PW G (lwW G q v) H)) hKN hP2 rfl hl.1 rfl (Nat.le_of_ble_eq_true rfl) dL_areDots_39 ⟨Nat.zero_le _, Nat.zero_le _⟩) ?_
          refine lv_istore (lv' := [(11, .int (fL_pulse v 0 (nI d18) ((v 4) 0))), (0, .ref (a 0)), (1, .ref (q 0)), (2, .ref (q 1)), (3, .ref (q 2)), (4, .ref (q 4)), (5, .int y5_18), (6, .int y6_18), (7, .int y7_18), (8, .int y8_18), (9, .int y9_18), (10, .int (nI d18))]) hC.1 hC.2.1 dL_areDots_42 hl (by decide) rfl (fun ls hl => ?_)
          refine lv_iconst (v := 0) hC.1 hC.2.1 dL_areDots_44 (by decide) ?_
          refine lv_istore (lv' := [(12, .int 0), (11, .int (fL_pulse v 0 (nI d18) ((v 4) 0))), (0, .ref (a 0)), (1, .ref (q 0)), (2, .ref (q 1)), (3, .ref (q 2)), (4, .ref (q 4)), (5, .int y5_18), (6, .int y6_18), (7, .int y7_18), (8, .int y8_18), (9, .int y9_18), (10, .int (nI d18))]) hC.1 hC.2.1 dL_areDots_45 hl (by decide) rfl (fun ls hl => ?_)
          refine lv_aload_n hC.1 hC.2.1 dL_areDots_47 rfl (lv_at hl 3 rfl) ?_
          refine lv_iload hC.1 hC.2.1 dL_areDots_48 (lv_at hl 12 rfl) ?_
          refine iald_k hC hKN hP2 0 rfl (n := 24) (f := (v 0)) d18 (rfl) (by omega) (by first | decide | omega) dL_areDots_50 ?_
          refine lv_istore (lv' := [(13, .int ((v 0) d18)), (12, .int 0), (11, .int (fL_pulse v 0 (nI d18) ((v 4) 0))), (0, .ref (a 0)), (1, .ref (q 0)), (2, .ref (q 1)), (3, .ref (q 2)), (4, .ref (q 4)), (5, .int y5_18), (6, .int y6_18), (7, .int y7_18), (8, .int y8_18), (9, .int y9_18), (10, .int (nI d18))]) hC.1 hC.2.1 dL_areDots_51 hl (by decide) rfl (fun ls hl => ?_)
          have A53 : ∀ (y5_53 : Int32) (y6_53 : Int32) (y7_53 : Int32) (y8_53 : Int32) (y11_53 : Int32), ∀ (y12_53 : Int32) (y13_53 : Int32), fL_areDots x v = (Sum.elim (tL_areDots_18 x v) (tL_areDots_18 x v) (lpRs n18 d18 (bL_areDots_18 x v) (tL_areDots_53 x v d18 y5_53 y6_53 y7_53 y8_53 y11_53 (y12_53, y13_53)))) → ∀ (ls : Array Slot), lv_has ls 14 [(0, .ref (a 0)), (1, .ref (q 0)), (2, .ref (q 1)), (3, .ref (q 2)), (4, .ref (q 4)), (5, .int y5_53), (6, .int y6_53), (7, .int y7_53), (8, .int y8_53), (10, .int (nI d18)), (11, .int y11_53), (12, .int y12_53)] → W p l e ({ frames := 5, cells := 0, slots := 0, locals := 114 }) s m ([.ref (a 0), .ref (q 0), .ref (q 1), .ref (q 2), .ref (q 4)] : List Value).toArray below meth c s.heap [] 0 0 (MQ below (QP (.int (fL_areDots x v))) ([.ref (a 0), .ref (q 0), .ref (q 1), .ref (q 2), .ref (q 4)] : List Value).toArray s 0 0 (fun _ => False)) (F0 m 82 ls []) := by
            intro y5_53 y6_53 y7_53 y8_53 y11_53 y12_53 y13_53 hg ls hl
            refine lv_aload_n hC.1 hC.2.1 dL_areDots_82 rfl (lv_at hl 0 rfl) ?_
            refine lv_iload hC.1 hC.2.1 dL_areDots_83 (lv_at hl 9 rfl) ?_
            refine lv_iconst (v := 0) hC.1 hC.2.1 dL_areDots_85 (by decide) ?_
            refine runP (rV (B := fun U H => PW G (hdW G a b x) H) (As := [.int (nI d18), .int 0]) (rest := []) hC mwX5_dot (c_X5_dot l G a b x (nI d18) 0 (isDot_n (by omega)) (by decide +kernel)) iwX5_dot wd_231 ⟨rfl, rfl⟩ ⟨Nat.le_of_ble_eq_true rfl, Nat.le_of_ble_eq_true rfl⟩ (stb_h (fun H => PW G (hdW G a b x) H)) hKN hP (va_recv hKN.k hP (ci := 5) (q0 := 0) rfl rfl) rfl hl.1 rfl (Nat.le_of_ble_eq_true rfl) dL_areDots_86 ⟨Nat.zero_le _, Nat.zero_le _⟩) ?_
            refine lv_aload_n hC.1 hC.2.1 dL_areDots_89 rfl (lv_at hl 1 rfl) ?_
            refine lv_iload hC.1 hC.2.1 dL_areDots_90 (lv_at hl 9 rfl) ?_
            refine iald_k hC hKN hP2 0 rfl (n := 24) (f := (v 0)) d18 (rfl) (by omega) (by first | decide | omega) dL_areDots_92 ?_
            have J194 : ∀ (y5_194 : Int32) (y6_194 : Int32) (y7_194 : Int32) (y8_194 : Int32) (z0_194 : Int32), fL_areDots x v = (Sum.elim (tL_areDots_18 x v) (tL_areDots_18 x v) (lpRs n18 d18 (bL_areDots_18 x v) (tL_areDots_J194 x v d18 y5_194 y6_194 y7_194 y8_194 z0_194))) → ∀ (ls : Array Slot), lv_has ls 14 [(0, .ref (a 0)), (1, .ref (q 0)), (2, .ref (q 1)), (3, .ref (q 2)), (4, .ref (q 4)), (5, .int y5_194), (6, .int y6_194), (7, .int y7_194), (8, .int y8_194), (10, .int (nI d18))] → W p l e ({ frames := 5, cells := 0, slots := 0, locals := 114 }) s m ([.ref (a 0), .ref (q 0), .ref (q 1), .ref (q 2), .ref (q 4)] : List Value).toArray below meth c s.heap [] 0 0 (MQ below (QP (.int (fL_areDots x v))) ([.ref (a 0), .ref (q 0), .ref (q 1), .ref (q 2), .ref (q 4)] : List Value).toArray s 0 0 (fun _ => False)) (F0 m 194 ls [.int z0_194]) := by
              intro y5_194 y6_194 y7_194 y8_194 z0_194 hg ls hl
              refine lv_istore (lv' := [(9, .int z0_194), (0, .ref (a 0)), (1, .ref (q 0)), (2, .ref (q 1)), (3, .ref (q 2)), (4, .ref (q 4)), (5, .int y5_194), (6, .int y6_194), (7, .int y7_194), (8, .int y8_194), (10, .int (nI d18))]) hC.1 hC.2.1 dL_areDots_194 hl (by decide) rfl (fun ls hl => ?_)
              refine lv_iload hC.1 hC.2.1 dL_areDots_196 (lv_at hl 6 rfl) ?_
              refine lv_aload_n hC.1 hC.2.1 dL_areDots_198 rfl (lv_at hl 3 rfl) ?_
              refine lv_iload hC.1 hC.2.1 dL_areDots_199 (lv_at hl 10 rfl) ?_
              refine iald_k hC hKN hP2 1 rfl (n := 24) (f := (v 1)) d18 (rfl) (by omega) (by first | decide | omega) dL_areDots_201 ?_
              refine lv_iadd hC.1 hC.2.1 dL_areDots_202 ?_
              refine lv_istore (lv' := [(5, .int (y5_194 + ((v 1) d18))), (9, .int z0_194), (0, .ref (a 0)), (1, .ref (q 0)), (2, .ref (q 1)), (3, .ref (q 2)), (4, .ref (q 4)), (6, .int y6_194), (7, .int y7_194), (8, .int y8_194), (10, .int (nI d18))]) hC.1 hC.2.1 dL_areDots_203 hl (by decide) rfl (fun ls hl => ?_)
              refine lv_iload hC.1 hC.2.1 dL_areDots_205 (lv_at hl 7 rfl) ?_
              refine lv_aload_n hC.1 hC.2.1 dL_areDots_207 rfl (lv_at hl 5 rfl) ?_
              refine lv_iload hC.1 hC.2.1 dL_areDots_208 (lv_at hl 10 rfl) ?_
              refine iald_k hC hKN hP2 2 rfl (n := 24) (f := (v 2)) d18 (rfl) (by omega) (by first | decide | omega) dL_areDots_210 ?_
              refine lv_iadd hC.1 hC.2.1 dL_areDots_211 ?_
              refine lv_istore (lv' := [(6, .int (y6_194 + ((v 2) d18))), (5, .int (y5_194 + ((v 1) d18))), (9, .int z0_194), (0, .ref (a 0)), (1, .ref (q 0)), (2, .ref (q 1)), (3, .ref (q 2)), (4, .ref (q 4)), (7, .int y7_194), (8, .int y8_194), (10, .int (nI d18))]) hC.1 hC.2.1 dL_areDots_212 hl (by decide) rfl (fun ls hl => ?_)
              refine lv_iload hC.1 hC.2.1 dL_areDots_214 (lv_at hl 9 rfl) ?_
              refine lv_aload_n hC.1 hC.2.1 dL_areDots_216 rfl (lv_at hl 4 rfl) ?_
              refine lv_iload hC.1 hC.2.1 dL_areDots_217 (lv_at hl 10 rfl) ?_
              refine iald_k hC hKN hP2 0 rfl (n := 24) (f := (v 0)) d18 (rfl) (by omega) (by first | decide | omega) dL_areDots_219 ?_
              refine lv_iadd hC.1 hC.2.1 dL_areDots_220 ?_
              refine lv_istore (lv' := [(8, .int (y8_194 + ((v 0) d18))), (6, .int (y6_194 + ((v 2) d18))), (5, .int (y5_194 + ((v 1) d18))), (9, .int z0_194), (0, .ref (a 0)), (1, .ref (q 0)), (2, .ref (q 1)), (3, .ref (q 2)), (4, .ref (q 4)), (7, .int y7_194), (10, .int (nI d18))]) hC.1 hC.2.1 dL_areDots_221 hl (by decide) rfl (fun ls hl => ?_)
              refine lv_aload_n hC.1 hC.2.1 dL_areDots_223 rfl (lv_at hl 5 rfl) ?_
              refine lv_iload hC.1 hC.2.1 dL_areDots_224 (lv_at hl 10 rfl) ?_
              refine iald_k hC hKN hP2 0 rfl (n := 24) (f := (v 0)) d18 (rfl) (by omega) (by first | decide | omega) dL_areDots_226 ?_
              refine lv_iload hC.1 hC.2.1 dL_areDots_227 (lv_at hl 9 rfl) ?_
              have J241 : ∀ (y5_241 : Int32) (y6_241 : Int32) (y8_241 : Int32) (y9_241 : Int32) (z0_241 : Int32), fL_areDots x v = (Sum.elim (tL_areDots_18 x v) (tL_areDots_18 x v) (lpRs n18 d18 (bL_areDots_18 x v) (tL_areDots_J241 x v d18 y5_241 y6_241 y8_241 y9_241 z0_241))) → ∀ (ls : Array Slot), lv_has ls 14 [(0, .ref (a 0)), (1, .ref (q 0)), (2, .ref (q 1)), (3, .ref (q 2)), (4, .ref (q 4)), (5, .int y5_241), (6, .int y6_241), (8, .int y8_241), (9, .int y9_241), (10, .int (nI d18))] → W p l e ({ frames := 5, cells := 0, slots := 0, locals := 114 }) s m ([.ref (a 0), .ref (q 0), .ref (q 1), .ref (q 2), .ref (q 4)] : List Value).toArray below meth c s.heap [] 0 0 (MQ below (QP (.int (fL_areDots x v))) ([.ref (a 0), .ref (q 0), .ref (q 1), .ref (q 2), .ref (q 4)] : List Value).toArray s 0 0 (fun _ => False)) (F0 m 241 ls [.int z0_241]) := by
                intro y5_241 y6_241 y8_241 y9_241 z0_241 hg ls hl
                refine lv_istore (lv' := [(7, .int z0_241), (0, .ref (a 0)), (1, .ref (q 0)), (2, .ref (q 1)), (3, .ref (q 2)), (4, .ref (q 4)), (5, .int y5_241), (6, .int y6_241), (8, .int y8_241), (9, .int y9_241), (10, .int (nI d18))]) hC.1 hC.2.1 dL_areDots_241 hl (by decide) rfl (fun ls hl => ?_)
                refine lv_iinc (v := nI (d18 + 1)) (lv' := [(10, .int (nI (d18 + 1))), (7, .int z0_241), (0, .ref (a 0)), (1, .ref (q 0)), (2, .ref (q 1)), (3, .ref (q 2)), (4, .ref (q 4)), (5, .int y5_241), (6, .int y6_241), (8, .int y8_241), (9, .int y9_241)]) hC.1 hC.2.1 dL_areDots_243 hl (k := 10) rfl (nI_1 _) (by decide) rfl (fun ls hl => ?_)
                refine lv_goto (tgt := 18) hC.1 hC.2.1 dL_areDots_246 (by decide) ?_
                have e_26 : tL_areDots_J241 x v d18 y5_241 y6_241 y8_241 y9_241 z0_241 = Sum.inl (y5_241, y6_241, z0_241, y8_241, y9_241) := by delta tL_areDots_J241; exact rfl
                have hg : fL_areDots x v = (Sum.elim (tL_areDots_18 x v) (tL_areDots_18 x v) (lpR n18 (d18 + 1) (bL_areDots_18 x v) (y5_241, y6_241, z0_241, y8_241, y9_241))) := by have e2 := congrArg (fun z => (Sum.elim (tL_areDots_18 x v) (tL_areDots_18 x v) (lpRs n18 d18 (bL_areDots_18 x v) z))) e_26; exact hg.trans e2
                exact ih (d18 + 1) y5_241 y6_241 z0_241 y8_241 y9_241 (by omega) hg _ (lv_sub hl [2, 3, 4, 5, 6, 7, 8, 1, 9, 10, 0] rfl)
              refine lv_icmp_le (tgt := 239) hC.1 hC.2.1 dL_areDots_229 (by decide) (fun k229 => ?_) (fun k229 => ?_)
              · refine lv_iload hC.1 hC.2.1 dL_areDots_239 (lv_at hl 9 rfl) ?_
                have e_27 : tL_areDots_J194 x v d18 y5_194 y6_194 y7_194 y8_194 z0_194 = tL_areDots_J241 x v d18 (y5_194 + ((v 1) d18)) (y6_194 + ((v 2) d18)) (y8_194 + ((v 0) d18)) z0_194 y7_194 := by delta tL_areDots_J194; exact Eq.trans (if_pos k229) rfl
                have hg : fL_areDots x v = (Sum.elim (tL_areDots_18 x v) (tL_areDots_18 x v) (lpRs n18 d18 (bL_areDots_18 x v) (tL_areDots_J241 x v d18 (y5_194 + ((v 1) d18)) (y6_194 + ((v 2) d18)) (y8_194 + ((v 0) d18)) z0_194 y7_194))) := by have e2 := congrArg (fun z => (Sum.elim (tL_areDots_18 x v) (tL_areDots_18 x v) (lpRs n18 d18 (bL_areDots_18 x v) z))) e_27; exact hg.trans e2
                exact J241 (y5_194 + ((v 1) d18)) (y6_194 + ((v 2) d18)) (y8_194 + ((v 0) d18)) z0_194 y7_194 hg _ (lv_sub hl [4, 5, 6, 7, 8, 2, 1, 0, 3, 10] rfl)
              · refine lv_aload_n hC.1 hC.2.1 dL_areDots_232 rfl (lv_at hl 5 rfl) ?_
                refine lv_iload hC.1 hC.2.1 dL_areDots_233 (lv_at hl 10 rfl) ?_
                refine iald_k hC hKN hP2 0 rfl (n := 24) (f := (v 0)) d18 (rfl) (by omega) (by first | decide | omega) dL_areDots_235 ?_
                refine lv_goto (tgt := 241) hC.1 hC.2.1 dL_areDots_236 (by decide) ?_
                have e_28 : tL_areDots_J194 x v d18 y5_194 y6_194 y7_194 y8_194 z0_194 = tL_areDots_J241 x v d18 (y5_194 + ((v 1) d18)) (y6_194 + ((v 2) d18)) (y8_194 + ((v 0) d18)) z0_194 ((v 0) d18) := by delta tL_areDots_J194; exact Eq.trans (if_neg k229) rfl
                have hg : fL_areDots x v = (Sum.elim (tL_areDots_18 x v) (tL_areDots_18 x v) (lpRs n18 d18 (bL_areDots_18 x v) (tL_areDots_J241 x v d18 (y5_194 + ((v 1) d18)) (y6_194 + ((v 2) d18)) (y8_194 + ((v 0) d18)) z0_194 ((v 0) d18)))) := by have e2 := congrArg (fun z => (Sum.elim (tL_areDots_18 x v) (tL_areDots_18 x v) (lpRs n18 d18 (bL_areDots_18 x v) z))) e_28; exact hg.trans e2
                exact J241 (y5_194 + ((v 1) d18)) (y6_194 + ((v 2) d18)) (y8_194 + ((v 0) d18)) z0_194 ((v 0) d18) hg _ (lv_sub hl [4, 5, 6, 7, 8, 2, 1, 0, 3, 10] rfl)
            refine lv_icmp_ne (tgt := 193) hC.1 hC.2.1 dL_areDots_93 (by decide) (fun k93 => ?_) (fun k93 => ?_)
            · refine lv_iconst (v := 0) hC.1 hC.2.1 dL_areDots_193 (by decide) ?_
              have e_29 : tL_areDots_53 x v d18 y5_53 y6_53 y7_53 y8_53 y11_53 (y12_53, y13_53) = tL_areDots_J194 x v d18 y5_53 y6_53 y7_53 y8_53 0 := by delta tL_areDots_53; exact Eq.trans (if_neg k93) rfl
              have hg : fL_areDots x v = (Sum.elim (tL_areDots_18 x v) (tL_areDots_18 x v) (lpRs n18 d18 (bL_areDots_18 x v) (tL_areDots_J194 x v d18 y5_53 y6_53 y7_53 y8_53 0))) := by have e2 := congrArg (fun z => (Sum.elim (tL_areDots_18 x v) (tL_areDots_18 x v) (lpRs n18 d18 (bL_areDots_18 x v) z))) e_29; exact hg.trans e2
              exact J194 y5_53 y6_53 y7_53 y8_53 0 hg _ (lv_sub hl [0, 1, 2, 3, 4, 5, 6, 7, 8, 9] rfl)
            · refine lv_aload_n hC.1 hC.2.1 dL_areDots_96 rfl (lv_at hl 0 rfl) ?_
              refine lv_iload hC.1 hC.2.1 dL_areDots_97 (lv_at hl 9 rfl) ?_
              refine lv_iconst (v := 1) hC.1 hC.2.1 dL_areDots_99 (by decide) ?_
              refine runP (rV (B := fun U H => PW G (hdW G a b x) H) (As := [.int (nI d18), .int 1]) (rest := []) hC mwX5_dot (c_X5_dot l G a b x (nI d18) 1 (isDot_n (by omega)) (by decide +kernel)) iwX5_dot wd_231 ⟨rfl, rfl⟩ ⟨Nat.le_of_ble_eq_true rfl, Nat.le_of_ble_eq_true rfl⟩ (stb_h (fun H => PW G (hdW G a b x) H)) hKN hP (va_recv hKN.k hP (ci := 5) (q0 := 0) rfl rfl) rfl hl.1 rfl (Nat.le_of_ble_eq_true rfl) dL_areDots_100 ⟨Nat.zero_le _, Nat.zero_le _⟩) ?_
              refine lv_aload hC.1 hC.2.1 dL_areDots_103 (lv_at hl 4 rfl) ?_
              refine lv_bipush (v := 13) hC.1 hC.2.1 dL_areDots_105 (by decide +kernel) ?_
              refine iald_k hC hKN hP2 4 rfl (n := 21) (f := (v 4)) 13 (rfl) (by omega) (by first | decide | omega) dL_areDots_107 ?_
              refine lv_iload hC.1 hC.2.1 dL_areDots_108 (lv_at hl 9 rfl) ?_
              refine lv_ishr hC.1 hC.2.1 dL_areDots_110 ?_
              refine lv_iconst (v := 1) hC.1 hC.2.1 dL_areDots_111 (by decide) ?_
              refine lv_iand hC.1 hC.2.1 dL_areDots_112 ?_
              refine lv_icmp_ne (tgt := 193) hC.1 hC.2.1 dL_areDots_113 (by decide) (fun k113 => ?_) (fun k113 => ?_)
              · refine lv_iconst (v := 0) hC.1 hC.2.1 dL_areDots_193 (by decide) ?_
                have e_30 : tL_areDots_53 x v d18 y5_53 y6_53 y7_53 y8_53 y11_53 (y12_53, y13_53) = tL_areDots_J194 x v d18 y5_53 y6_53 y7_53 y8_53 0 := by delta tL_areDots_53; exact Eq.trans (if_pos k93) (Eq.trans (if_neg k113) rfl)
                have hg : fL_areDots x v = (Sum.elim (tL_areDots_18 x v) (tL_areDots_18 x v) (lpRs n18 d18 (bL_areDots_18 x v) (tL_areDots_J194 x v d18 y5_53 y6_53 y7_53 y8_53 0))) := by have e2 := congrArg (fun z => (Sum.elim (tL_areDots_18 x v) (tL_areDots_18 x v) (lpRs n18 d18 (bL_areDots_18 x v) z))) e_30; exact hg.trans e2
                exact J194 y5_53 y6_53 y7_53 y8_53 0 hg _ (lv_sub hl [0, 1, 2, 3, 4, 5, 6, 7, 8, 9] rfl)
              · refine lv_aload_n hC.1 hC.2.1 dL_areDots_116 rfl (lv_at hl 0 rfl) ?_
                refine lv_iload hC.1 hC.2.1 dL_areDots_117 (lv_at hl 9 rfl) ?_
                refine lv_iconst (v := 2) hC.1 hC.2.1 dL_areDots_119 (by decide) ?_
                refine runP (rV (B := fun U H => PW G (hdW G a b x) H) (As := [.int (nI d18), .int 2]) (rest := []) hC mwX5_dot (c_X5_dot l G a b x (nI d18) 2 (isDot_n (by omega)) (by decide +kernel)) iwX5_dot wd_231 ⟨rfl, rfl⟩ ⟨Nat.le_of_ble_eq_true rfl, Nat.le_of_ble_eq_true rfl⟩ (stb_h (fun H => PW G (hdW G a b x) H)) hKN hP (va_recv hKN.k hP (ci := 5) (q0 := 0) rfl rfl) rfl hl.1 rfl (Nat.le_of_ble_eq_true rfl) dL_areDots_120 ⟨Nat.zero_le _, Nat.zero_le _⟩) ?_
                refine lv_aload hC.1 hC.2.1 dL_areDots_123 (lv_at hl 4 rfl) ?_
                refine lv_bipush (v := 14) hC.1 hC.2.1 dL_areDots_125 (by decide +kernel) ?_
                refine iald_k hC hKN hP2 4 rfl (n := 21) (f := (v 4)) 14 (rfl) (by omega) (by first | decide | omega) dL_areDots_127 ?_
                refine lv_iload hC.1 hC.2.1 dL_areDots_128 (lv_at hl 9 rfl) ?_
                refine lv_ishr hC.1 hC.2.1 dL_areDots_130 ?_
                refine lv_iconst (v := 1) hC.1 hC.2.1 dL_areDots_131 (by decide) ?_
                refine lv_iand hC.1 hC.2.1 dL_areDots_132 ?_
                refine lv_icmp_ne (tgt := 193) hC.1 hC.2.1 dL_areDots_133 (by decide) (fun k133 => ?_) (fun k133 => ?_)
                · refine lv_iconst (v := 0) hC.1 hC.2.1 dL_areDots_193 (by decide) ?_
                  have e_31 : tL_areDots_53 x v d18 y5_53 y6_53 y7_53 y8_53 y11_53 (y12_53, y13_53) = tL_areDots_J194 x v d18 y5_53 y6_53 y7_53 y8_53 0 := by delta tL_areDots_53; exact Eq.trans (if_pos k93) (Eq.trans (if_pos k113) (Eq.trans (if_neg k133) rfl))
                  have hg : fL_areDots x v = (Sum.elim (tL_areDots_18 x v) (tL_areDots_18 x v) (lpRs n18 d18 (bL_areDots_18 x v) (tL_areDots_J194 x v d18 y5_53 y6_53 y7_53 y8_53 0))) := by have e2 := congrArg (fun z => (Sum.elim (tL_areDots_18 x v) (tL_areDots_18 x v) (lpRs n18 d18 (bL_areDots_18 x v) z))) e_31; exact hg.trans e2
                  exact J194 y5_53 y6_53 y7_53 y8_53 0 hg _ (lv_sub hl [0, 1, 2, 3, 4, 5, 6, 7, 8, 9] rfl)
                · refine lv_aload_n hC.1 hC.2.1 dL_areDots_136 rfl (lv_at hl 0 rfl) ?_
                  refine lv_iload hC.1 hC.2.1 dL_areDots_137 (lv_at hl 9 rfl) ?_
                  refine lv_iconst (v := 3) hC.1 hC.2.1 dL_areDots_139 (by decide) ?_
                  refine runP (rV (B := fun U H => PW G (hdW G a b x) H) (As := [.int (nI d18), .int 3]) (rest := []) hC mwX5_dot (c_X5_dot l G a b x (nI d18) 3 (isDot_n (by omega)) (by decide +kernel)) iwX5_dot wd_231 ⟨rfl, rfl⟩ ⟨Nat.le_of_ble_eq_true rfl, Nat.le_of_ble_eq_true rfl⟩ (stb_h (fun H => PW G (hdW G a b x) H)) hKN hP (va_recv hKN.k hP (ci := 5) (q0 := 0) rfl rfl) rfl hl.1 rfl (Nat.le_of_ble_eq_true rfl) dL_areDots_140 ⟨Nat.zero_le _, Nat.zero_le _⟩) ?_
                  refine lv_aload_n hC.1 hC.2.1 dL_areDots_143 rfl (lv_at hl 2 rfl) ?_
                  refine lv_iload hC.1 hC.2.1 dL_areDots_144 (lv_at hl 9 rfl) ?_
                  refine iald_k hC hKN hP2 1 rfl (n := 24) (f := (v 1)) d18 (rfl) (by omega) (by first | decide | omega) dL_areDots_146 ?_
                  refine lv_icmp_ne (tgt := 193) hC.1 hC.2.1 dL_areDots_147 (by decide) (fun k147 => ?_) (fun k147 => ?_)
                  · refine lv_iconst (v := 0) hC.1 hC.2.1 dL_areDots_193 (by decide) ?_
                    have e_32 : tL_areDots_53 x v d18 y5_53 y6_53 y7_53 y8_53 y11_53 (y12_53, y13_53) = tL_areDots_J194 x v d18 y5_53 y6_53 y7_53 y8_53 0 := by delta tL_areDots_53; exact Eq.trans (if_pos k93) (Eq.trans (if_pos k113) (Eq.trans (if_pos k133) (Eq.trans (if_neg k147) rfl)))
                    have hg : fL_areDots x v = (Sum.elim (tL_areDots_18 x v) (tL_areDots_18 x v) (lpRs n18 d18 (bL_areDots_18 x v) (tL_areDots_J194 x v d18 y5_53 y6_53 y7_53 y8_53 0))) := by have e2 := congrArg (fun z => (Sum.elim (tL_areDots_18 x v) (tL_areDots_18 x v) (lpRs n18 d18 (bL_areDots_18 x v) z))) e_32; exact hg.trans e2
                    exact J194 y5_53 y6_53 y7_53 y8_53 0 hg _ (lv_sub hl [0, 1, 2, 3, 4, 5, 6, 7, 8, 9] rfl)
                  · refine lv_aload_n hC.1 hC.2.1 dL_areDots_150 rfl (lv_at hl 0 rfl) ?_
                    refine lv_iload hC.1 hC.2.1 dL_areDots_151 (lv_at hl 9 rfl) ?_
                    refine lv_iconst (v := 4) hC.1 hC.2.1 dL_areDots_153 (by decide) ?_
                    refine runP (rV (B := fun U H => PW G (hdW G a b x) H) (As := [.int (nI d18), .int 4]) (rest := []) hC mwX5_dot (c_X5_dot l G a b x (nI d18) 4 (isDot_n (by omega)) (by decide +kernel)) iwX5_dot wd_231 ⟨rfl, rfl⟩ ⟨Nat.le_of_ble_eq_true rfl, Nat.le_of_ble_eq_true rfl⟩ (stb_h (fun H => PW G (hdW G a b x) H)) hKN hP (va_recv hKN.k hP (ci := 5) (q0 := 0) rfl rfl) rfl hl.1 rfl (Nat.le_of_ble_eq_true rfl) dL_areDots_154 ⟨Nat.zero_le _, Nat.zero_le _⟩) ?_
                    refine lv_aload_n hC.1 hC.2.1 dL_areDots_157 rfl (lv_at hl 3 rfl) ?_
                    refine lv_iload hC.1 hC.2.1 dL_areDots_158 (lv_at hl 9 rfl) ?_
                    refine iald_k hC hKN hP2 2 rfl (n := 24) (f := (v 2)) d18 (rfl) (by omega) (by first | decide | omega) dL_areDots_160 ?_
                    refine lv_icmp_ne (tgt := 193) hC.1 hC.2.1 dL_areDots_161 (by decide) (fun k161 => ?_) (fun k161 => ?_)
                    · refine lv_iconst (v := 0) hC.1 hC.2.1 dL_areDots_193 (by decide) ?_
                      have e_33 : tL_areDots_53 x v d18 y5_53 y6_53 y7_53 y8_53 y11_53 (y12_53, y13_53) = tL_areDots_J194 x v d18 y5_53 y6_53 y7_53 y8_53 0 := by delta tL_areDots_53; exact Eq.trans (if_pos k93) (Eq.trans (if_pos k113) (Eq.trans (if_pos k133) (Eq.trans (if_pos k147) (Eq.trans (if_neg k161) rfl))))
                      have hg : fL_areDots x v = (Sum.elim (tL_areDots_18 x v) (tL_areDots_18 x v) (lpRs n18 d18 (bL_areDots_18 x v) (tL_areDots_J194 x v d18 y5_53 y6_53 y7_53 y8_53 0))) := by have e2 := congrArg (fun z => (Sum.elim (tL_areDots_18 x v) (tL_areDots_18 x v) (lpRs n18 d18 (bL_areDots_18 x v) z))) e_33; exact hg.trans e2
                      exact J194 y5_53 y6_53 y7_53 y8_53 0 hg _ (lv_sub hl [0, 1, 2, 3, 4, 5, 6, 7, 8, 9] rfl)
                    · refine lv_aload_n hC.1 hC.2.1 dL_areDots_164 rfl (lv_at hl 0 rfl) ?_
                      refine lv_iload hC.1 hC.2.1 dL_areDots_165 (lv_at hl 9 rfl) ?_
                      refine lv_iconst (v := 5) hC.1 hC.2.1 dL_areDots_167 (by decide) ?_
                      refine runP (rV (B := fun U H => PW G (hdW G a b x) H) (As := [.int (nI d18), .int 5]) (rest := []) hC mwX5_dot (c_X5_dot l G a b x (nI d18) 5 (isDot_n (by omega)) (by decide +kernel)) iwX5_dot wd_231 ⟨rfl, rfl⟩ ⟨Nat.le_of_ble_eq_true rfl, Nat.le_of_ble_eq_true rfl⟩ (stb_h (fun H => PW G (hdW G a b x) H)) hKN hP (va_recv hKN.k hP (ci := 5) (q0 := 0) rfl rfl) rfl hl.1 rfl (Nat.le_of_ble_eq_true rfl) dL_areDots_168 ⟨Nat.zero_le _, Nat.zero_le _⟩) ?_
                      refine lv_iload hC.1 hC.2.1 dL_areDots_171 (lv_at hl 10 rfl) ?_
                      refine lv_icmp_ne (tgt := 193) hC.1 hC.2.1 dL_areDots_173 (by decide) (fun k173 => ?_) (fun k173 => ?_)
                      · refine lv_iconst (v := 0) hC.1 hC.2.1 dL_areDots_193 (by decide) ?_
                        have e_34 : tL_areDots_53 x v d18 y5_53 y6_53 y7_53 y8_53 y11_53 (y12_53, y13_53) = tL_areDots_J194 x v d18 y5_53 y6_53 y7_53 y8_53 0 := by delta tL_areDots_53; exact Eq.trans (if_pos k93) (Eq.trans (if_pos k113) (Eq.trans (if_pos k133) (Eq.trans (if_pos k147) (Eq.trans (if_pos k161) (Eq.trans (if_neg k173) rfl)))))
                        have hg : fL_areDots x v = (Sum.elim (tL_areDots_18 x v) (tL_areDots_18 x v) (lpRs n18 d18 (bL_areDots_18 x v) (tL_areDots_J194 x v d18 y5_53 y6_53 y7_53 y8_53 0))) := by have e2 := congrArg (fun z => (Sum.elim (tL_areDots_18 x v) (tL_areDots_18 x v) (lpRs n18 d18 (bL_areDots_18 x v) z))) e_34; exact hg.trans e2
                        exact J194 y5_53 y6_53 y7_53 y8_53 0 hg _ (lv_sub hl [0, 1, 2, 3, 4, 5, 6, 7, 8, 9] rfl)
                      · refine lv_aload_n hC.1 hC.2.1 dL_areDots_176 rfl (lv_at hl 0 rfl) ?_
                        refine lv_iload hC.1 hC.2.1 dL_areDots_177 (lv_at hl 9 rfl) ?_
                        refine lv_bipush (v := 6) hC.1 hC.2.1 dL_areDots_179 (by decide +kernel) ?_
                        refine runP (rV (B := fun U H => PW G (hdW G a b x) H) (As := [.int (nI d18), .int 6]) (rest := []) hC mwX5_dot (c_X5_dot l G a b x (nI d18) 6 (isDot_n (by omega)) (by decide +kernel)) iwX5_dot wd_231 ⟨rfl, rfl⟩ ⟨Nat.le_of_ble_eq_true rfl, Nat.le_of_ble_eq_true rfl⟩ (stb_h (fun H => PW G (hdW G a b x) H)) hKN hP (va_recv hKN.k hP (ci := 5) (q0 := 0) rfl rfl) rfl hl.1 rfl (Nat.le_of_ble_eq_true rfl) dL_areDots_181 ⟨Nat.zero_le _, Nat.zero_le _⟩) ?_
                        refine lv_iload hC.1 hC.2.1 dL_areDots_184 (lv_at hl 11 rfl) ?_
                        refine lv_icmp_ne (tgt := 193) hC.1 hC.2.1 dL_areDots_186 (by decide) (fun k186 => ?_) (fun k186 => ?_)
                        · refine lv_iconst (v := 0) hC.1 hC.2.1 dL_areDots_193 (by decide) ?_
                          have e_35 : tL_areDots_53 x v d18 y5_53 y6_53 y7_53 y8_53 y11_53 (y12_53, y13_53) = tL_areDots_J194 x v d18 y5_53 y6_53 y7_53 y8_53 0 := by delta tL_areDots_53; exact Eq.trans (if_pos k93) (Eq.trans (if_pos k113) (Eq.trans (if_pos k133) (Eq.trans (if_pos k147) (Eq.trans (if_pos k161) (Eq.trans (if_pos k173) (Eq.trans (if_neg k186) rfl))))))
                          have hg : fL_areDots x v = (Sum.elim (tL_areDots_18 x v) (tL_areDots_18 x v) (lpRs n18 d18 (bL_areDots_18 x v) (tL_areDots_J194 x v d18 y5_53 y6_53 y7_53 y8_53 0))) := by have e2 := congrArg (fun z => (Sum.elim (tL_areDots_18 x v) (tL_areDots_18 x v) (lpRs n18 d18 (bL_areDots_18 x v) z))) e_35; exact hg.trans e2
                          exact J194 y5_53 y6_53 y7_53 y8_53 0 hg _ (lv_sub hl [0, 1, 2, 3, 4, 5, 6, 7, 8, 9] rfl)
                        · refine lv_iconst (v := 1) hC.1 hC.2.1 dL_areDots_189 (by decide) ?_
                          refine lv_goto (tgt := 194) hC.1 hC.2.1 dL_areDots_190 (by decide) ?_
                          have e_36 : tL_areDots_53 x v d18 y5_53 y6_53 y7_53 y8_53 y11_53 (y12_53, y13_53) = tL_areDots_J194 x v d18 y5_53 y6_53 y7_53 y8_53 1 := by delta tL_areDots_53; exact Eq.trans (if_pos k93) (Eq.trans (if_pos k113) (Eq.trans (if_pos k133) (Eq.trans (if_pos k147) (Eq.trans (if_pos k161) (Eq.trans (if_pos k173) (Eq.trans (if_pos k186) rfl))))))
                          have hg : fL_areDots x v = (Sum.elim (tL_areDots_18 x v) (tL_areDots_18 x v) (lpRs n18 d18 (bL_areDots_18 x v) (tL_areDots_J194 x v d18 y5_53 y6_53 y7_53 y8_53 1))) := by have e2 := congrArg (fun z => (Sum.elim (tL_areDots_18 x v) (tL_areDots_18 x v) (lpRs n18 d18 (bL_areDots_18 x v) z))) e_36; exact hg.trans e2
                          exact J194 y5_53 y6_53 y7_53 y8_53 1 hg _ (lv_sub hl [0, 1, 2, 3, 4, 5, 6, 7, 8, 9] rfl)
          have L53 : ∀ (y5_53 : Int32) (y6_53 : Int32) (y7_53 : Int32) (y8_53 : Int32) (y11_53 : Int32), ∀ (n53 : Nat), ∀ (y12_53 : Int32) (y13_53 : Int32), lpT n53 (bL_areDots_53 x v d18 y5_53 y6_53 y7_53 y8_53 y11_53) (y12_53, y13_53) → fL_areDots x v = (Sum.elim (tL_areDots_18 x v) (tL_areDots_18 x v) (lpRs n18 d18 (bL_areDots_18 x v) (tL_areDots_53 x v d18 y5_53 y6_53 y7_53 y8_53 y11_53 (lpB n53 (bL_areDots_53 x v d18 y5_53 y6_53 y7_53 y8_53 y11_53) (y12_53, y13_53))))) → ∀ (ls : Array Slot), lv_has ls 14 [(0, .ref (a 0)), (1, .ref (q 0)), (2, .ref (q 1)), (3, .ref (q 2)), (4, .ref (q 4)), (5, .int y5_53), (6, .int y6_53), (7, .int y7_53), (8, .int y8_53), (10, .int (nI d18)), (11, .int y11_53), (12, .int y12_53), (13, .int y13_53)] → W p l e ({ frames := 5, cells := 0, slots := 0, locals := 114 }) s m ([.ref (a 0), .ref (q 0), .ref (q 1), .ref (q 2), .ref (q 4)] : List Value).toArray below meth c s.heap [] 0 0 (MQ below (QP (.int (fL_areDots x v))) ([.ref (a 0), .ref (q 0), .ref (q 1), .ref (q 2), .ref (q 4)] : List Value).toArray s 0 0 (fun _ => False)) (F0 m 53 ls []) := by
            intro y5_53 y6_53 y7_53 y8_53 y11_53
            intro n53
            induction n53 with
            | zero =>
              intro y12_53 y13_53 hT
              exact hT.elim
            | succ n53 ih =>
              intro y12_53 y13_53 hT hg ls hl
              have hg : fL_areDots x v = (Sum.elim (tL_areDots_18 x v) (tL_areDots_18 x v) (lpRs n18 d18 (bL_areDots_18 x v) (tL_areDots_53 x v d18 y5_53 y6_53 y7_53 y8_53 y11_53 (lpBs n53 (bL_areDots_53 x v d18 y5_53 y6_53 y7_53 y8_53 y11_53) (bL_areDots_53 x v d18 y5_53 y6_53 y7_53 y8_53 y11_53 (y12_53, y13_53)))))) := hg
              have hT : lpTs n53 (bL_areDots_53 x v d18 y5_53 y6_53 y7_53 y8_53 y11_53) (bL_areDots_53 x v d18 y5_53 y6_53 y7_53 y8_53 y11_53 (y12_53, y13_53)) := hT
              refine lv_iload hC.1 hC.2.1 dL_areDots_53 (lv_at hl 12 rfl) ?_
              refine lv_iload hC.1 hC.2.1 dL_areDots_55 (lv_at hl 10 rfl) ?_
              refine lv_iadd hC.1 hC.2.1 dL_areDots_57 ?_
              refine lv_aload hC.1 hC.2.1 dL_areDots_58 (lv_at hl 4 rfl) ?_
              refine lv_iconst (v := 2) hC.1 hC.2.1 dL_areDots_60 (by decide) ?_
              refine iald_k hC hKN hP2 4 rfl (n := 21) (f := (v 4)) 2 (rfl) (by omega) (by first | decide | omega) dL_areDots_61 ?_
              refine lv_icmp_le (tgt := 82) hC.1 hC.2.1 dL_areDots_62 (by decide) (fun k62 => ?_) (fun k62 => ?_)
              · have e_37 : bL_areDots_53 x v d18 y5_53 y6_53 y7_53 y8_53 y11_53 (y12_53, y13_53) = (false, (y12_53, y13_53)) := by delta bL_areDots_53; exact Eq.trans (if_pos k62) rfl
                have hg : fL_areDots x v = (Sum.elim (tL_areDots_18 x v) (tL_areDots_18 x v) (lpRs n18 d18 (bL_areDots_18 x v) (tL_areDots_53 x v d18 y5_53 y6_53 y7_53 y8_53 y11_53 (y12_53, y13_53)))) := by have e2 := congrArg (fun z => (Sum.elim (tL_areDots_18 x v) (tL_areDots_18 x v) (lpRs n18 d18 (bL_areDots_18 x v) (tL_areDots_53 x v d18 y5_53 y6_53 y7_53 y8_53 y11_53 (lpBs n53 (bL_areDots_53 x v d18 y5_53 y6_53 y7_53 y8_53 y11_53) z))))) e_37; exact hg.trans e2
                have hT : lpTs n53 (bL_areDots_53 x v d18 y5_53 y6_53 y7_53 y8_53 y11_53) (false, (y12_53, y13_53)) := by rw [← e_37]; exact hT
                exact A53 y5_53 y6_53 y7_53 y8_53 y11_53 y12_53 y13_53 hg _ (lv_sub hl [0, 1, 2, 3, 4, 5, 6, 7, 8, 9, 10, 11] rfl)
              · refine lv_iinc (v := y12_53 + 1) (lv' := [(12, .int (y12_53 + 1)), (0, .ref (a 0)), (1, .ref (q 0)), (2, .ref (q 1)), (3, .ref (q 2)), (4, .ref (q 4)), (5, .int y5_53), (6, .int y6_53), (7, .int y7_53), (8, .int y8_53), (10, .int (nI d18)), (11, .int y11_53), (13, .int y13_53)]) hC.1 hC.2.1 dL_areDots_65 hl (k := 11) rfl rfl (by decide) rfl (fun ls hl => ?_)
                refine lv_iload hC.1 hC.2.1 dL_areDots_68 (lv_at hl 12 rfl) ?_
                refine lv_aload hC.1 hC.2.1 dL_areDots_70 (lv_at hl 5 rfl) ?_
                refine lv_iconst (v := 1) hC.1 hC.2.1 dL_areDots_72 (by decide) ?_
                refine iald_k hC hKN hP2 4 rfl (n := 21) (f := (v 4)) 1 (rfl) (by omega) (by first | decide | omega) dL_areDots_73 ?_
                refine runP (rS (B := fun U H => True) (As := [.int y13_53, .int ((v 4) 1)]) (rest := []) hC mwL_less (c_L_less l G y13_53 ((v 4) 1) (LS_1 hI)) wd_229 wd_228 ⟨rfl, rfl⟩ ⟨Nat.le_of_ble_eq_true rfl, Nat.le_of_ble_eq_true rfl⟩ (fun _ _ _ _ h => h) hKN trivial rfl hl.1 rfl (Nat.le_of_ble_eq_true rfl) dL_areDots_74 ⟨Nat.zero_le _, Nat.zero_le _⟩) ?_
                refine lv_istore (lv' := [(13, .int (fL_less y13_53 ((v 4) 1))), (12, .int (y12_53 + 1)), (0, .ref (a 0)), (1, .ref (q 0)), (2, .ref (q 1)), (3, .ref (q 2)), (4, .ref (q 4)), (5, .int y5_53), (6, .int y6_53), (7, .int y7_53), (8, .int y8_53), (10, .int (nI d18)), (11, .int y11_53)]) hC.1 hC.2.1 dL_areDots_77 hl (by decide) rfl (fun ls hl => ?_)
                refine lv_goto (tgt := 53) hC.1 hC.2.1 dL_areDots_79 (by decide) ?_
                have e_38 : bL_areDots_53 x v d18 y5_53 y6_53 y7_53 y8_53 y11_53 (y12_53, y13_53) = (true, (y12_53 + 1, fL_less y13_53 ((v 4) 1))) := by delta bL_areDots_53; exact Eq.trans (if_neg k62) rfl
                have hg : fL_areDots x v = (Sum.elim (tL_areDots_18 x v) (tL_areDots_18 x v) (lpRs n18 d18 (bL_areDots_18 x v) (tL_areDots_53 x v d18 y5_53 y6_53 y7_53 y8_53 y11_53 (lpB n53 (bL_areDots_53 x v d18 y5_53 y6_53 y7_53 y8_53 y11_53) (y12_53 + 1, fL_less y13_53 ((v 4) 1)))))) := by have e2 := congrArg (fun z => (Sum.elim (tL_areDots_18 x v) (tL_areDots_18 x v) (lpRs n18 d18 (bL_areDots_18 x v) (tL_areDots_53 x v d18 y5_53 y6_53 y7_53 y8_53 y11_53 (lpBs n53 (bL_areDots_53 x v d18 y5_53 y6_53 y7_53 y8_53 y11_53) z))))) e_38; exact hg.trans e2
                have hT : lpTs n53 (bL_areDots_53 x v d18 y5_53 y6_53 y7_53 y8_53 y11_53) (true, (y12_53 + 1, fL_less y13_53 ((v 4) 1))) := by rw [← e_38]; exact hT
                exact ih (y12_53 + 1) (fL_less y13_53 ((v 4) 1)) (lpT_go hT) hg _ (lv_sub hl [2, 3, 4, 5, 6, 7, 8, 9, 10, 11, 12, 1, 0] rfl)
          have e_39 : bL_areDots_18 x v d18 (y5_18, y6_18, y7_18, y8_18, y9_18) = tL_areDots_53 x v d18 y5_18 y6_18 y7_18 y8_18 (fL_pulse v 0 (nI d18) ((v 4) 0)) (lpB (mT + 1) (bL_areDots_53 x v d18 y5_18 y6_18 y7_18 y8_18 (fL_pulse v 0 (nI d18) ((v 4) 0))) (0, (v 0) d18)) := by delta bL_areDots_18; exact Eq.trans (if_neg k27) rfl
          have hg : fL_areDots x v = (Sum.elim (tL_areDots_18 x v) (tL_areDots_18 x v) (lpRs n18 d18 (bL_areDots_18 x v) (tL_areDots_53 x v d18 y5_18 y6_18 y7_18 y8_18 (fL_pulse v 0 (nI d18) ((v 4) 0)) (lpB (mT + 1) (bL_areDots_53 x v d18 y5_18 y6_18 y7_18 y8_18 (fL_pulse v 0 (nI d18) ((v 4) 0))) (0, (v 0) d18))))) := by have e2 := congrArg (fun z => (Sum.elim (tL_areDots_18 x v) (tL_areDots_18 x v) (lpRs n18 d18 (bL_areDots_18 x v) z))) e_39; exact hg.trans e2
          exact L53 y5_18 y6_18 y7_18 y8_18 (fL_pulse v 0 (nI d18) ((v 4) 0)) (mT + 1) 0 ((v 0) d18) ((T_areDots_53 hI (by omega) _)) hg _ (lv_sub hl [3, 4, 5, 6, 7, 8, 9, 10, 11, 13, 2, 1, 0] rfl)
  have e_40 : fL_areDots x v = Sum.elim (tL_areDots_18 x v) (tL_areDots_18 x v) (lpR 24 0 (bL_areDots_18 x v) (0, 0, 0, 0, 1)) := by delta fL_areDots; exact rfl
  have hg : fL_areDots x v = (Sum.elim (tL_areDots_18 x v) (tL_areDots_18 x v) (lpR 24 0 (bL_areDots_18 x v) (0, 0, 0, 0, 1))) := by have e2 := congrArg (fun z => z) e_40; exact hg.trans e2
  exact L18  24 0 0 0 0 0 1 (by omega) hg _ (lv_sub hl [6, 7, 8, 9, 10, 5, 4, 3, 2, 1, 0] rfl)
