def tX2_printLine_45 (v : SV) (x1 : Int32) (y2_45 : Int32) (y3_45 : Int32) (y4_45 : Int32) (s : Int32 × SV) : SV × Int32 := let y5_45 := s.1; let v_45 := s.2; let r_4 := fX2_passTime v_45 (fX5_at 7 (v_45 2) 6)
  let w_5 : Int32 := r_4 8 8; let r_9 := fX3_addLine (mkS (r_4 0) (r_4 1) (r_4 2) (r_4 3) (r_4 4) (r_4 5) (r_4 6) (r_4 7) (r_4 8 0) (r_4 8 1) (r_4 8 2) (r_4 8 3) (r_4 8 4) (r_4 8 5) (r_4 8 6) (r_4 8 7) x1 w_5 (r_4 8 10)) y5_45 (x1 &&& (y5_45 ^^^ (-1))) y4_45
  let r_11 := fX4_addLine r_9 x1 (x1 &&& (y5_45 ^^^ (-1))) y4_45
  (r_11, (r_11 8 1) - y2_45)
def bX2_printLine_45 (v : SV) (x1 : Int32) (y2_45 : Int32) (y3_45 : Int32) (y4_45 : Int32) (d45 : Nat) (s : Int32 × SV) : Int32 × SV := let y5_45 := s.1; let v_45 := s.2; let r_14 := fX2_passTime v_45 (fX2_waitOfPart v_45 (fX2_dotsOfPart v_45 x1 (nI d45) y4_45 y3_45))
  let w_15 : Int32 := (r_14 8 4) + (fX2_waitOfPart v_45 (fX2_dotsOfPart v_45 x1 (nI d45) y4_45 y3_45)); let r_18 := fX2_heatPart (mkS (r_14 0) (r_14 1) (r_14 2) (r_14 3) (r_14 4) (r_14 5) (r_14 6) (r_14 7) (r_14 8 0) (r_14 8 1) (r_14 8 2) (r_14 8 3) w_15 (r_14 8 5) (r_14 8 6) (r_14 8 7) (r_14 8 8) (r_14 8 9) (r_14 8 10)) (fX2_dotsOfPart v_45 x1 (nI d45) y4_45 y3_45)
  let r_20 := fX2_passTime r_18.1 (((fX2_longestPulse r_18.1 (fX2_dotsOfPart v_45 x1 (nI d45) y4_45 y3_45)) / 10) + 1)
  (y5_45 ||| r_18.2, r_20)
def tX2_printLine_J32 (v : SV) (x1 : Int32) (y2_32 : Int32) (y3_32 : Int32) (z0_32 : Int32) (v_32 : SV) : SV × Int32 := let r_2 := fX2_preparePulses v_32 x1
  tX2_printLine_45 v x1 y2_32 y3_32 z0_32 (lpF z0_32.toNatClampNeg 0 (bX2_printLine_45 v x1 y2_32 y3_32 z0_32) (0, r_2))
def fX2_printLine (v : SV) (x1 : Int32) : SV × Int32 := if 1 ≤ (fX2_dotsAtOnce v) then (tX2_printLine_J32 v x1 (v 8 1) (fX2_dotsAtOnce v) ((((fJ6_bitCount_0f7a4 x1) + (fX2_dotsAtOnce v)) - 1) / (fX2_dotsAtOnce v)) v) else (tX2_printLine_J32 v x1 (v 8 1) (fX2_dotsAtOnce v) 0 v)
def tX2_printLines_2 (v : SV) (x1 : Int32) (x2 : Int32) (s : SV) : SV := let v_2 := s; v_2
def bX2_printLines_2 (v : SV) (x1 : Int32) (x2 : Int32) (d2 : Nat) (s : SV) : SV := let v_2 := s; let r_3 := fX2_printLine v_2 x1
  r_3.1
def fX2_printLines (v : SV) (x1 : Int32) (x2 : Int32) : SV := tX2_printLines_2 v x1 x2 (lpF x2.toNatClampNeg 0 (bX2_printLines_2 v x1 x2) v)
theorem dX2_printLine_0 : decode cX2_printLine 0 = .ok (.aload_n 0, 1) := by decide +kernel
theorem dX2_printLine_1 : decode cX2_printLine 1 = .ok (.getfield 38, 3) := by decide +kernel
theorem dX2_printLine_4 : decode cX2_printLine 4 = .ok (.getfield 74, 3) := by decide +kernel
theorem dX2_printLine_7 : decode cX2_printLine 7 = .ok (.istore_n 2, 1) := by decide +kernel
theorem dX2_printLine_8 : decode cX2_printLine 8 = .ok (.aload_n 0, 1) := by decide +kernel
theorem dX2_printLine_9 : decode cX2_printLine 9 = .ok (.invokevirtual 77, 3) := by decide +kernel
theorem dX2_printLine_12 : decode cX2_printLine 12 = .ok (.istore_n 3, 1) := by decide +kernel
theorem dX2_printLine_13 : decode cX2_printLine 13 = .ok (.iload_n 3, 1) := by decide +kernel
theorem dX2_printLine_14 : decode cX2_printLine 14 = .ok (.iconst 1, 1) := by decide +kernel
theorem dX2_printLine_15 : decode cX2_printLine 15 = .ok (.if_icmp .ge 7, 3) := by decide +kernel
theorem dX2_printLine_18 : decode cX2_printLine 18 = .ok (.iconst 0, 1) := by decide +kernel
theorem dX2_printLine_19 : decode cX2_printLine 19 = .ok (.goto 13, 3) := by decide +kernel
theorem dX2_printLine_22 : decode cX2_printLine 22 = .ok (.iload_n 1, 1) := by decide +kernel
theorem dX2_printLine_23 : decode cX2_printLine 23 = .ok (.invokestatic 81, 3) := by decide +kernel
theorem dX2_printLine_26 : decode cX2_printLine 26 = .ok (.iload_n 3, 1) := by decide +kernel
theorem dX2_printLine_27 : decode cX2_printLine 27 = .ok (.iadd, 1) := by decide +kernel
theorem dX2_printLine_28 : decode cX2_printLine 28 = .ok (.iconst 1, 1) := by decide +kernel
theorem dX2_printLine_29 : decode cX2_printLine 29 = .ok (.isub, 1) := by decide +kernel
theorem dX2_printLine_30 : decode cX2_printLine 30 = .ok (.iload_n 3, 1) := by decide +kernel
theorem dX2_printLine_31 : decode cX2_printLine 31 = .ok (.idiv, 1) := by decide +kernel
theorem dX2_printLine_32 : decode cX2_printLine 32 = .ok (.istore 4, 2) := by decide +kernel
theorem dX2_printLine_34 : decode cX2_printLine 34 = .ok (.iconst 0, 1) := by decide +kernel
theorem dX2_printLine_35 : decode cX2_printLine 35 = .ok (.istore 5, 2) := by decide +kernel
theorem dX2_printLine_37 : decode cX2_printLine 37 = .ok (.aload_n 0, 1) := by decide +kernel
theorem dX2_printLine_38 : decode cX2_printLine 38 = .ok (.iload_n 1, 1) := by decide +kernel
theorem dX2_printLine_39 : decode cX2_printLine 39 = .ok (.invokevirtual 86, 3) := by decide +kernel
theorem dX2_printLine_42 : decode cX2_printLine 42 = .ok (.iconst 0, 1) := by decide +kernel
theorem dX2_printLine_43 : decode cX2_printLine 43 = .ok (.istore 6, 2) := by decide +kernel
theorem dX2_printLine_45 : decode cX2_printLine 45 = .ok (.iload 6, 2) := by decide +kernel
theorem dX2_printLine_47 : decode cX2_printLine 47 = .ok (.iload 4, 2) := by decide +kernel
theorem dX2_printLine_49 : decode cX2_printLine 49 = .ok (.if_icmp .ge 75, 3) := by decide +kernel
theorem dX2_printLine_52 : decode cX2_printLine 52 = .ok (.aload_n 0, 1) := by decide +kernel
theorem dX2_printLine_53 : decode cX2_printLine 53 = .ok (.iload_n 1, 1) := by decide +kernel
theorem dX2_printLine_54 : decode cX2_printLine 54 = .ok (.iload 6, 2) := by decide +kernel
theorem dX2_printLine_56 : decode cX2_printLine 56 = .ok (.iload 4, 2) := by decide +kernel
theorem dX2_printLine_58 : decode cX2_printLine 58 = .ok (.iload_n 3, 1) := by decide +kernel
theorem dX2_printLine_59 : decode cX2_printLine 59 = .ok (.invokevirtual 90, 3) := by decide +kernel
theorem dX2_printLine_62 : decode cX2_printLine 62 = .ok (.istore 7, 2) := by decide +kernel
theorem dX2_printLine_64 : decode cX2_printLine 64 = .ok (.aload_n 0, 1) := by decide +kernel
theorem dX2_printLine_65 : decode cX2_printLine 65 = .ok (.iload 7, 2) := by decide +kernel
theorem dX2_printLine_67 : decode cX2_printLine 67 = .ok (.invokevirtual 94, 3) := by decide +kernel
theorem dX2_printLine_70 : decode cX2_printLine 70 = .ok (.istore 8, 2) := by decide +kernel
theorem dX2_printLine_72 : decode cX2_printLine 72 = .ok (.aload_n 0, 1) := by decide +kernel
theorem dX2_printLine_73 : decode cX2_printLine 73 = .ok (.iload 8, 2) := by decide +kernel
theorem dX2_printLine_75 : decode cX2_printLine 75 = .ok (.invokevirtual 97, 3) := by decide +kernel
theorem dX2_printLine_78 : decode cX2_printLine 78 = .ok (.aload_n 0, 1) := by decide +kernel
theorem dX2_printLine_79 : decode cX2_printLine 79 = .ok (.getfield 38, 3) := by decide +kernel
theorem dX2_printLine_82 : decode cX2_printLine 82 = .ok (.dup, 1) := by decide +kernel
theorem dX2_printLine_83 : decode cX2_printLine 83 = .ok (.getfield 100, 3) := by decide +kernel
theorem dX2_printLine_86 : decode cX2_printLine 86 = .ok (.iload 8, 2) := by decide +kernel
theorem dX2_printLine_88 : decode cX2_printLine 88 = .ok (.iadd, 1) := by decide +kernel
theorem dX2_printLine_89 : decode cX2_printLine 89 = .ok (.putfield 100, 3) := by decide +kernel
theorem dX2_printLine_92 : decode cX2_printLine 92 = .ok (.iload 5, 2) := by decide +kernel
theorem dX2_printLine_94 : decode cX2_printLine 94 = .ok (.aload_n 0, 1) := by decide +kernel
theorem dX2_printLine_95 : decode cX2_printLine 95 = .ok (.iload 7, 2) := by decide +kernel
theorem dX2_printLine_97 : decode cX2_printLine 97 = .ok (.invokevirtual 103, 3) := by decide +kernel
theorem dX2_printLine_100 : decode cX2_printLine 100 = .ok (.ior, 1) := by decide +kernel
theorem dX2_printLine_101 : decode cX2_printLine 101 = .ok (.istore 5, 2) := by decide +kernel
theorem dX2_printLine_103 : decode cX2_printLine 103 = .ok (.aload_n 0, 1) := by decide +kernel
theorem dX2_printLine_104 : decode cX2_printLine 104 = .ok (.aload_n 0, 1) := by decide +kernel
theorem dX2_printLine_105 : decode cX2_printLine 105 = .ok (.iload 7, 2) := by decide +kernel
theorem dX2_printLine_107 : decode cX2_printLine 107 = .ok (.invokevirtual 106, 3) := by decide +kernel
theorem dX2_printLine_110 : decode cX2_printLine 110 = .ok (.bipush 10, 2) := by decide +kernel
theorem dX2_printLine_112 : decode cX2_printLine 112 = .ok (.idiv, 1) := by decide +kernel
theorem dX2_printLine_113 : decode cX2_printLine 113 = .ok (.iconst 1, 1) := by decide +kernel
theorem dX2_printLine_114 : decode cX2_printLine 114 = .ok (.iadd, 1) := by decide +kernel
theorem dX2_printLine_115 : decode cX2_printLine 115 = .ok (.invokevirtual 97, 3) := by decide +kernel
theorem dX2_printLine_118 : decode cX2_printLine 118 = .ok (.iinc 6 1, 3) := by decide +kernel
theorem dX2_printLine_121 : decode cX2_printLine 121 = .ok (.goto (-76), 3) := by decide +kernel
theorem dX2_printLine_124 : decode cX2_printLine 124 = .ok (.aload_n 0, 1) := by decide +kernel
theorem dX2_printLine_125 : decode cX2_printLine 125 = .ok (.aload_n 0, 1) := by decide +kernel
theorem dX2_printLine_126 : decode cX2_printLine 126 = .ok (.getfield 21, 3) := by decide +kernel
theorem dX2_printLine_129 : decode cX2_printLine 129 = .ok (.bipush 6, 2) := by decide +kernel
theorem dX2_printLine_131 : decode cX2_printLine 131 = .ok (.invokestatic 59, 3) := by decide +kernel
theorem dX2_printLine_134 : decode cX2_printLine 134 = .ok (.invokevirtual 97, 3) := by decide +kernel
theorem dX2_printLine_137 : decode cX2_printLine 137 = .ok (.aload_n 0, 1) := by decide +kernel
theorem dX2_printLine_138 : decode cX2_printLine 138 = .ok (.aload_n 0, 1) := by decide +kernel
theorem dX2_printLine_139 : decode cX2_printLine 139 = .ok (.getfield 42, 3) := by decide +kernel
theorem dX2_printLine_142 : decode cX2_printLine 142 = .ok (.putfield 46, 3) := by decide +kernel
theorem dX2_printLine_145 : decode cX2_printLine 145 = .ok (.aload_n 0, 1) := by decide +kernel
theorem dX2_printLine_146 : decode cX2_printLine 146 = .ok (.iload_n 1, 1) := by decide +kernel
theorem dX2_printLine_147 : decode cX2_printLine 147 = .ok (.putfield 42, 3) := by decide +kernel
theorem dX2_printLine_150 : decode cX2_printLine 150 = .ok (.aload_n 0, 1) := by decide +kernel
theorem dX2_printLine_151 : decode cX2_printLine 151 = .ok (.getfield 31, 3) := by decide +kernel
theorem dX2_printLine_154 : decode cX2_printLine 154 = .ok (.iload 5, 2) := by decide +kernel
theorem dX2_printLine_156 : decode cX2_printLine 156 = .ok (.iload_n 1, 1) := by decide +kernel
theorem dX2_printLine_157 : decode cX2_printLine 157 = .ok (.iload 5, 2) := by decide +kernel
theorem dX2_printLine_159 : decode cX2_printLine 159 = .ok (.iconst (-1), 1) := by decide +kernel
theorem dX2_printLine_160 : decode cX2_printLine 160 = .ok (.ixor, 1) := by decide +kernel
theorem dX2_printLine_161 : decode cX2_printLine 161 = .ok (.iand, 1) := by decide +kernel
theorem dX2_printLine_162 : decode cX2_printLine 162 = .ok (.iload 4, 2) := by decide +kernel
theorem dX2_printLine_164 : decode cX2_printLine 164 = .ok (.invokevirtual 109, 3) := by decide +kernel
theorem dX2_printLine_167 : decode cX2_printLine 167 = .ok (.aload_n 0, 1) := by decide +kernel
theorem dX2_printLine_168 : decode cX2_printLine 168 = .ok (.getfield 38, 3) := by decide +kernel
theorem dX2_printLine_171 : decode cX2_printLine 171 = .ok (.iload_n 1, 1) := by decide +kernel
theorem dX2_printLine_172 : decode cX2_printLine 172 = .ok (.iload_n 1, 1) := by decide +kernel
theorem dX2_printLine_173 : decode cX2_printLine 173 = .ok (.iload 5, 2) := by decide +kernel
theorem dX2_printLine_175 : decode cX2_printLine 175 = .ok (.iconst (-1), 1) := by decide +kernel
theorem dX2_printLine_176 : decode cX2_printLine 176 = .ok (.ixor, 1) := by decide +kernel
theorem dX2_printLine_177 : decode cX2_printLine 177 = .ok (.iand, 1) := by decide +kernel
theorem dX2_printLine_178 : decode cX2_printLine 178 = .ok (.iload 4, 2) := by decide +kernel
theorem dX2_printLine_180 : decode cX2_printLine 180 = .ok (.invokevirtual 113, 3) := by decide +kernel
theorem dX2_printLine_183 : decode cX2_printLine 183 = .ok (.aload_n 0, 1) := by decide +kernel
theorem dX2_printLine_184 : decode cX2_printLine 184 = .ok (.getfield 38, 3) := by decide +kernel
theorem dX2_printLine_187 : decode cX2_printLine 187 = .ok (.getfield 74, 3) := by decide +kernel
theorem dX2_printLine_190 : decode cX2_printLine 190 = .ok (.iload_n 2, 1) := by decide +kernel
theorem dX2_printLine_191 : decode cX2_printLine 191 = .ok (.isub, 1) := by decide +kernel
theorem dX2_printLine_192 : decode cX2_printLine 192 = .ok (.ireturn, 1) := by decide +kernel
set_option maxHeartbeats 1000000 in
set_option maxRecDepth 100000 in
theorem c_X2_printLine (l : Launch) (G : GT) (q : Nat → Nat) (v : SV) (x1 : Int32) (hq : stD G q) : Met l yX2_printLine (Cond.code yX2_printLine cX2_printLine 9 (some .int) :: bigW) ({ frames := 3, cells := 0, slots := 0, locals := 71 }) (BP G [.ref (q 0), .int x1] (fun U H => PW G (stW G q v) H)) (QE (some (.int (fX2_printLine v x1).2)) (fun H => PW G (stW G q (fX2_printLine v x1).1) H) (stA q)) 0 0 (stA q) := by
  refine met_of (by decide) (Nat.le_of_ble_eq_true rfl) ?_
  intro p e s m below meth c ls hC hKN hB0 hl
  have hP := hB0
  have hl : lv_has ls 9 [(0, .ref (q 0)), (1, .int x1)] := hl
  have hS : va_S (stA q) s.heap s.heap [] := va_S.rf
  have hAL : ∀ a, (stA q) a → gL G ≤ a := stD_low hq
  have hg : fX2_printLine v x1 = fX2_printLine v x1 := rfl
  refine lv_aload_n hC.1 hC.2.1 dX2_printLine_0 rfl (lv_at hl 0 rfl) ?_
  refine gf (v := .ref (q 8)) hC fwX2 hKN hP 0 rfl rfl 4 (by decide) rfl wd_113 rfl dX2_printLine_1 ?_
  refine gfN (v := .int (v 8 1)) hC fwX4 hKN hP 8 rfl rfl 2 (by decide) rfl (nf_5 hKN) rfl dX2_printLine_4 ?_
  refine lv_istore_n (lv' := [(2, .int (v 8 1)), (0, .ref (q 0)), (1, .int x1)]) hC.1 hC.2.1 dX2_printLine_7 rfl hl (by decide) rfl (fun ls hl => ?_)
  refine lv_aload_n hC.1 hC.2.1 dX2_printLine_8 rfl (lv_at hl 1 rfl) ?_
  refine runP (rV (B := fun U H => PW G (stW G q v) H) (As := []) (rest := []) hC mwX2_dotsAtOnce (c_X2_dotsAtOnce l G q v) iwX2_dotsAtOnce wd_483 ⟨rfl, rfl⟩ ⟨Nat.le_of_ble_eq_true rfl, Nat.le_of_ble_eq_true rfl⟩ (stb_h (fun H => PW G (stW G q v) H)) hKN hP (va_recv hKN.k hP (ci := 2) (q0 := 0) rfl rfl) rfl hl.1 rfl (Nat.le_of_ble_eq_true rfl) dX2_printLine_9 ⟨Nat.zero_le _, Nat.zero_le _⟩) ?_
  refine lv_istore_n (lv' := [(3, .int (fX2_dotsAtOnce v)), (2, .int (v 8 1)), (0, .ref (q 0)), (1, .int x1)]) hC.1 hC.2.1 dX2_printLine_12 rfl hl (by decide) rfl (fun ls hl => ?_)
  refine lv_iload_n hC.1 hC.2.1 dX2_printLine_13 rfl (lv_at hl 0 rfl) ?_
  refine lv_iconst (v := 1) hC.1 hC.2.1 dX2_printLine_14 (by decide) ?_
  have J32 : ∀ (y2_32 : Int32) (y3_32 : Int32) (z0_32 : Int32) (v_32 : SV), fX2_printLine v x1 = tX2_printLine_J32 v x1 y2_32 y3_32 z0_32 v_32 → ∀ (H : Heap) (locs : List Loc), PW G (stW G q v_32) H → va_S (stA q) s.heap H locs → ∀ (ls : Array Slot), lv_has ls 9 [(0, .ref (q 0)), (1, .int x1), (2, .int y2_32), (3, .int y3_32)] → W p l e ({ frames := 3, cells := 0, slots := 0, locals := 71 }) s m ([.ref (q 0), .int x1] : List Value).toArray below meth c H locs 0 0 (MQ below (QE (some (.int (fX2_printLine v x1).2)) (fun H => PW G (stW G q (fX2_printLine v x1).1) H) (stA q)) ([.ref (q 0), .int x1] : List Value).toArray s 0 0 (stA q)) (F0 m 32 ls [.int z0_32]) := by
    intro y2_32 y3_32 z0_32 v_32 hg H locs hP hS ls hl
    refine lv_istore (lv' := [(4, .int z0_32), (0, .ref (q 0)), (1, .int x1), (2, .int y2_32), (3, .int y3_32)]) hC.1 hC.2.1 dX2_printLine_32 hl (by decide) rfl (fun ls hl => ?_)
    refine lv_iconst (v := 0) hC.1 hC.2.1 dX2_printLine_34 (by decide) ?_
    refine lv_istore (lv' := [(5, .int 0), (4, .int z0_32), (0, .ref (q 0)), (1, .int x1), (2, .int y2_32), (3, .int y3_32)]) hC.1 hC.2.1 dX2_printLine_35 hl (by decide) rfl (fun ls hl => ?_)
    refine lv_aload_n hC.1 hC.2.1 dX2_printLine_37 rfl (lv_at hl 2 rfl) ?_
    refine lv_iload_n hC.1 hC.2.1 dX2_printLine_38 rfl (lv_at hl 3 rfl) ?_
    refine runE (rV (B := fun U H => PW G (stW G q v_32) H) (As := [.int x1]) (rest := []) hC mwX2_preparePulses (c_X2_preparePulses l G q v_32 x1 hq) iwX2_preparePulses wd_493 ⟨rfl, rfl⟩ ⟨Nat.le_of_ble_eq_true rfl, Nat.le_of_ble_eq_true rfl⟩ (stb_h (fun H => PW G (stW G q v_32) H)) (hKN.go hAL hS) hP (va_recv (hKN.go hAL hS).k hP (ci := 2) (q0 := 0) rfl rfl) rfl hl.1 rfl (Nat.le_of_ble_eq_true rfl) dX2_printLine_39 ⟨Nat.zero_le _, Nat.zero_le _⟩) hS (fun _ h => h) (fun _ h => h) (fun H locs hq_1 _ _ hS => ?_)
    have hP : PW G (stW G q (fX2_preparePulses v_32 x1)) H := hq_1
    obtain ⟨r_2, er_2⟩ : ∃ z, z = fX2_preparePulses v_32 x1 := ⟨_, rfl⟩
    rw [← er_2] at hP
    refine lv_iconst (v := 0) hC.1 hC.2.1 dX2_printLine_42 (by decide) ?_
    refine lv_istore (lv' := [(6, .int 0), (5, .int 0), (4, .int z0_32), (0, .ref (q 0)), (1, .int x1), (2, .int y2_32), (3, .int y3_32)]) hC.1 hC.2.1 dX2_printLine_43 hl (by decide) rfl (fun ls hl => ?_)
    have A45 : ∀ (y2_45 : Int32) (y3_45 : Int32) (y4_45 : Int32), ∀ (y5_45 : Int32) (v_45 : SV), fX2_printLine v x1 = (tX2_printLine_45 v x1 y2_45 y3_45 y4_45 (y5_45, v_45)) → ∀ (H : Heap) (locs : List Loc), PW G (stW G q v_45) H → va_S (stA q) s.heap H locs → ∀ (ls : Array Slot), lv_has ls 9 [(0, .ref (q 0)), (1, .int x1), (2, .int y2_45), (4, .int y4_45), (5, .int y5_45)] → W p l e ({ frames := 3, cells := 0, slots := 0, locals := 71 }) s m ([.ref (q 0), .int x1] : List Value).toArray below meth c H locs 0 0 (MQ below (QE (some (.int (fX2_printLine v x1).2)) (fun H => PW G (stW G q (fX2_printLine v x1).1) H) (stA q)) ([.ref (q 0), .int x1] : List Value).toArray s 0 0 (stA q)) (F0 m 124 ls []) := by
      intro y2_45 y3_45 y4_45 y5_45 v_45 hg H locs hP hS ls hl
      refine lv_aload_n hC.1 hC.2.1 dX2_printLine_124 rfl (lv_at hl 0 rfl) ?_
      refine lv_aload_n hC.1 hC.2.1 dX2_printLine_125 rfl (lv_at hl 0 rfl) ?_
      refine gf (v := .ref (q 3)) hC fwX2 (hKN.go hAL hS) hP 0 rfl rfl 2 (by decide) rfl wd_110 rfl dX2_printLine_126 ?_
      refine lv_bipush (v := 6) hC.1 hC.2.1 dX2_printLine_129 (by decide +kernel) ?_
      refine runP (rSN (B := fun U H => RD (q 3) 7 (v_45 2) U H) (As := [.ref (q 3), .int 6]) (rest := [.ref (q 0)]) hC mwX5_at (c_X5_at l G (q 3) 7 (v_45 2) 6) wd_328 (nm_1 (hKN.go hAL hS)) ⟨rfl, rfl⟩ ⟨Nat.le_of_ble_eq_true rfl, Nat.le_of_ble_eq_true rfl⟩ (stb_RD _ _ _) (hKN.go hAL hS) (RD.ofP (hKN.go hAL hS) hP 3 rfl) rfl hl.1 rfl (Nat.le_of_ble_eq_true rfl) dX2_printLine_131 ⟨Nat.zero_le _, Nat.zero_le _⟩) ?_
      refine runE (rV (B := fun U H => PW G (stW G q v_45) H) (As := [.int (fX5_at 7 (v_45 2) 6)]) (rest := []) hC mwX2_passTime (c_X2_passTime l G q v_45 (fX5_at 7 (v_45 2) 6) hq) iwX2_passTime wd_505 ⟨rfl, rfl⟩ ⟨Nat.le_of_ble_eq_true rfl, Nat.le_of_ble_eq_true rfl⟩ (stb_h (fun H => PW G (stW G q v_45) H)) (hKN.go hAL hS) hP (va_recv (hKN.go hAL hS).k hP (ci := 2) (q0 := 0) rfl rfl) rfl hl.1 rfl (Nat.le_of_ble_eq_true rfl) dX2_printLine_134 ⟨Nat.zero_le _, Nat.zero_le _⟩) hS (fun _ h => h) (fun _ h => h) (fun H locs hq_3 _ _ hS => ?_)
      have hP : PW G (stW G q (fX2_passTime v_45 (fX5_at 7 (v_45 2) 6))) H := hq_3
      obtain ⟨r_4, er_4⟩ : ∃ z, z = fX2_passTime v_45 (fX5_at 7 (v_45 2) 6) := ⟨_, rfl⟩
      rw [← er_4] at hP
      refine lv_aload_n hC.1 hC.2.1 dX2_printLine_137 rfl (lv_at hl 0 rfl) ?_
      refine lv_aload_n hC.1 hC.2.1 dX2_printLine_138 rfl (lv_at hl 0 rfl) ?_
      refine gf (v := .int (r_4 8 8)) hC fwX2 (hKN.go hAL hS) hP 0 rfl rfl 5 (by decide) rfl wd_115 rfl dX2_printLine_139 ?_
      refine lv_topi (fun w_5 ew_5 => ?_)
      refine pf (v := .int w_5) (tv := .int) hC fwX2 (hKN.go hAL hS) hP (stD_D hq r_4) hS 0 rfl rfl 6 (by decide) rfl wd_116 rfl rfl rfl (Nat.le_of_ble_eq_true rfl) dX2_printLine_142 (fun H locs hq_6 hS => ?_)
      have hP : PW G (stW G q (mkS (r_4 0) (r_4 1) (r_4 2) (r_4 3) (r_4 4) (r_4 5) (r_4 6) (r_4 7) (r_4 8 0) (r_4 8 1) (r_4 8 2) (r_4 8 3) (r_4 8 4) (r_4 8 5) (r_4 8 6) (r_4 8 7) (r_4 8 8) w_5 (r_4 8 10))) H := hq_6
      refine lv_aload_n hC.1 hC.2.1 dX2_printLine_145 rfl (lv_at hl 0 rfl) ?_
      refine lv_iload_n hC.1 hC.2.1 dX2_printLine_146 rfl (lv_at hl 1 rfl) ?_
      refine pf (v := .int x1) (tv := .int) hC fwX2 (hKN.go hAL hS) hP (stD_D hq (mkS (r_4 0) (r_4 1) (r_4 2) (r_4 3) (r_4 4) (r_4 5) (r_4 6) (r_4 7) (r_4 8 0) (r_4 8 1) (r_4 8 2) (r_4 8 3) (r_4 8 4) (r_4 8 5) (r_4 8 6) (r_4 8 7) (r_4 8 8) w_5 (r_4 8 10))) hS 0 rfl rfl 5 (by decide) rfl wd_115 rfl rfl rfl (Nat.le_of_ble_eq_true rfl) dX2_printLine_147 (fun H locs hq_7 hS => ?_)
      have hP : PW G (stW G q (mkS (r_4 0) (r_4 1) (r_4 2) (r_4 3) (r_4 4) (r_4 5) (r_4 6) (r_4 7) (r_4 8 0) (r_4 8 1) (r_4 8 2) (r_4 8 3) (r_4 8 4) (r_4 8 5) (r_4 8 6) (r_4 8 7) x1 w_5 (r_4 8 10))) H := hq_7
      refine lv_aload_n hC.1 hC.2.1 dX2_printLine_150 rfl (lv_at hl 0 rfl) ?_
      refine gf (v := .ref (q 4)) hC fwX2 (hKN.go hAL hS) hP 0 rfl rfl 3 (by decide) rfl wd_111 rfl dX2_printLine_151 ?_
      refine lv_iload hC.1 hC.2.1 dX2_printLine_154 (lv_at hl 4 rfl) ?_
      refine lv_iload_n hC.1 hC.2.1 dX2_printLine_156 rfl (lv_at hl 1 rfl) ?_
      refine lv_iload hC.1 hC.2.1 dX2_printLine_157 (lv_at hl 4 rfl) ?_
      refine lv_iconst (v := (-1)) hC.1 hC.2.1 dX2_printLine_159 (by decide) ?_
      refine lv_ixor hC.1 hC.2.1 dX2_printLine_160 ?_
      refine lv_iand hC.1 hC.2.1 dX2_printLine_161 ?_
      refine lv_iload hC.1 hC.2.1 dX2_printLine_162 (lv_at hl 3 rfl) ?_
      refine runE (rV (B := fun U H => PW G (stW G q (mkS (r_4 0) (r_4 1) (r_4 2) (r_4 3) (r_4 4) (r_4 5) (r_4 6) (r_4 7) (r_4 8 0) (r_4 8 1) (r_4 8 2) (r_4 8 3) (r_4 8 4) (r_4 8 5) (r_4 8 6) (r_4 8 7) x1 w_5 (r_4 8 10))) H) (As := [.int y5_45, .int (x1 &&& (y5_45 ^^^ (-1))), .int y4_45]) (rest := []) hC mwX3_addLine (c_X3_addLine l G q (mkS (r_4 0) (r_4 1) (r_4 2) (r_4 3) (r_4 4) (r_4 5) (r_4 6) (r_4 7) (r_4 8 0) (r_4 8 1) (r_4 8 2) (r_4 8 3) (r_4 8 4) (r_4 8 5) (r_4 8 6) (r_4 8 7) x1 w_5 (r_4 8 10)) y5_45 (x1 &&& (y5_45 ^^^ (-1))) y4_45 hq) iwX3_addLine wd_527 ⟨rfl, rfl⟩ ⟨Nat.le_of_ble_eq_true rfl, Nat.le_of_ble_eq_true rfl⟩ (stb_h (fun H => PW G (stW G q (mkS (r_4 0) (r_4 1) (r_4 2) (r_4 3) (r_4 4) (r_4 5) (r_4 6) (r_4 7) (r_4 8 0) (r_4 8 1) (r_4 8 2) (r_4 8 3) (r_4 8 4) (r_4 8 5) (r_4 8 6) (r_4 8 7) x1 w_5 (r_4 8 10))) H)) (hKN.go hAL hS) hP (va_recv (hKN.go hAL hS).k hP (ci := 3) (q0 := 4) rfl rfl) rfl hl.1 rfl (Nat.le_of_ble_eq_true rfl) dX2_printLine_164 ⟨Nat.zero_le _, Nat.zero_le _⟩) hS (fun _ h => h) (fun _ h => h) (fun H locs hq_8 _ _ hS => ?_)
      have hP : PW G (stW G q (fX3_addLine (mkS (r_4 0) (r_4 1) (r_4 2) (r_4 3) (r_4 4) (r_4 5) (r_4 6) (r_4 7) (r_4 8 0) (r_4 8 1) (r_4 8 2) (r_4 8 3) (r_4 8 4) (r_4 8 5) (r_4 8 6) (r_4 8 7) x1 w_5 (r_4 8 10)) y5_45 (x1 &&& (y5_45 ^^^ (-1))) y4_45)) H := hq_8
      obtain ⟨r_9, er_9⟩ : ∃ z, z = fX3_addLine (mkS (r_4 0) (r_4 1) (r_4 2) (r_4 3) (r_4 4) (r_4 5) (r_4 6) (r_4 7) (r_4 8 0) (r_4 8 1) (r_4 8 2) (r_4 8 3) (r_4 8 4) (r_4 8 5) (r_4 8 6) (r_4 8 7) x1 w_5 (r_4 8 10)) y5_45 (x1 &&& (y5_45 ^^^ (-1))) y4_45 := ⟨_, rfl⟩
      rw [← er_9] at hP
      refine lv_aload_n hC.1 hC.2.1 dX2_printLine_167 rfl (lv_at hl 0 rfl) ?_
      refine gf (v := .ref (q 8)) hC fwX2 (hKN.go hAL hS) hP 0 rfl rfl 4 (by decide) rfl wd_113 rfl dX2_printLine_168 ?_
      refine lv_iload_n hC.1 hC.2.1 dX2_printLine_171 rfl (lv_at hl 1 rfl) ?_
      refine lv_iload_n hC.1 hC.2.1 dX2_printLine_172 rfl (lv_at hl 1 rfl) ?_
      refine lv_iload hC.1 hC.2.1 dX2_printLine_173 (lv_at hl 4 rfl) ?_
      refine lv_iconst (v := (-1)) hC.1 hC.2.1 dX2_printLine_175 (by decide) ?_
      refine lv_ixor hC.1 hC.2.1 dX2_printLine_176 ?_
      refine lv_iand hC.1 hC.2.1 dX2_printLine_177 ?_
      refine lv_iload hC.1 hC.2.1 dX2_printLine_178 (lv_at hl 3 rfl) ?_
      refine runE (rV (B := fun U H => PW G (stW G q r_9) H) (As := [.int x1, .int (x1 &&& (y5_45 ^^^ (-1))), .int y4_45]) (rest := []) hC mwX4_addLine (c_X4_addLine l G q r_9 x1 (x1 &&& (y5_45 ^^^ (-1))) y4_45 hq) iwX4_addLine wd_536 ⟨rfl, rfl⟩ ⟨Nat.le_of_ble_eq_true rfl, Nat.le_of_ble_eq_true rfl⟩ (stb_h (fun H => PW G (stW G q r_9) H)) (hKN.go hAL hS) hP (va_recv (hKN.go hAL hS).k hP (ci := 4) (q0 := 8) rfl rfl) rfl hl.1 rfl (Nat.le_of_ble_eq_true rfl) dX2_printLine_180 ⟨Nat.zero_le _, Nat.zero_le _⟩) hS (fun _ h => h) (fun _ h => h) (fun H locs hq_10 _ _ hS => ?_)
      have hP : PW G (stW G q (fX4_addLine r_9 x1 (x1 &&& (y5_45 ^^^ (-1))) y4_45)) H := hq_10
      obtain ⟨r_11, er_11⟩ : ∃ z, z = fX4_addLine r_9 x1 (x1 &&& (y5_45 ^^^ (-1))) y4_45 := ⟨_, rfl⟩
      rw [← er_11] at hP
      refine lv_aload_n hC.1 hC.2.1 dX2_printLine_183 rfl (lv_at hl 0 rfl) ?_
      refine gf (v := .ref (q 8)) hC fwX2 (hKN.go hAL hS) hP 0 rfl rfl 4 (by decide) rfl wd_113 rfl dX2_printLine_184 ?_
      refine gfN (v := .int (r_11 8 1)) hC fwX4 (hKN.go hAL hS) hP 8 rfl rfl 2 (by decide) rfl (nf_5 (hKN.go hAL hS)) rfl dX2_printLine_187 ?_
      refine lv_iload_n hC.1 hC.2.1 dX2_printLine_190 rfl (lv_at hl 2 rfl) ?_
      refine lv_isub hC.1 hC.2.1 dX2_printLine_191 ?_
      have e_12 : tX2_printLine_45 v x1 y2_45 y3_45 y4_45 (y5_45, v_45) = (r_11, (r_11 8 1) - y2_45) := by subst er_11; subst er_9; subst ew_5; subst er_4; exact rfl
      have hg : fX2_printLine v x1 = (r_11, (r_11 8 1) - y2_45) := hg.trans (congrArg (fun z => z) e_12)
      exact eE_i hC (by rw [hg]) (by show PW G (stW G q (fX2_printLine v x1).1) H; rw [hg]; exact hP) hS dX2_printLine_192
    have L45 : ∀ (y2_45 : Int32) (y3_45 : Int32) (y4_45 : Int32), ∀ (n45 d45 : Nat), ∀ (y5_45 : Int32) (v_45 : SV), d45 + n45 = y4_45.toNatClampNeg → fX2_printLine v x1 = (tX2_printLine_45 v x1 y2_45 y3_45 y4_45 (lpF n45 d45 (bX2_printLine_45 v x1 y2_45 y3_45 y4_45) (y5_45, v_45))) → ∀ (H : Heap) (locs : List Loc), PW G (stW G q v_45) H → va_S (stA q) s.heap H locs → ∀ (ls : Array Slot), lv_has ls 9 [(0, .ref (q 0)), (1, .int x1), (2, .int y2_45), (3, .int y3_45), (4, .int y4_45), (5, .int y5_45), (6, .int (nI d45))] → W p l e ({ frames := 3, cells := 0, slots := 0, locals := 71 }) s m ([.ref (q 0), .int x1] : List Value).toArray below meth c H locs 0 0 (MQ below (QE (some (.int (fX2_printLine v x1).2)) (fun H => PW G (stW G q (fX2_printLine v x1).1) H) (stA q)) ([.ref (q 0), .int x1] : List Value).toArray s 0 0 (stA q)) (F0 m 45 ls []) := by
      intro y2_45 y3_45 y4_45
      intro n45
      induction n45 with
      | zero =>
        intro d45 y5_45 v_45 hd hg H locs hP hS ls hl
        refine lv_iload hC.1 hC.2.1 dX2_printLine_45 (lv_at hl 6 rfl) ?_
        refine lv_iload hC.1 hC.2.1 dX2_printLine_47 (lv_at hl 4 rfl) ?_
        refine lv_icmp_ge (tgt := 124) hC.1 hC.2.1 dX2_printLine_49 (by decide) (fun k49 => ?_) (fun k49 => ?_)
        · exact A45 y2_45 y3_45 y4_45 y5_45 v_45 hg _ _ hP hS _ (lv_sub hl [0, 1, 2, 4, 5] rfl)
        · exact absurd (cl_le (by omega) (by have := cl_lt y4_45; omega)) k49
      | succ n45 ih =>
        intro d45 y5_45 v_45 hd hg H locs hP hS ls hl
        have hg : fX2_printLine v x1 = (tX2_printLine_45 v x1 y2_45 y3_45 y4_45 (lpF n45 (d45 + 1) (bX2_printLine_45 v x1 y2_45 y3_45 y4_45) (bX2_printLine_45 v x1 y2_45 y3_45 y4_45 d45 (y5_45, v_45)))) := hg
        refine lv_iload hC.1 hC.2.1 dX2_printLine_45 (lv_at hl 6 rfl) ?_
        refine lv_iload hC.1 hC.2.1 dX2_printLine_47 (lv_at hl 4 rfl) ?_
        refine lv_icmp_ge (tgt := 124) hC.1 hC.2.1 dX2_printLine_49 (by decide) (fun k49 => ?_) (fun k49 => ?_)
        · exact absurd k49 (cl_nle (by omega))
        · refine lv_aload_n hC.1 hC.2.1 dX2_printLine_52 rfl (lv_at hl 0 rfl) ?_
          refine lv_iload_n hC.1 hC.2.1 dX2_printLine_53 rfl (lv_at hl 1 rfl) ?_
          refine lv_iload hC.1 hC.2.1 dX2_printLine_54 (lv_at hl 6 rfl) ?_
          refine lv_iload hC.1 hC.2.1 dX2_printLine_56 (lv_at hl 4 rfl) ?_
          refine lv_iload_n hC.1 hC.2.1 dX2_printLine_58 rfl (lv_at hl 3 rfl) ?_
          refine runP (rV (B := fun U H => PW G (stW G q v_45) H) (As := [.int x1, .int (nI d45), .int y4_45, .int y3_45]) (rest := []) hC mwX2_dotsOfPart (c_X2_dotsOfPart l G q v_45 x1 (nI d45) y4_45 y3_45) iwX2_dotsOfPart wd_497 ⟨rfl, rfl⟩ ⟨Nat.le_of_ble_eq_true rfl, Nat.le_of_ble_eq_true rfl⟩ (stb_h (fun H => PW G (stW G q v_45) H)) (hKN.go hAL hS) hP (va_recv (hKN.go hAL hS).k hP (ci := 2) (q0 := 0) rfl rfl) rfl hl.1 rfl (Nat.le_of_ble_eq_true rfl) dX2_printLine_59 ⟨Nat.zero_le _, Nat.zero_le _⟩) ?_
          refine lv_istore (lv' := [(7, .int (fX2_dotsOfPart v_45 x1 (nI d45) y4_45 y3_45)), (0, .ref (q 0)), (1, .int x1), (2, .int y2_45), (3, .int y3_45), (4, .int y4_45), (5, .int y5_45), (6, .int (nI d45))]) hC.1 hC.2.1 dX2_printLine_62 hl (by decide) rfl (fun ls hl => ?_)
          refine lv_aload_n hC.1 hC.2.1 dX2_printLine_64 rfl (lv_at hl 1 rfl) ?_
          refine lv_iload hC.1 hC.2.1 dX2_printLine_65 (lv_at hl 0 rfl) ?_
          refine runP (rV (B := fun U H => PW G (stW G q v_45) H) (As := [.int (fX2_dotsOfPart v_45 x1 (nI d45) y4_45 y3_45)]) (rest := []) hC mwX2_waitOfPart (c_X2_waitOfPart l G q v_45 (fX2_dotsOfPart v_45 x1 (nI d45) y4_45 y3_45)) iwX2_waitOfPart wd_501 ⟨rfl, rfl⟩ ⟨Nat.le_of_ble_eq_true rfl, Nat.le_of_ble_eq_true rfl⟩ (stb_h (fun H => PW G (stW G q v_45) H)) (hKN.go hAL hS) hP (va_recv (hKN.go hAL hS).k hP (ci := 2) (q0 := 0) rfl rfl) rfl hl.1 rfl (Nat.le_of_ble_eq_true rfl) dX2_printLine_67 ⟨Nat.zero_le _, Nat.zero_le _⟩) ?_
          refine lv_istore (lv' := [(8, .int (fX2_waitOfPart v_45 (fX2_dotsOfPart v_45 x1 (nI d45) y4_45 y3_45))), (7, .int (fX2_dotsOfPart v_45 x1 (nI d45) y4_45 y3_45)), (0, .ref (q 0)), (1, .int x1), (2, .int y2_45), (3, .int y3_45), (4, .int y4_45), (5, .int y5_45), (6, .int (nI d45))]) hC.1 hC.2.1 dX2_printLine_70 hl (by decide) rfl (fun ls hl => ?_)
          refine lv_aload_n hC.1 hC.2.1 dX2_printLine_72 rfl (lv_at hl 2 rfl) ?_
          refine lv_iload hC.1 hC.2.1 dX2_printLine_73 (lv_at hl 0 rfl) ?_
          refine runE (rV (B := fun U H => PW G (stW G q v_45) H) (As := [.int (fX2_waitOfPart v_45 (fX2_dotsOfPart v_45 x1 (nI d45) y4_45 y3_45))]) (rest := []) hC mwX2_passTime (c_X2_passTime l G q v_45 (fX2_waitOfPart v_45 (fX2_dotsOfPart v_45 x1 (nI d45) y4_45 y3_45)) hq) iwX2_passTime wd_505 ⟨rfl, rfl⟩ ⟨Nat.le_of_ble_eq_true rfl, Nat.le_of_ble_eq_true rfl⟩ (stb_h (fun H => PW G (stW G q v_45) H)) (hKN.go hAL hS) hP (va_recv (hKN.go hAL hS).k hP (ci := 2) (q0 := 0) rfl rfl) rfl hl.1 rfl (Nat.le_of_ble_eq_true rfl) dX2_printLine_75 ⟨Nat.zero_le _, Nat.zero_le _⟩) hS (fun _ h => h) (fun _ h => h) (fun H locs hq_13 _ _ hS => ?_)
          have hP : PW G (stW G q (fX2_passTime v_45 (fX2_waitOfPart v_45 (fX2_dotsOfPart v_45 x1 (nI d45) y4_45 y3_45)))) H := hq_13
          obtain ⟨r_14, er_14⟩ : ∃ z, z = fX2_passTime v_45 (fX2_waitOfPart v_45 (fX2_dotsOfPart v_45 x1 (nI d45) y4_45 y3_45)) := ⟨_, rfl⟩
          rw [← er_14] at hP
          refine lv_aload_n hC.1 hC.2.1 dX2_printLine_78 rfl (lv_at hl 2 rfl) ?_
          refine gf (v := .ref (q 8)) hC fwX2 (hKN.go hAL hS) hP 0 rfl rfl 4 (by decide) rfl wd_113 rfl dX2_printLine_79 ?_
          refine lv_dup hC.1 hC.2.1 dX2_printLine_82 rfl ?_
          refine gfN (v := .int (r_14 8 4)) hC fwX4 (hKN.go hAL hS) hP 8 rfl rfl 5 (by decide) rfl (nf_9 (hKN.go hAL hS)) rfl dX2_printLine_83 ?_
          refine lv_iload hC.1 hC.2.1 dX2_printLine_86 (lv_at hl 0 rfl) ?_
          refine lv_iadd hC.1 hC.2.1 dX2_printLine_88 ?_
          refine lv_topi (fun w_15 ew_15 => ?_)
          refine pfN (v := .int w_15) (tv := .int) hC fwX4 (hKN.go hAL hS) hP (stD_D hq r_14) hS 8 rfl rfl 5 (by decide) rfl (nf_9 (hKN.go hAL hS)) rfl rfl rfl (Nat.le_of_ble_eq_true rfl) dX2_printLine_89 (fun H locs hq_16 hS => ?_)
          have hP : PW G (stW G q (mkS (r_14 0) (r_14 1) (r_14 2) (r_14 3) (r_14 4) (r_14 5) (r_14 6) (r_14 7) (r_14 8 0) (r_14 8 1) (r_14 8 2) (r_14 8 3) w_15 (r_14 8 5) (r_14 8 6) (r_14 8 7) (r_14 8 8) (r_14 8 9) (r_14 8 10))) H := hq_16
          refine lv_iload hC.1 hC.2.1 dX2_printLine_92 (lv_at hl 7 rfl) ?_
          refine lv_aload_n hC.1 hC.2.1 dX2_printLine_94 rfl (lv_at hl 2 rfl) ?_
          refine lv_iload hC.1 hC.2.1 dX2_printLine_95 (lv_at hl 1 rfl) ?_
          refine runE (rV (B := fun U H => PW G (stW G q (mkS (r_14 0) (r_14 1) (r_14 2) (r_14 3) (r_14 4) (r_14 5) (r_14 6) (r_14 7) (r_14 8 0) (r_14 8 1) (r_14 8 2) (r_14 8 3) w_15 (r_14 8 5) (r_14 8 6) (r_14 8 7) (r_14 8 8) (r_14 8 9) (r_14 8 10))) H) (As := [.int (fX2_dotsOfPart v_45 x1 (nI d45) y4_45 y3_45)]) (rest := [.int y5_45]) hC mwX2_heatPart (c_X2_heatPart l G q (mkS (r_14 0) (r_14 1) (r_14 2) (r_14 3) (r_14 4) (r_14 5) (r_14 6) (r_14 7) (r_14 8 0) (r_14 8 1) (r_14 8 2) (r_14 8 3) w_15 (r_14 8 5) (r_14 8 6) (r_14 8 7) (r_14 8 8) (r_14 8 9) (r_14 8 10)) (fX2_dotsOfPart v_45 x1 (nI d45) y4_45 y3_45) hq) iwX2_heatPart wd_513 ⟨rfl, rfl⟩ ⟨Nat.le_of_ble_eq_true rfl, Nat.le_of_ble_eq_true rfl⟩ (stb_h (fun H => PW G (stW G q (mkS (r_14 0) (r_14 1) (r_14 2) (r_14 3) (r_14 4) (r_14 5) (r_14 6) (r_14 7) (r_14 8 0) (r_14 8 1) (r_14 8 2) (r_14 8 3) w_15 (r_14 8 5) (r_14 8 6) (r_14 8 7) (r_14 8 8) (r_14 8 9) (r_14 8 10))) H)) (hKN.go hAL hS) hP (va_recv (hKN.go hAL hS).k hP (ci := 2) (q0 := 0) rfl rfl) rfl hl.1 rfl (Nat.le_of_ble_eq_true rfl) dX2_printLine_97 ⟨Nat.zero_le _, Nat.zero_le _⟩) hS (fun _ h => h) (fun _ h => h) (fun H locs hq_17 _ _ hS => ?_)
          have hP : PW G (stW G q ((fX2_heatPart (mkS (r_14 0) (r_14 1) (r_14 2) (r_14 3) (r_14 4) (r_14 5) (r_14 6) (r_14 7) (r_14 8 0) (r_14 8 1) (r_14 8 2) (r_14 8 3) w_15 (r_14 8 5) (r_14 8 6) (r_14 8 7) (r_14 8 8) (r_14 8 9) (r_14 8 10)) (fX2_dotsOfPart v_45 x1 (nI d45) y4_45 y3_45)).1)) H := hq_17
          obtain ⟨r_18, er_18⟩ : ∃ z, z = fX2_heatPart (mkS (r_14 0) (r_14 1) (r_14 2) (r_14 3) (r_14 4) (r_14 5) (r_14 6) (r_14 7) (r_14 8 0) (r_14 8 1) (r_14 8 2) (r_14 8 3) w_15 (r_14 8 5) (r_14 8 6) (r_14 8 7) (r_14 8 8) (r_14 8 9) (r_14 8 10)) (fX2_dotsOfPart v_45 x1 (nI d45) y4_45 y3_45) := ⟨_, rfl⟩
          rw [← er_18] at hP
          show W p l e ({ frames := 3, cells := 0, slots := 0, locals := 71 }) s m ([.ref (q 0), .int x1] : List Value).toArray below meth c H locs (0 + 0) (0 + 0) _ (F0 m (97 + 3) ls [.int ((fX2_heatPart (mkS (r_14 0) (r_14 1) (r_14 2) (r_14 3) (r_14 4) (r_14 5) (r_14 6) (r_14 7) (r_14 8 0) (r_14 8 1) (r_14 8 2) (r_14 8 3) w_15 (r_14 8 5) (r_14 8 6) (r_14 8 7) (r_14 8 8) (r_14 8 9) (r_14 8 10)) (fX2_dotsOfPart v_45 x1 (nI d45) y4_45 y3_45)).2), .int y5_45])
          rw [← er_18]
          refine lv_ior hC.1 hC.2.1 dX2_printLine_100 ?_
          refine lv_istore (lv' := [(5, .int (y5_45 ||| r_18.2)), (8, .int (fX2_waitOfPart v_45 (fX2_dotsOfPart v_45 x1 (nI d45) y4_45 y3_45))), (7, .int (fX2_dotsOfPart v_45 x1 (nI d45) y4_45 y3_45)), (0, .ref (q 0)), (1, .int x1), (2, .int y2_45), (3, .int y3_45), (4, .int y4_45), (6, .int (nI d45))]) hC.1 hC.2.1 dX2_printLine_101 hl (by decide) rfl (fun ls hl => ?_)
          refine lv_aload_n hC.1 hC.2.1 dX2_printLine_103 rfl (lv_at hl 3 rfl) ?_
          refine lv_aload_n hC.1 hC.2.1 dX2_printLine_104 rfl (lv_at hl 3 rfl) ?_
          refine lv_iload hC.1 hC.2.1 dX2_printLine_105 (lv_at hl 2 rfl) ?_
          refine runP (rV (B := fun U H => PW G (stW G q r_18.1) H) (As := [.int (fX2_dotsOfPart v_45 x1 (nI d45) y4_45 y3_45)]) (rest := [.ref (q 0)]) hC mwX2_longestPulse (c_X2_longestPulse l G q r_18.1 (fX2_dotsOfPart v_45 x1 (nI d45) y4_45 y3_45)) iwX2_longestPulse wd_523 ⟨rfl, rfl⟩ ⟨Nat.le_of_ble_eq_true rfl, Nat.le_of_ble_eq_true rfl⟩ (stb_h (fun H => PW G (stW G q r_18.1) H)) (hKN.go hAL hS) hP (va_recv (hKN.go hAL hS).k hP (ci := 2) (q0 := 0) rfl rfl) rfl hl.1 rfl (Nat.le_of_ble_eq_true rfl) dX2_printLine_107 ⟨Nat.zero_le _, Nat.zero_le _⟩) ?_
          refine lv_bipush (v := 10) hC.1 hC.2.1 dX2_printLine_110 (by decide +kernel) ?_
          refine lv_idiv hC.1 hC.2.1 dX2_printLine_112 (by decide) ?_
          refine lv_iconst (v := 1) hC.1 hC.2.1 dX2_printLine_113 (by decide) ?_
          refine lv_iadd hC.1 hC.2.1 dX2_printLine_114 ?_
          refine runE (rV (B := fun U H => PW G (stW G q r_18.1) H) (As := [.int (((fX2_longestPulse r_18.1 (fX2_dotsOfPart v_45 x1 (nI d45) y4_45 y3_45)) / 10) + 1)]) (rest := []) hC mwX2_passTime (c_X2_passTime l G q r_18.1 (((fX2_longestPulse r_18.1 (fX2_dotsOfPart v_45 x1 (nI d45) y4_45 y3_45)) / 10) + 1) hq) iwX2_passTime wd_505 ⟨rfl, rfl⟩ ⟨Nat.le_of_ble_eq_true rfl, Nat.le_of_ble_eq_true rfl⟩ (stb_h (fun H => PW G (stW G q r_18.1) H)) (hKN.go hAL hS) hP (va_recv (hKN.go hAL hS).k hP (ci := 2) (q0 := 0) rfl rfl) rfl hl.1 rfl (Nat.le_of_ble_eq_true rfl) dX2_printLine_115 ⟨Nat.zero_le _, Nat.zero_le _⟩) hS (fun _ h => h) (fun _ h => h) (fun H locs hq_19 _ _ hS => ?_)
          have hP : PW G (stW G q (fX2_passTime r_18.1 (((fX2_longestPulse r_18.1 (fX2_dotsOfPart v_45 x1 (nI d45) y4_45 y3_45)) / 10) + 1))) H := hq_19
          obtain ⟨r_20, er_20⟩ : ∃ z, z = fX2_passTime r_18.1 (((fX2_longestPulse r_18.1 (fX2_dotsOfPart v_45 x1 (nI d45) y4_45 y3_45)) / 10) + 1) := ⟨_, rfl⟩
          rw [← er_20] at hP
          refine lv_iinc (v := nI (d45 + 1)) (lv' := [(6, .int (nI (d45 + 1))), (5, .int (y5_45 ||| r_18.2)), (8, .int (fX2_waitOfPart v_45 (fX2_dotsOfPart v_45 x1 (nI d45) y4_45 y3_45))), (7, .int (fX2_dotsOfPart v_45 x1 (nI d45) y4_45 y3_45)), (0, .ref (q 0)), (1, .int x1), (2, .int y2_45), (3, .int y3_45), (4, .int y4_45)]) hC.1 hC.2.1 dX2_printLine_118 hl (k := 8) rfl (nI_1 _) (by decide) rfl (fun ls hl => ?_)
          refine lv_goto (tgt := 45) hC.1 hC.2.1 dX2_printLine_121 (by decide) ?_
          have e_21 : bX2_printLine_45 v x1 y2_45 y3_45 y4_45 d45 (y5_45, v_45) = (y5_45 ||| r_18.2, r_20) := by subst er_20; subst er_18; subst ew_15; subst er_14; exact rfl
          have hg : fX2_printLine v x1 = (tX2_printLine_45 v x1 y2_45 y3_45 y4_45 (lpF n45 (d45 + 1) (bX2_printLine_45 v x1 y2_45 y3_45 y4_45) (y5_45 ||| r_18.2, r_20))) := hg.trans (congrArg (fun z => (tX2_printLine_45 v x1 y2_45 y3_45 y4_45 (lpF n45 (d45 + 1) (bX2_printLine_45 v x1 y2_45 y3_45 y4_45) z))) e_21)
          exact ih (d45 + 1) (y5_45 ||| r_18.2) r_20 (by omega) hg _ _ hP hS _ (lv_sub hl [4, 5, 6, 7, 8, 1, 0] rfl)
    have e_22 : tX2_printLine_J32 v x1 y2_32 y3_32 z0_32 v_32 = tX2_printLine_45 v x1 y2_32 y3_32 z0_32 (lpF z0_32.toNatClampNeg 0 (bX2_printLine_45 v x1 y2_32 y3_32 z0_32) (0, r_2)) := by subst er_2; exact rfl
    have hg : fX2_printLine v x1 = (tX2_printLine_45 v x1 y2_32 y3_32 z0_32 (lpF z0_32.toNatClampNeg 0 (bX2_printLine_45 v x1 y2_32 y3_32 z0_32) (0, r_2))) := hg.trans (congrArg (fun z => z) e_22)
    exact L45 y2_32 y3_32 z0_32 z0_32.toNatClampNeg 0 0 r_2 (by omega) hg _ _ hP hS _ (lv_sub hl [3, 4, 5, 6, 2, 1, 0] rfl)
  refine lv_icmp_ge (tgt := 22) hC.1 hC.2.1 dX2_printLine_15 (by decide) (fun k15 => ?_) (fun k15 => ?_)
  · refine lv_iload_n hC.1 hC.2.1 dX2_printLine_22 rfl (lv_at hl 3 rfl) ?_
    refine runP (rS (B := fun U H => True) (As := [.int x1]) (rest := []) hC mwJ6_bitCount_0f7a4 (c_J6_bitCount_0f7a4 l G x1) wd_488 wd_487 ⟨rfl, rfl⟩ ⟨Nat.le_of_ble_eq_true rfl, Nat.le_of_ble_eq_true rfl⟩ (fun _ _ _ _ h => h) hKN trivial rfl hl.1 rfl (Nat.le_of_ble_eq_true rfl) dX2_printLine_23 ⟨Nat.zero_le _, Nat.zero_le _⟩) ?_
    refine lv_iload_n hC.1 hC.2.1 dX2_printLine_26 rfl (lv_at hl 0 rfl) ?_
    refine lv_iadd hC.1 hC.2.1 dX2_printLine_27 ?_
    refine lv_iconst (v := 1) hC.1 hC.2.1 dX2_printLine_28 (by decide) ?_
    refine lv_isub hC.1 hC.2.1 dX2_printLine_29 ?_
    refine lv_iload_n hC.1 hC.2.1 dX2_printLine_30 rfl (lv_at hl 0 rfl) ?_
    refine lv_idiv hC.1 hC.2.1 dX2_printLine_31 (fun h => by rw [h] at k15; exact absurd k15 (by decide)) ?_
    have e_23 : fX2_printLine v x1 = tX2_printLine_J32 v x1 (v 8 1) (fX2_dotsAtOnce v) ((((fJ6_bitCount_0f7a4 x1) + (fX2_dotsAtOnce v)) - 1) / (fX2_dotsAtOnce v)) v := by exact Eq.trans (if_pos k15) rfl
    have hg : fX2_printLine v x1 = tX2_printLine_J32 v x1 (v 8 1) (fX2_dotsAtOnce v) ((((fJ6_bitCount_0f7a4 x1) + (fX2_dotsAtOnce v)) - 1) / (fX2_dotsAtOnce v)) v := hg.trans (congrArg (fun z => z) e_23)
    exact J32 (v 8 1) (fX2_dotsAtOnce v) ((((fJ6_bitCount_0f7a4 x1) + (fX2_dotsAtOnce v)) - 1) / (fX2_dotsAtOnce v)) v hg _ _ hP hS _ (lv_sub hl [2, 3, 1, 0] rfl)
  · refine lv_iconst (v := 0) hC.1 hC.2.1 dX2_printLine_18 (by decide) ?_
    refine lv_goto (tgt := 32) hC.1 hC.2.1 dX2_printLine_19 (by decide) ?_
    have e_24 : fX2_printLine v x1 = tX2_printLine_J32 v x1 (v 8 1) (fX2_dotsAtOnce v) 0 v := by exact Eq.trans (if_neg k15) rfl
    have hg : fX2_printLine v x1 = tX2_printLine_J32 v x1 (v 8 1) (fX2_dotsAtOnce v) 0 v := hg.trans (congrArg (fun z => z) e_24)
    exact J32 (v 8 1) (fX2_dotsAtOnce v) 0 v hg _ _ hP hS _ (lv_sub hl [2, 3, 1, 0] rfl)

theorem dX2_printLines_0 : decode cX2_printLines 0 = .ok (.iconst 0, 1) := by decide +kernel
theorem dX2_printLines_1 : decode cX2_printLines 1 = .ok (.istore_n 3, 1) := by decide +kernel
theorem dX2_printLines_2 : decode cX2_printLines 2 = .ok (.iload_n 3, 1) := by decide +kernel
theorem dX2_printLines_3 : decode cX2_printLines 3 = .ok (.iload_n 2, 1) := by decide +kernel
theorem dX2_printLines_4 : decode cX2_printLines 4 = .ok (.if_icmp .ge 15, 3) := by decide +kernel
theorem dX2_printLines_7 : decode cX2_printLines 7 = .ok (.aload_n 0, 1) := by decide +kernel
theorem dX2_printLines_8 : decode cX2_printLines 8 = .ok (.iload_n 1, 1) := by decide +kernel
theorem dX2_printLines_9 : decode cX2_printLines 9 = .ok (.invokevirtual 70, 3) := by decide +kernel
theorem dX2_printLines_12 : decode cX2_printLines 12 = .ok (.pop, 1) := by decide +kernel
theorem dX2_printLines_13 : decode cX2_printLines 13 = .ok (.iinc 3 1, 3) := by decide +kernel
theorem dX2_printLines_16 : decode cX2_printLines 16 = .ok (.goto (-14), 3) := by decide +kernel
theorem dX2_printLines_19 : decode cX2_printLines 19 = .ok (.return_, 1) := by decide +kernel
set_option maxHeartbeats 1000000 in
set_option maxRecDepth 100000 in
theorem c_X2_printLines (l : Launch) (G : GT) (q : Nat → Nat) (v : SV) (x1 : Int32) (x2 : Int32) (hq : stD G q) : Met l yX2_printLines (Cond.code yX2_printLines cX2_printLines 4 none :: bigW) ({ frames := 4, cells := 0, slots := 0, locals := 99 }) (BP G [.ref (q 0), .int x1, .int x2] (fun U H => PW G (stW G q v) H)) (QE (none) (fun H => PW G (stW G q (fX2_printLines v x1 x2)) H) (stA q)) 0 0 (stA q) := by
  refine met_of (by decide) (Nat.le_of_ble_eq_true rfl) ?_
  intro p e s m below meth c ls hC hKN hB0 hl
  have hP := hB0
  have hl : lv_has ls 4 [(0, .ref (q 0)), (1, .int x1), (2, .int x2)] := hl
  have hS : va_S (stA q) s.heap s.heap [] := va_S.rf
  have hAL : ∀ a, (stA q) a → gL G ≤ a := stD_low hq
  have hg : fX2_printLines v x1 x2 = fX2_printLines v x1 x2 := rfl
  refine lv_iconst (v := 0) hC.1 hC.2.1 dX2_printLines_0 (by decide) ?_
  refine lv_istore_n (lv' := [(3, .int 0), (0, .ref (q 0)), (1, .int x1), (2, .int x2)]) hC.1 hC.2.1 dX2_printLines_1 rfl hl (by decide) rfl (fun ls hl => ?_)
  have A2 : ∀ (v_2 : SV), fX2_printLines v x1 x2 = (tX2_printLines_2 v x1 x2 v_2) → ∀ (H : Heap) (locs : List Loc), PW G (stW G q v_2) H → va_S (stA q) s.heap H locs → ∀ (ls : Array Slot), lv_has ls 4 [] → W p l e ({ frames := 4, cells := 0, slots := 0, locals := 99 }) s m ([.ref (q 0), .int x1, .int x2] : List Value).toArray below meth c H locs 0 0 (MQ below (QE (none) (fun H => PW G (stW G q (fX2_printLines v x1 x2)) H) (stA q)) ([.ref (q 0), .int x1, .int x2] : List Value).toArray s 0 0 (stA q)) (F0 m 19 ls []) := by
    intro  v_2 hg H locs hP hS ls hl
    have e_1 : tX2_printLines_2 v x1 x2 v_2 = v_2 := by exact rfl
    have hg : fX2_printLines v x1 x2 = v_2 := hg.trans (congrArg (fun z => z) e_1)
    exact eE_v hC (by show PW G (stW G q (fX2_printLines v x1 x2)) H; rw [hg]; exact hP) hS dX2_printLines_19
  have L2 : ∀ (n2 d2 : Nat), ∀ (v_2 : SV), d2 + n2 = x2.toNatClampNeg → fX2_printLines v x1 x2 = (tX2_printLines_2 v x1 x2 (lpF n2 d2 (bX2_printLines_2 v x1 x2) v_2)) → ∀ (H : Heap) (locs : List Loc), PW G (stW G q v_2) H → va_S (stA q) s.heap H locs → ∀ (ls : Array Slot), lv_has ls 4 [(0, .ref (q 0)), (1, .int x1), (2, .int x2), (3, .int (nI d2))] → W p l e ({ frames := 4, cells := 0, slots := 0, locals := 99 }) s m ([.ref (q 0), .int x1, .int x2] : List Value).toArray below meth c H locs 0 0 (MQ below (QE (none) (fun H => PW G (stW G q (fX2_printLines v x1 x2)) H) (stA q)) ([.ref (q 0), .int x1, .int x2] : List Value).toArray s 0 0 (stA q)) (F0 m 2 ls []) := by
    intro n2
    induction n2 with
    | zero =>
      intro d2 v_2 hd hg H locs hP hS ls hl
      refine lv_iload_n hC.1 hC.2.1 dX2_printLines_2 rfl (lv_at hl 3 rfl) ?_
      refine lv_iload_n hC.1 hC.2.1 dX2_printLines_3 rfl (lv_at hl 2 rfl) ?_
      refine lv_icmp_ge (tgt := 19) hC.1 hC.2.1 dX2_printLines_4 (by decide) (fun k4 => ?_) (fun k4 => ?_)
      · exact A2  v_2 hg _ _ hP hS _ (lv_sub hl [] rfl)
      · exact absurd (cl_le (by omega) (by have := cl_lt x2; omega)) k4
    | succ n2 ih =>
      intro d2 v_2 hd hg H locs hP hS ls hl
      have hg : fX2_printLines v x1 x2 = (tX2_printLines_2 v x1 x2 (lpF n2 (d2 + 1) (bX2_printLines_2 v x1 x2) (bX2_printLines_2 v x1 x2 d2 v_2))) := hg
      refine lv_iload_n hC.1 hC.2.1 dX2_printLines_2 rfl (lv_at hl 3 rfl) ?_
      refine lv_iload_n hC.1 hC.2.1 dX2_printLines_3 rfl (lv_at hl 2 rfl) ?_
      refine lv_icmp_ge (tgt := 19) hC.1 hC.2.1 dX2_printLines_4 (by decide) (fun k4 => ?_) (fun k4 => ?_)
      · exact absurd k4 (cl_nle (by omega))
      · refine lv_aload_n hC.1 hC.2.1 dX2_printLines_7 rfl (lv_at hl 0 rfl) ?_
        refine lv_iload_n hC.1 hC.2.1 dX2_printLines_8 rfl (lv_at hl 1 rfl) ?_
        refine runE (rV (B := fun U H => PW G (stW G q v_2) H) (As := [.int x1]) (rest := []) hC mwX2_printLine (c_X2_printLine l G q v_2 x1 hq) iwX2_printLine wd_638 ⟨rfl, rfl⟩ ⟨Nat.le_of_ble_eq_true rfl, Nat.le_of_ble_eq_true rfl⟩ (stb_h (fun H => PW G (stW G q v_2) H)) (hKN.go hAL hS) hP (va_recv (hKN.go hAL hS).k hP (ci := 2) (q0 := 0) rfl rfl) rfl hl.1 rfl (Nat.le_of_ble_eq_true rfl) dX2_printLines_9 ⟨Nat.zero_le _, Nat.zero_le _⟩) hS (fun _ h => h) (fun _ h => h) (fun H locs hq_2 _ _ hS => ?_)
        have hP : PW G (stW G q ((fX2_printLine v_2 x1).1)) H := hq_2
        obtain ⟨r_3, er_3⟩ : ∃ z, z = fX2_printLine v_2 x1 := ⟨_, rfl⟩
        rw [← er_3] at hP
        show W p l e ({ frames := 4, cells := 0, slots := 0, locals := 99 }) s m ([.ref (q 0), .int x1, .int x2] : List Value).toArray below meth c H locs (0 + 0) (0 + 0) _ (F0 m (9 + 3) ls [.int ((fX2_printLine v_2 x1).2)])
        rw [← er_3]
        refine lv_pop hC.1 hC.2.1 dX2_printLines_12 rfl ?_
        refine lv_iinc (v := nI (d2 + 1)) (lv' := [(3, .int (nI (d2 + 1))), (0, .ref (q 0)), (1, .int x1), (2, .int x2)]) hC.1 hC.2.1 dX2_printLines_13 hl (k := 3) rfl (nI_1 _) (by decide) rfl (fun ls hl => ?_)
        refine lv_goto (tgt := 2) hC.1 hC.2.1 dX2_printLines_16 (by decide) ?_
        have e_4 : bX2_printLines_2 v x1 x2 d2 v_2 = r_3.1 := by subst er_3; exact rfl
        have hg : fX2_printLines v x1 x2 = (tX2_printLines_2 v x1 x2 (lpF n2 (d2 + 1) (bX2_printLines_2 v x1 x2) r_3.1)) := hg.trans (congrArg (fun z => (tX2_printLines_2 v x1 x2 (lpF n2 (d2 + 1) (bX2_printLines_2 v x1 x2) z))) e_4)
        exact ih (d2 + 1) r_3.1 (by omega) hg _ _ hP hS _ (lv_sub hl [1, 2, 3, 0] rfl)
  have e_5 : fX2_printLines v x1 x2 = tX2_printLines_2 v x1 x2 (lpF x2.toNatClampNeg 0 (bX2_printLines_2 v x1 x2) v) := by exact rfl
  have hg : fX2_printLines v x1 x2 = (tX2_printLines_2 v x1 x2 (lpF x2.toNatClampNeg 0 (bX2_printLines_2 v x1 x2) v)) := hg.trans (congrArg (fun z => z) e_5)
  exact L2  x2.toNatClampNeg 0 v (by omega) hg _ _ hP hS _ (lv_sub hl [1, 2, 3, 0] rfl)
