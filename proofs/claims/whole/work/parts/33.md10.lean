def tX6_digest_176 (v : SV) (hs : Int64) (v_176 : SV) (s : Int64) : (SV × Int64) × Int64 := let h_176 := s; ((v_176, h_176), h_176)
def bX6_digest_176 (v : SV) (hs : Int64) (v_176 : SV) (d176 : Nat) (s : Int64) : Int64 := let h_176 := s; let r_21 := fX6_mix v_176 h_176 (((v_176 4) d176).toInt64)
  r_21
def tX6_digest_74 (v : SV) (hs : Int64) (s : Int64 × SV) : (SV × Int64) × Int64 := let h_74 := s.1; let v_74 := s.2; let r_6 := fX6_better v_74 65535
  let r_8 := fX6_mix r_6.1 h_74 r_6.2.toInt64
  let r_10 := fX6_mix r_6.1 r_8 ((fX6_timeToCool r_6.1 50).toInt64)
  let r_12 := fX6_mix r_6.1 r_10 ((fX6_leastDark r_6.1 0).toInt64)
  let r_14 := fX6_mix r_6.1 r_12 (fJxe99ae_doubleToLongBits_ccdee (fX6_share r_6.1))
  let r_16 := fX6_mix r_6.1 r_14 ((fJxf58ca_floatToIntBits_5c35a (fX6_mean r_6.1)).toInt64)
  let r_18 := fX6_mix r_6.1 r_16 ((r_6.1 8 6).toInt64)
  tX6_digest_176 v hs r_6.1 (lpF ((r_6.1 8 6).toNatClampNeg) 0 (bX6_digest_176 v hs r_6.1) r_18)
def bX6_digest_74 (v : SV) (hs : Int64) (d74 : Nat) (s : Int64 × SV) : Int64 × SV := let h_74 := s.1; let v_74 := s.2; if 5 ≤ (nI d74) then (let r_25 := fX6_wouldBring v_74 5592405 ((nI d74) - (nI d74) / 5 * 5)
  let r_27 := fX6_mix r_25.1 h_74 r_25.2.toInt64
  (r_27, r_25.1)) else (let r_30 := fX6_wouldBring v_74 16777215 ((nI d74) - (nI d74) / 5 * 5)
  let r_32 := fX6_mix r_30.1 h_74 r_30.2.toInt64
  (r_32, r_30.1))
def tX6_digest_38 (v : SV) (hs : Int64) (v_38 : SV) (s : Int64) : (SV × Int64) × Int64 := let h_38 := s; let r_4 := fX6_mixStrip v_38 h_38
  tX6_digest_74 v hs (lpF 10 0 (bX6_digest_74 v hs) (r_4, v_38))
def bX6_digest_38 (v : SV) (hs : Int64) (v_38 : SV) (d38 : Nat) (s : Int64) : Int64 := let h_38 := s; let r_37 := fX6_mix v_38 h_38 ((fX6_ofDot v_38 (d38 / 7) ((nI d38) - (nI d38) / 7 * 7)).toInt64)
  r_37
def tX6_digest_14 (v : SV) (hs : Int64) (v_14 : SV) (s : Int64) : (SV × Int64) × Int64 := let h_14 := s; tX6_digest_38 v hs v_14 (lpF 168 0 (bX6_digest_38 v hs v_14) h_14)
def bX6_digest_14 (v : SV) (hs : Int64) (v_14 : SV) (d14 : Nat) (s : Int64) : Int64 := let h_14 := s; let r_41 := fX6_mix v_14 h_14 ((fX6_number v_14 (nI d14)).toInt64)
  r_41
def fX6_digest (v : SV) (hs : Int64) : (SV × Int64) × Int64 := tX6_digest_14 v hs (mkM (v 0) (v 1) (v 2) (v 3) (v 4) (v 5) (v 6) (v 7) (v 8 0) (v 8 1) 0 (v 8 3) (v 8 4) (v 8 5) (v 8 6) (v 8 7) (v 8 8)) (lpF 19 0 (bX6_digest_14 v hs (mkM (v 0) (v 1) (v 2) (v 3) (v 4) (v 5) (v 6) (v 7) (v 8 0) (v 8 1) 0 (v 8 3) (v 8 4) (v 8 5) (v 8 6) (v 8 7) (v 8 8))) 3833)
theorem dX6_digest_0 : decode cX6_digest 0 = .ok (.aload_n 0, 1) := by decide +kernel
theorem dX6_digest_1 : decode cX6_digest 1 = .ok (.iconst 0, 1) := by decide +kernel
theorem dX6_digest_2 : decode cX6_digest 2 = .ok (.putfield 34, 3) := by decide +kernel
theorem dX6_digest_5 : decode cX6_digest 5 = .ok (.aload_n 0, 1) := by decide +kernel
theorem dX6_digest_6 : decode cX6_digest 6 = .ok (.ldc2_w 226, 3) := by decide +kernel
theorem dX6_digest_9 : decode cX6_digest 9 = .ok (.putfield 218, 3) := by decide +kernel
theorem dX6_digest_12 : decode cX6_digest 12 = .ok (.iconst 0, 1) := by decide +kernel
theorem dX6_digest_13 : decode cX6_digest 13 = .ok (.istore_n 1, 1) := by decide +kernel
theorem dX6_digest_14 : decode cX6_digest 14 = .ok (.iload_n 1, 1) := by decide +kernel
theorem dX6_digest_15 : decode cX6_digest 15 = .ok (.bipush 19, 2) := by decide +kernel
theorem dX6_digest_17 : decode cX6_digest 17 = .ok (.if_icmp .ge 19, 3) := by decide +kernel
theorem dX6_digest_20 : decode cX6_digest 20 = .ok (.aload_n 0, 1) := by decide +kernel
theorem dX6_digest_21 : decode cX6_digest 21 = .ok (.aload_n 0, 1) := by decide +kernel
theorem dX6_digest_22 : decode cX6_digest 22 = .ok (.iload_n 1, 1) := by decide +kernel
theorem dX6_digest_23 : decode cX6_digest 23 = .ok (.invokevirtual 183, 3) := by decide +kernel
theorem dX6_digest_26 : decode cX6_digest 26 = .ok (.i2l, 1) := by decide +kernel
theorem dX6_digest_27 : decode cX6_digest 27 = .ok (.invokevirtual 222, 3) := by decide +kernel
theorem dX6_digest_30 : decode cX6_digest 30 = .ok (.iinc 1 1, 3) := by decide +kernel
theorem dX6_digest_33 : decode cX6_digest 33 = .ok (.goto (-19), 3) := by decide +kernel
theorem dX6_digest_36 : decode cX6_digest 36 = .ok (.iconst 0, 1) := by decide +kernel
theorem dX6_digest_37 : decode cX6_digest 37 = .ok (.istore_n 1, 1) := by decide +kernel
theorem dX6_digest_38 : decode cX6_digest 38 = .ok (.iload_n 1, 1) := by decide +kernel
theorem dX6_digest_39 : decode cX6_digest 39 = .ok (.sipush 168, 3) := by decide +kernel
theorem dX6_digest_42 : decode cX6_digest 42 = .ok (.if_icmp .ge 26, 3) := by decide +kernel
theorem dX6_digest_45 : decode cX6_digest 45 = .ok (.aload_n 0, 1) := by decide +kernel
theorem dX6_digest_46 : decode cX6_digest 46 = .ok (.aload_n 0, 1) := by decide +kernel
theorem dX6_digest_47 : decode cX6_digest 47 = .ok (.iload_n 1, 1) := by decide +kernel
theorem dX6_digest_48 : decode cX6_digest 48 = .ok (.bipush 7, 2) := by decide +kernel
theorem dX6_digest_50 : decode cX6_digest 50 = .ok (.idiv, 1) := by decide +kernel
theorem dX6_digest_51 : decode cX6_digest 51 = .ok (.iload_n 1, 1) := by decide +kernel
theorem dX6_digest_52 : decode cX6_digest 52 = .ok (.bipush 7, 2) := by decide +kernel
theorem dX6_digest_54 : decode cX6_digest 54 = .ok (.irem, 1) := by decide +kernel
theorem dX6_digest_55 : decode cX6_digest 55 = .ok (.invokevirtual 180, 3) := by decide +kernel
theorem dX6_digest_58 : decode cX6_digest 58 = .ok (.i2l, 1) := by decide +kernel
theorem dX6_digest_59 : decode cX6_digest 59 = .ok (.invokevirtual 222, 3) := by decide +kernel
theorem dX6_digest_62 : decode cX6_digest 62 = .ok (.iinc 1 1, 3) := by decide +kernel
theorem dX6_digest_65 : decode cX6_digest 65 = .ok (.goto (-27), 3) := by decide +kernel
theorem dX6_digest_68 : decode cX6_digest 68 = .ok (.aload_n 0, 1) := by decide +kernel
theorem dX6_digest_69 : decode cX6_digest 69 = .ok (.invokevirtual 228, 3) := by decide +kernel
theorem dX6_digest_72 : decode cX6_digest 72 = .ok (.iconst 0, 1) := by decide +kernel
theorem dX6_digest_73 : decode cX6_digest 73 = .ok (.istore_n 1, 1) := by decide +kernel
theorem dX6_digest_74 : decode cX6_digest 74 = .ok (.iload_n 1, 1) := by decide +kernel
theorem dX6_digest_75 : decode cX6_digest 75 = .ok (.bipush 10, 2) := by decide +kernel
theorem dX6_digest_77 : decode cX6_digest 77 = .ok (.if_icmp .ge 33, 3) := by decide +kernel
theorem dX6_digest_80 : decode cX6_digest 80 = .ok (.aload_n 0, 1) := by decide +kernel
theorem dX6_digest_81 : decode cX6_digest 81 = .ok (.aload_n 0, 1) := by decide +kernel
theorem dX6_digest_82 : decode cX6_digest 82 = .ok (.iload_n 1, 1) := by decide +kernel
theorem dX6_digest_83 : decode cX6_digest 83 = .ok (.iconst 5, 1) := by decide +kernel
theorem dX6_digest_84 : decode cX6_digest 84 = .ok (.if_icmp .ge 8, 3) := by decide +kernel
theorem dX6_digest_87 : decode cX6_digest 87 = .ok (.ldc 38, 2) := by decide +kernel
theorem dX6_digest_89 : decode cX6_digest 89 = .ok (.goto 5, 3) := by decide +kernel
theorem dX6_digest_92 : decode cX6_digest 92 = .ok (.ldc 231, 2) := by decide +kernel
theorem dX6_digest_94 : decode cX6_digest 94 = .ok (.iload_n 1, 1) := by decide +kernel
theorem dX6_digest_95 : decode cX6_digest 95 = .ok (.iconst 5, 1) := by decide +kernel
theorem dX6_digest_96 : decode cX6_digest 96 = .ok (.irem, 1) := by decide +kernel
theorem dX6_digest_97 : decode cX6_digest 97 = .ok (.invokevirtual 192, 3) := by decide +kernel
theorem dX6_digest_100 : decode cX6_digest 100 = .ok (.i2l, 1) := by decide +kernel
theorem dX6_digest_101 : decode cX6_digest 101 = .ok (.invokevirtual 222, 3) := by decide +kernel
theorem dX6_digest_104 : decode cX6_digest 104 = .ok (.iinc 1 1, 3) := by decide +kernel
theorem dX6_digest_107 : decode cX6_digest 107 = .ok (.goto (-33), 3) := by decide +kernel
theorem dX6_digest_110 : decode cX6_digest 110 = .ok (.aload_n 0, 1) := by decide +kernel
theorem dX6_digest_111 : decode cX6_digest 111 = .ok (.aload_n 0, 1) := by decide +kernel
theorem dX6_digest_112 : decode cX6_digest 112 = .ok (.ldc 232, 2) := by decide +kernel
theorem dX6_digest_114 : decode cX6_digest 114 = .ok (.invokevirtual 195, 3) := by decide +kernel
theorem dX6_digest_117 : decode cX6_digest 117 = .ok (.i2l, 1) := by decide +kernel
theorem dX6_digest_118 : decode cX6_digest 118 = .ok (.invokevirtual 222, 3) := by decide +kernel
theorem dX6_digest_121 : decode cX6_digest 121 = .ok (.aload_n 0, 1) := by decide +kernel
theorem dX6_digest_122 : decode cX6_digest 122 = .ok (.aload_n 0, 1) := by decide +kernel
theorem dX6_digest_123 : decode cX6_digest 123 = .ok (.bipush 50, 2) := by decide +kernel
theorem dX6_digest_125 : decode cX6_digest 125 = .ok (.invokevirtual 198, 3) := by decide +kernel
theorem dX6_digest_128 : decode cX6_digest 128 = .ok (.i2l, 1) := by decide +kernel
theorem dX6_digest_129 : decode cX6_digest 129 = .ok (.invokevirtual 222, 3) := by decide +kernel
theorem dX6_digest_132 : decode cX6_digest 132 = .ok (.aload_n 0, 1) := by decide +kernel
theorem dX6_digest_133 : decode cX6_digest 133 = .ok (.aload_n 0, 1) := by decide +kernel
theorem dX6_digest_134 : decode cX6_digest 134 = .ok (.iconst 0, 1) := by decide +kernel
theorem dX6_digest_135 : decode cX6_digest 135 = .ok (.invokevirtual 204, 3) := by decide +kernel
theorem dX6_digest_138 : decode cX6_digest 138 = .ok (.i2l, 1) := by decide +kernel
theorem dX6_digest_139 : decode cX6_digest 139 = .ok (.invokevirtual 222, 3) := by decide +kernel
theorem dX6_digest_142 : decode cX6_digest 142 = .ok (.aload_n 0, 1) := by decide +kernel
theorem dX6_digest_143 : decode cX6_digest 143 = .ok (.aload_n 0, 1) := by decide +kernel
theorem dX6_digest_144 : decode cX6_digest 144 = .ok (.invokevirtual 207, 3) := by decide +kernel
theorem dX6_digest_147 : decode cX6_digest 147 = .ok (.invokestatic 233, 3) := by decide +kernel
theorem dX6_digest_150 : decode cX6_digest 150 = .ok (.invokevirtual 222, 3) := by decide +kernel
theorem dX6_digest_153 : decode cX6_digest 153 = .ok (.aload_n 0, 1) := by decide +kernel
theorem dX6_digest_154 : decode cX6_digest 154 = .ok (.aload_n 0, 1) := by decide +kernel
theorem dX6_digest_155 : decode cX6_digest 155 = .ok (.invokevirtual 212, 3) := by decide +kernel
theorem dX6_digest_158 : decode cX6_digest 158 = .ok (.invokestatic 239, 3) := by decide +kernel
theorem dX6_digest_161 : decode cX6_digest 161 = .ok (.i2l, 1) := by decide +kernel
theorem dX6_digest_162 : decode cX6_digest 162 = .ok (.invokevirtual 222, 3) := by decide +kernel
theorem dX6_digest_165 : decode cX6_digest 165 = .ok (.aload_n 0, 1) := by decide +kernel
theorem dX6_digest_166 : decode cX6_digest 166 = .ok (.aload_n 0, 1) := by decide +kernel
theorem dX6_digest_167 : decode cX6_digest 167 = .ok (.getfield 133, 3) := by decide +kernel
theorem dX6_digest_170 : decode cX6_digest 170 = .ok (.i2l, 1) := by decide +kernel
theorem dX6_digest_171 : decode cX6_digest 171 = .ok (.invokevirtual 222, 3) := by decide +kernel
theorem dX6_digest_174 : decode cX6_digest 174 = .ok (.iconst 0, 1) := by decide +kernel
theorem dX6_digest_175 : decode cX6_digest 175 = .ok (.istore_n 1, 1) := by decide +kernel
theorem dX6_digest_176 : decode cX6_digest 176 = .ok (.iload_n 1, 1) := by decide +kernel
theorem dX6_digest_177 : decode cX6_digest 177 = .ok (.aload_n 0, 1) := by decide +kernel
theorem dX6_digest_178 : decode cX6_digest 178 = .ok (.getfield 133, 3) := by decide +kernel
theorem dX6_digest_181 : decode cX6_digest 181 = .ok (.if_icmp .ge 20, 3) := by decide +kernel
theorem dX6_digest_184 : decode cX6_digest 184 = .ok (.aload_n 0, 1) := by decide +kernel
theorem dX6_digest_185 : decode cX6_digest 185 = .ok (.aload_n 0, 1) := by decide +kernel
theorem dX6_digest_186 : decode cX6_digest 186 = .ok (.getfield 22, 3) := by decide +kernel
theorem dX6_digest_189 : decode cX6_digest 189 = .ok (.iload_n 1, 1) := by decide +kernel
theorem dX6_digest_190 : decode cX6_digest 190 = .ok (.iaload, 1) := by decide +kernel
theorem dX6_digest_191 : decode cX6_digest 191 = .ok (.i2l, 1) := by decide +kernel
theorem dX6_digest_192 : decode cX6_digest 192 = .ok (.invokevirtual 222, 3) := by decide +kernel
theorem dX6_digest_195 : decode cX6_digest 195 = .ok (.iinc 1 1, 3) := by decide +kernel
theorem dX6_digest_198 : decode cX6_digest 198 = .ok (.goto (-22), 3) := by decide +kernel
theorem dX6_digest_201 : decode cX6_digest 201 = .ok (.aload_n 0, 1) := by decide +kernel
theorem dX6_digest_202 : decode cX6_digest 202 = .ok (.getfield 218, 3) := by decide +kernel
theorem dX6_digest_205 : decode cX6_digest 205 = .ok (.lreturn, 1) := by decide +kernel
set_option maxHeartbeats 1000000 in
set_option maxRecDepth 100000 in
theorem c_X6_digest (l : Launch) (G : GT) (q : Nat → Nat) (v : SV) (hs : Int64) (hq : mdD G q) (hI : DI v) : Met l yX6_digest (Cond.code yX6_digest cX6_digest 2 (some .long) :: bigW) ({ frames := 8, cells := 0, slots := 0, locals := 191 }) (BP G [.ref (q 0)] (fun U H => PW G (mdW G q v hs) H)) (QE (some (.long (fX6_digest v hs).2)) (fun H => PW G (mdW G q ((fX6_digest v hs).1).1 ((fX6_digest v hs).1).2) H) (mdA q)) 0 0 (mdA q) := by
  refine met_of (by decide) (Nat.le_of_ble_eq_true rfl) ?_
  intro p e s m below meth c ls hC hKN hB0 hl
  have hP := hB0
  have hl : lv_has ls 2 [(0, .ref (q 0))] := hl
  have hS : va_S (mdA q) s.heap s.heap [] := va_S.rf
  have hAL : ∀ a, (mdA q) a → gL G ≤ a := mdD_low hq
  have hg : fX6_digest v hs = fX6_digest v hs := rfl
  refine lv_aload_n hC.1 hC.2.1 dX6_digest_0 rfl (lv_at hl 0 rfl) ?_
  refine lv_iconst (v := 0) hC.1 hC.2.1 dX6_digest_1 (by decide) ?_
  refine pf (v := .int 0) (tv := .int) hC fwX6 hKN hP (mdD_D hq v hs) hS 0 rfl rfl 6 (by decide) rfl wd_893 rfl rfl rfl (Nat.le_of_ble_eq_true rfl) dX6_digest_2 (fun H locs hq_1 hS => ?_)
  have hP : PW G (mdW G q (mkM (v 0) (v 1) (v 2) (v 3) (v 4) (v 5) (v 6) (v 7) (v 8 0) (v 8 1) 0 (v 8 3) (v 8 4) (v 8 5) (v 8 6) (v 8 7) (v 8 8)) hs) H := hq_1
  have hI : DI (mkM (v 0) (v 1) (v 2) (v 3) (v 4) (v 5) (v 6) (v 7) (v 8 0) (v 8 1) 0 (v 8 3) (v 8 4) (v 8 5) (v 8 6) (v 8 7) (v 8 8)) := hI
  refine lv_aload_n hC.1 hC.2.1 dX6_digest_5 rfl (lv_at hl 0 rfl) ?_
  refine lv_ldc2 (v := 3833) hC.1 hC.2.1 hC.2.2.2.2.1 (hC.2.2.2.2.2.2.1 _ wd_1219) dX6_digest_6 ?_
  refine pf (v := .long 3833) (tv := .long) hC fwX6 (hKN.go hAL hS) hP (mdD_D hq (mkM (v 0) (v 1) (v 2) (v 3) (v 4) (v 5) (v 6) (v 7) (v 8 0) (v 8 1) 0 (v 8 3) (v 8 4) (v 8 5) (v 8 6) (v 8 7) (v 8 8)) hs) hS 0 rfl rfl 17 (by decide) rfl wd_904 rfl rfl rfl (Nat.le_of_ble_eq_true rfl) dX6_digest_9 (fun H locs hq_2 hS => ?_)
  have hP : PW G (mdW G q (mkM (v 0) (v 1) (v 2) (v 3) (v 4) (v 5) (v 6) (v 7) (v 8 0) (v 8 1) 0 (v 8 3) (v 8 4) (v 8 5) (v 8 6) (v 8 7) (v 8 8)) 3833) H := hq_2
  have hI : DI (mkM (v 0) (v 1) (v 2) (v 3) (v 4) (v 5) (v 6) (v 7) (v 8 0) (v 8 1) 0 (v 8 3) (v 8 4) (v 8 5) (v 8 6) (v 8 7) (v 8 8)) := hI
  refine lv_iconst (v := 0) hC.1 hC.2.1 dX6_digest_12 (by decide) ?_
  refine lv_istore_n (lv' := [(1, .int 0), (0, .ref (q 0))]) hC.1 hC.2.1 dX6_digest_13 rfl hl (by decide) rfl (fun ls hl => ?_)
  have A14 : ∀ (v_14 : SV), ∀ (h_14 : Int64), fX6_digest v hs = (tX6_digest_14 v hs v_14 h_14) → DI v_14 → ∀ (H : Heap) (locs : List Loc), PW G (mdW G q v_14 h_14) H → va_S (mdA q) s.heap H locs → ∀ (ls : Array Slot), lv_has ls 2 [(0, .ref (q 0))] → W p l e ({ frames := 8, cells := 0, slots := 0, locals := 191 }) s m ([.ref (q 0)] : List Value).toArray below meth c H locs 0 0 (MQ below (QE (some (.long (fX6_digest v hs).2)) (fun H => PW G (mdW G q ((fX6_digest v hs).1).1 ((fX6_digest v hs).1).2) H) (mdA q)) ([.ref (q 0)] : List Value).toArray s 0 0 (mdA q)) (F0 m 36 ls []) := by
    intro v_14 h_14 hg hI H locs hP hS ls hl
    refine lv_iconst (v := 0) hC.1 hC.2.1 dX6_digest_36 (by decide) ?_
    refine lv_istore_n (lv' := [(1, .int 0), (0, .ref (q 0))]) hC.1 hC.2.1 dX6_digest_37 rfl hl (by decide) rfl (fun ls hl => ?_)
    have A38 : ∀ (v_38 : SV), ∀ (h_38 : Int64), fX6_digest v hs = (tX6_digest_38 v hs v_38 h_38) → DI v_38 → ∀ (H : Heap) (locs : List Loc), PW G (mdW G q v_38 h_38) H → va_S (mdA q) s.heap H locs → ∀ (ls : Array Slot), lv_has ls 2 [(0, .ref (q 0))] → W p l e ({ frames := 8, cells := 0, slots := 0, locals := 191 }) s m ([.ref (q 0)] : List Value).toArray below meth c H locs 0 0 (MQ below (QE (some (.long (fX6_digest v hs).2)) (fun H => PW G (mdW G q ((fX6_digest v hs).1).1 ((fX6_digest v hs).1).2) H) (mdA q)) ([.ref (q 0)] : List Value).toArray s 0 0 (mdA q)) (F0 m 68 ls []) := by
      intro v_38 h_38 hg hI H locs hP hS ls hl
      refine lv_aload_n hC.1 hC.2.1 dX6_digest_68 rfl (lv_at hl 0 rfl) ?_
      refine runE (rV (B := fun U H => PW G (mdW G q v_38 h_38) H) (As := []) (rest := []) hC mwX6_mixStrip (c_X6_mixStrip l G q v_38 h_38 hq hI.2.1 hI.2.2.1) iwX6_mixStrip wd_1225 ⟨rfl, rfl⟩ ⟨Nat.le_of_ble_eq_true rfl, Nat.le_of_ble_eq_true rfl⟩ (stb_h (fun H => PW G (mdW G q v_38 h_38) H)) (hKN.go hAL hS) hP (va_recv (hKN.go hAL hS).k hP (ci := 6) (q0 := 0) rfl rfl) rfl hl.1 rfl (Nat.le_of_ble_eq_true rfl) dX6_digest_69 ⟨Nat.zero_le _, Nat.zero_le _⟩) hS (fun _ h => h) (fun _ h => h) (fun H locs hq_3 _ _ hS => ?_)
      have hP : PW G (mdW G q v_38 (fX6_mixStrip v_38 h_38)) H := hq_3
      obtain ⟨r_4, er_4⟩ : ∃ z, z = fX6_mixStrip v_38 h_38 := ⟨_, rfl⟩
      rw [← er_4] at hP
      refine lv_iconst (v := 0) hC.1 hC.2.1 dX6_digest_72 (by decide) ?_
      refine lv_istore_n (lv' := [(1, .int 0), (0, .ref (q 0))]) hC.1 hC.2.1 dX6_digest_73 rfl hl (by decide) rfl (fun ls hl => ?_)
      have A74 : ∀ (h_74 : Int64) (v_74 : SV), fX6_digest v hs = (tX6_digest_74 v hs (h_74, v_74)) → DI v_74 → ∀ (H : Heap) (locs : List Loc), PW G (mdW G q v_74 h_74) H → va_S (mdA q) s.heap H locs → ∀ (ls : Array Slot), lv_has ls 2 [(0, .ref (q 0))] → W p l e ({ frames := 8, cells := 0, slots := 0, locals := 191 }) s m ([.ref (q 0)] : List Value).toArray below meth c H locs 0 0 (MQ below (QE (some (.long (fX6_digest v hs).2)) (fun H => PW G (mdW G q ((fX6_digest v hs).1).1 ((fX6_digest v hs).1).2) H) (mdA q)) ([.ref (q 0)] : List Value).toArray s 0 0 (mdA q)) (F0 m 110 ls []) := by
        intro  h_74 v_74 hg hI H locs hP hS ls hl
        refine lv_aload_n hC.1 hC.2.1 dX6_digest_110 rfl (lv_at hl 0 rfl) ?_
        refine lv_aload_n hC.1 hC.2.1 dX6_digest_111 rfl (lv_at hl 0 rfl) ?_
        refine lv_ldc (v := 65535) hC.1 hC.2.1 hC.2.2.2.2.1 (hC.2.2.2.2.2.2.1 _ wd_1230) dX6_digest_112 ?_
        refine runE (rV (B := fun U H => PW G (mdW G q v_74 h_74) H) (As := [.int 65535]) (rest := [.ref (q 0)]) hC mwX6_better (c_X6_better l G q v_74 h_74 65535 hq hI.1) iwX6_better wd_1174 ⟨rfl, rfl⟩ ⟨Nat.le_of_ble_eq_true rfl, Nat.le_of_ble_eq_true rfl⟩ (stb_h (fun H => PW G (mdW G q v_74 h_74) H)) (hKN.go hAL hS) hP (va_recv (hKN.go hAL hS).k hP (ci := 6) (q0 := 0) rfl rfl) rfl hl.1 rfl (Nat.le_of_ble_eq_true rfl) dX6_digest_114 ⟨Nat.zero_le _, Nat.zero_le _⟩) hS (fun _ h => h) (fun _ h => h) (fun H locs hq_5 _ _ hS => ?_)
        have hP : PW G (mdW G q ((fX6_better v_74 65535).1) h_74) H := hq_5
        obtain ⟨r_6, er_6⟩ : ∃ z, z = fX6_better v_74 65535 := ⟨_, rfl⟩
        rw [← er_6] at hP
        show W p l e ({ frames := 8, cells := 0, slots := 0, locals := 191 }) s m ([.ref (q 0)] : List Value).toArray below meth c H locs (0 + 0) (0 + 0) _ (F0 m (114 + 3) ls [.int ((fX6_better v_74 65535).2), .ref (q 0)])
        rw [← er_6]
        have hI : DI r_6.1 := by rw [er_6]; exact (DI_row hI (better_row _ _) (better_len _ _))
        refine lv_i2l (v := r_6.2.toInt64) hC.1 hC.2.1 dX6_digest_117 rfl ?_
        refine runE (rV (B := fun U H => PW G (mdW G q r_6.1 h_74) H) (As := [.long r_6.2.toInt64]) (rest := []) hC mwX6_mix (c_X6_mix l G q r_6.1 h_74 r_6.2.toInt64 hq) iwX6_mix wd_1220 ⟨rfl, rfl⟩ ⟨Nat.le_of_ble_eq_true rfl, Nat.le_of_ble_eq_true rfl⟩ (stb_h (fun H => PW G (mdW G q r_6.1 h_74) H)) (hKN.go hAL hS) hP (va_recv (hKN.go hAL hS).k hP (ci := 6) (q0 := 0) rfl rfl) rfl hl.1 rfl (Nat.le_of_ble_eq_true rfl) dX6_digest_118 ⟨Nat.zero_le _, Nat.zero_le _⟩) hS (fun _ h => h) (fun _ h => h) (fun H locs hq_7 _ _ hS => ?_)
        have hP : PW G (mdW G q r_6.1 (fX6_mix r_6.1 h_74 r_6.2.toInt64)) H := hq_7
        obtain ⟨r_8, er_8⟩ : ∃ z, z = fX6_mix r_6.1 h_74 r_6.2.toInt64 := ⟨_, rfl⟩
        rw [← er_8] at hP
        refine lv_aload_n hC.1 hC.2.1 dX6_digest_121 rfl (lv_at hl 0 rfl) ?_
        refine lv_aload_n hC.1 hC.2.1 dX6_digest_122 rfl (lv_at hl 0 rfl) ?_
        refine lv_bipush (v := 50) hC.1 hC.2.1 dX6_digest_123 (by decide +kernel) ?_
        refine runP (rV (B := fun U H => PW G (mdW G q r_6.1 r_8) H) (As := [.int 50]) (rest := [.ref (q 0)]) hC mwX6_timeToCool (c_X6_timeToCool l G q r_6.1 r_8 50 hI.1 (by decide)) iwX6_timeToCool wd_1182 ⟨rfl, rfl⟩ ⟨Nat.le_of_ble_eq_true rfl, Nat.le_of_ble_eq_true rfl⟩ (stb_h (fun H => PW G (mdW G q r_6.1 r_8) H)) (hKN.go hAL hS) hP (va_recv (hKN.go hAL hS).k hP (ci := 6) (q0 := 0) rfl rfl) rfl hl.1 rfl (Nat.le_of_ble_eq_true rfl) dX6_digest_125 ⟨Nat.zero_le _, Nat.zero_le _⟩) ?_
        refine lv_i2l (v := (fX6_timeToCool r_6.1 50).toInt64) hC.1 hC.2.1 dX6_digest_128 rfl ?_
        refine runE (rV (B := fun U H => PW G (mdW G q r_6.1 r_8) H) (As := [.long ((fX6_timeToCool r_6.1 50).toInt64)]) (rest := []) hC mwX6_mix (c_X6_mix l G q r_6.1 r_8 ((fX6_timeToCool r_6.1 50).toInt64) hq) iwX6_mix wd_1220 ⟨rfl, rfl⟩ ⟨Nat.le_of_ble_eq_true rfl, Nat.le_of_ble_eq_true rfl⟩ (stb_h (fun H => PW G (mdW G q r_6.1 r_8) H)) (hKN.go hAL hS) hP (va_recv (hKN.go hAL hS).k hP (ci := 6) (q0 := 0) rfl rfl) rfl hl.1 rfl (Nat.le_of_ble_eq_true rfl) dX6_digest_129 ⟨Nat.zero_le _, Nat.zero_le _⟩) hS (fun _ h => h) (fun _ h => h) (fun H locs hq_9 _ _ hS => ?_)
        have hP : PW G (mdW G q r_6.1 (fX6_mix r_6.1 r_8 ((fX6_timeToCool r_6.1 50).toInt64))) H := hq_9
        obtain ⟨r_10, er_10⟩ : ∃ z, z = fX6_mix r_6.1 r_8 ((fX6_timeToCool r_6.1 50).toInt64) := ⟨_, rfl⟩
        rw [← er_10] at hP
        refine lv_aload_n hC.1 hC.2.1 dX6_digest_132 rfl (lv_at hl 0 rfl) ?_
        refine lv_aload_n hC.1 hC.2.1 dX6_digest_133 rfl (lv_at hl 0 rfl) ?_
        refine lv_iconst (v := 0) hC.1 hC.2.1 dX6_digest_134 (by decide) ?_
        refine runP (rV (B := fun U H => PW G (mdW G q r_6.1 r_10) H) (As := [.int 0]) (rest := [.ref (q 0)]) hC mwX6_leastDark (c_X6_leastDark l G q r_6.1 r_10 0 hI.1 (by omega)) iwX6_leastDark wd_1190 ⟨rfl, rfl⟩ ⟨Nat.le_of_ble_eq_true rfl, Nat.le_of_ble_eq_true rfl⟩ (stb_h (fun H => PW G (mdW G q r_6.1 r_10) H)) (hKN.go hAL hS) hP (va_recv (hKN.go hAL hS).k hP (ci := 6) (q0 := 0) rfl rfl) rfl hl.1 rfl (Nat.le_of_ble_eq_true rfl) dX6_digest_135 ⟨Nat.zero_le _, Nat.zero_le _⟩) ?_
        refine lv_i2l (v := (fX6_leastDark r_6.1 0).toInt64) hC.1 hC.2.1 dX6_digest_138 rfl ?_
        refine runE (rV (B := fun U H => PW G (mdW G q r_6.1 r_10) H) (As := [.long ((fX6_leastDark r_6.1 0).toInt64)]) (rest := []) hC mwX6_mix (c_X6_mix l G q r_6.1 r_10 ((fX6_leastDark r_6.1 0).toInt64) hq) iwX6_mix wd_1220 ⟨rfl, rfl⟩ ⟨Nat.le_of_ble_eq_true rfl, Nat.le_of_ble_eq_true rfl⟩ (stb_h (fun H => PW G (mdW G q r_6.1 r_10) H)) (hKN.go hAL hS) hP (va_recv (hKN.go hAL hS).k hP (ci := 6) (q0 := 0) rfl rfl) rfl hl.1 rfl (Nat.le_of_ble_eq_true rfl) dX6_digest_139 ⟨Nat.zero_le _, Nat.zero_le _⟩) hS (fun _ h => h) (fun _ h => h) (fun H locs hq_11 _ _ hS => ?_)
        have hP : PW G (mdW G q r_6.1 (fX6_mix r_6.1 r_10 ((fX6_leastDark r_6.1 0).toInt64))) H := hq_11
        obtain ⟨r_12, er_12⟩ : ∃ z, z = fX6_mix r_6.1 r_10 ((fX6_leastDark r_6.1 0).toInt64) := ⟨_, rfl⟩
        rw [← er_12] at hP
        refine lv_aload_n hC.1 hC.2.1 dX6_digest_142 rfl (lv_at hl 0 rfl) ?_
        refine lv_aload_n hC.1 hC.2.1 dX6_digest_143 rfl (lv_at hl 0 rfl) ?_
        refine runP (rV (B := fun U H => PW G (mdW G q r_6.1 r_12) H) (As := []) (rest := [.ref (q 0)]) hC mwX6_share (c_X6_share l G q r_6.1 r_12) iwX6_share wd_1202 ⟨rfl, rfl⟩ ⟨Nat.le_of_ble_eq_true rfl, Nat.le_of_ble_eq_true rfl⟩ (stb_h (fun H => PW G (mdW G q r_6.1 r_12) H)) (hKN.go hAL hS) hP (va_recv (hKN.go hAL hS).k hP (ci := 6) (q0 := 0) rfl rfl) rfl hl.1 rfl (Nat.le_of_ble_eq_true rfl) dX6_digest_144 ⟨Nat.zero_le _, Nat.zero_le _⟩) ?_
        refine runP (rS (B := fun U H => True) (As := [.double (fX6_share r_6.1)]) (rest := [.ref (q 0)]) hC mwJxe99ae_doubleToLongBits_ccdee (c_Jxe99ae_doubleToLongBits_ccdee l G (fX6_share r_6.1)) wd_1232 wd_1231 ⟨rfl, rfl⟩ ⟨Nat.le_of_ble_eq_true rfl, Nat.le_of_ble_eq_true rfl⟩ (fun _ _ _ _ h => h) (hKN.go hAL hS) trivial rfl hl.1 rfl (Nat.le_of_ble_eq_true rfl) dX6_digest_147 ⟨Nat.zero_le _, Nat.zero_le _⟩) ?_
        refine runE (rV (B := fun U H => PW G (mdW G q r_6.1 r_12) H) (As := [.long (fJxe99ae_doubleToLongBits_ccdee (fX6_share r_6.1))]) (rest := []) hC mwX6_mix (c_X6_mix l G q r_6.1 r_12 (fJxe99ae_doubleToLongBits_ccdee (fX6_share r_6.1)) hq) iwX6_mix wd_1220 ⟨rfl, rfl⟩ ⟨Nat.le_of_ble_eq_true rfl, Nat.le_of_ble_eq_true rfl⟩ (stb_h (fun H => PW G (mdW G q r_6.1 r_12) H)) (hKN.go hAL hS) hP (va_recv (hKN.go hAL hS).k hP (ci := 6) (q0 := 0) rfl rfl) rfl hl.1 rfl (Nat.le_of_ble_eq_true rfl) dX6_digest_150 ⟨Nat.zero_le _, Nat.zero_le _⟩) hS (fun _ h => h) (fun _ h => h) (fun H locs hq_13 _ _ hS => ?_)
        have hP : PW G (mdW G q r_6.1 (fX6_mix r_6.1 r_12 (fJxe99ae_doubleToLongBits_ccdee (fX6_share r_6.1)))) H := hq_13
        obtain ⟨r_14, er_14⟩ : ∃ z, z = fX6_mix r_6.1 r_12 (fJxe99ae_doubleToLongBits_ccdee (fX6_share r_6.1)) := ⟨_, rfl⟩
        rw [← er_14] at hP
        refine lv_aload_n hC.1 hC.2.1 dX6_digest_153 rfl (lv_at hl 0 rfl) ?_
        refine lv_aload_n hC.1 hC.2.1 dX6_digest_154 rfl (lv_at hl 0 rfl) ?_
        refine runP (rV (B := fun U H => PW G (mdW G q r_6.1 r_14) H) (As := []) (rest := [.ref (q 0)]) hC mwX6_mean (c_X6_mean l G q r_6.1 r_14) iwX6_mean wd_1210 ⟨rfl, rfl⟩ ⟨Nat.le_of_ble_eq_true rfl, Nat.le_of_ble_eq_true rfl⟩ (stb_h (fun H => PW G (mdW G q r_6.1 r_14) H)) (hKN.go hAL hS) hP (va_recv (hKN.go hAL hS).k hP (ci := 6) (q0 := 0) rfl rfl) rfl hl.1 rfl (Nat.le_of_ble_eq_true rfl) dX6_digest_155 ⟨Nat.zero_le _, Nat.zero_le _⟩) ?_
        refine runP (rS (B := fun U H => True) (As := [.float (fX6_mean r_6.1)]) (rest := [.ref (q 0)]) hC mwJxf58ca_floatToIntBits_5c35a (c_Jxf58ca_floatToIntBits_5c35a l G (fX6_mean r_6.1)) wd_1242 wd_1241 ⟨rfl, rfl⟩ ⟨Nat.le_of_ble_eq_true rfl, Nat.le_of_ble_eq_true rfl⟩ (fun _ _ _ _ h => h) (hKN.go hAL hS) trivial rfl hl.1 rfl (Nat.le_of_ble_eq_true rfl) dX6_digest_158 ⟨Nat.zero_le _, Nat.zero_le _⟩) ?_
        refine lv_i2l (v := (fJxf58ca_floatToIntBits_5c35a (fX6_mean r_6.1)).toInt64) hC.1 hC.2.1 dX6_digest_161 rfl ?_
        refine runE (rV (B := fun U H => PW G (mdW G q r_6.1 r_14) H) (As := [.long ((fJxf58ca_floatToIntBits_5c35a (fX6_mean r_6.1)).toInt64)]) (rest := []) hC mwX6_mix (c_X6_mix l G q r_6.1 r_14 ((fJxf58ca_floatToIntBits_5c35a (fX6_mean r_6.1)).toInt64) hq) iwX6_mix wd_1220 ⟨rfl, rfl⟩ ⟨Nat.le_of_ble_eq_true rfl, Nat.le_of_ble_eq_true rfl⟩ (stb_h (fun H => PW G (mdW G q r_6.1 r_14) H)) (hKN.go hAL hS) hP (va_recv (hKN.go hAL hS).k hP (ci := 6) (q0 := 0) rfl rfl) rfl hl.1 rfl (Nat.le_of_ble_eq_true rfl) dX6_digest_162 ⟨Nat.zero_le _, Nat.zero_le _⟩) hS (fun _ h => h) (fun _ h => h) (fun H locs hq_15 _ _ hS => ?_)
        have hP : PW G (mdW G q r_6.1 (fX6_mix r_6.1 r_14 ((fJxf58ca_floatToIntBits_5c35a (fX6_mean r_6.1)).toInt64))) H := hq_15
        obtain ⟨r_16, er_16⟩ : ∃ z, z = fX6_mix r_6.1 r_14 ((fJxf58ca_floatToIntBits_5c35a (fX6_mean r_6.1)).toInt64) := ⟨_, rfl⟩
        rw [← er_16] at hP
        refine lv_aload_n hC.1 hC.2.1 dX6_digest_165 rfl (lv_at hl 0 rfl) ?_
        refine lv_aload_n hC.1 hC.2.1 dX6_digest_166 rfl (lv_at hl 0 rfl) ?_
        refine gf (v := .int (r_6.1 8 6)) hC fwX6 (hKN.go hAL hS) hP 0 rfl rfl 11 (by decide) rfl wd_898 rfl dX6_digest_167 ?_
        refine lv_i2l (v := (r_6.1 8 6).toInt64) hC.1 hC.2.1 dX6_digest_170 rfl ?_
        refine runE (rV (B := fun U H => PW G (mdW G q r_6.1 r_16) H) (As := [.long ((r_6.1 8 6).toInt64)]) (rest := []) hC mwX6_mix (c_X6_mix l G q r_6.1 r_16 ((r_6.1 8 6).toInt64) hq) iwX6_mix wd_1220 ⟨rfl, rfl⟩ ⟨Nat.le_of_ble_eq_true rfl, Nat.le_of_ble_eq_true rfl⟩ (stb_h (fun H => PW G (mdW G q r_6.1 r_16) H)) (hKN.go hAL hS) hP (va_recv (hKN.go hAL hS).k hP (ci := 6) (q0 := 0) rfl rfl) rfl hl.1 rfl (Nat.le_of_ble_eq_true rfl) dX6_digest_171 ⟨Nat.zero_le _, Nat.zero_le _⟩) hS (fun _ h => h) (fun _ h => h) (fun H locs hq_17 _ _ hS => ?_)
        have hP : PW G (mdW G q r_6.1 (fX6_mix r_6.1 r_16 ((r_6.1 8 6).toInt64))) H := hq_17
        obtain ⟨r_18, er_18⟩ : ∃ z, z = fX6_mix r_6.1 r_16 ((r_6.1 8 6).toInt64) := ⟨_, rfl⟩
        rw [← er_18] at hP
        refine lv_iconst (v := 0) hC.1 hC.2.1 dX6_digest_174 (by decide) ?_
        refine lv_istore_n (lv' := [(1, .int 0), (0, .ref (q 0))]) hC.1 hC.2.1 dX6_digest_175 rfl hl (by decide) rfl (fun ls hl => ?_)
        have A176 : ∀ (v_176 : SV), ∀ (h_176 : Int64), fX6_digest v hs = (tX6_digest_176 v hs v_176 h_176) → DI v_176 → ∀ (H : Heap) (locs : List Loc), PW G (mdW G q v_176 h_176) H → va_S (mdA q) s.heap H locs → ∀ (ls : Array Slot), lv_has ls 2 [(0, .ref (q 0))] → W p l e ({ frames := 8, cells := 0, slots := 0, locals := 191 }) s m ([.ref (q 0)] : List Value).toArray below meth c H locs 0 0 (MQ below (QE (some (.long (fX6_digest v hs).2)) (fun H => PW G (mdW G q ((fX6_digest v hs).1).1 ((fX6_digest v hs).1).2) H) (mdA q)) ([.ref (q 0)] : List Value).toArray s 0 0 (mdA q)) (F0 m 201 ls []) := by
          intro v_176 h_176 hg hI H locs hP hS ls hl
          refine lv_aload_n hC.1 hC.2.1 dX6_digest_201 rfl (lv_at hl 0 rfl) ?_
          refine gf (v := .long h_176) hC fwX6 (hKN.go hAL hS) hP 0 rfl rfl 17 (by decide) rfl wd_904 rfl dX6_digest_202 ?_
          have e_19 : tX6_digest_176 v hs v_176 h_176 = ((v_176, h_176), h_176) := by
            delta tX6_digest_176
            try dsimp only
            try exact rfl
          have hg : fX6_digest v hs = ((v_176, h_176), h_176) := by have e2 := congrArg (fun z => z) e_19; exact hg.trans e2
          exact eE_l hC (by rw [hg]) (by show PW G (mdW G q ((fX6_digest v hs).1).1 ((fX6_digest v hs).1).2) H; rw [hg]; exact hP) hS dX6_digest_205
        have L176 : ∀ (v_176 : SV), ∀ (n176 d176 : Nat), ∀ (h_176 : Int64), d176 + n176 = ((v_176 8 6).toNatClampNeg) → fX6_digest v hs = (tX6_digest_176 v hs v_176 (lpF n176 d176 (bX6_digest_176 v hs v_176) h_176)) → DI v_176 → ∀ (H : Heap) (locs : List Loc), PW G (mdW G q v_176 h_176) H → va_S (mdA q) s.heap H locs → ∀ (ls : Array Slot), lv_has ls 2 [(0, .ref (q 0)), (1, .int (nI d176))] → W p l e ({ frames := 8, cells := 0, slots := 0, locals := 191 }) s m ([.ref (q 0)] : List Value).toArray below meth c H locs 0 0 (MQ below (QE (some (.long (fX6_digest v hs).2)) (fun H => PW G (mdW G q ((fX6_digest v hs).1).1 ((fX6_digest v hs).1).2) H) (mdA q)) ([.ref (q 0)] : List Value).toArray s 0 0 (mdA q)) (F0 m 176 ls []) := by
          intro v_176
          intro n176
          induction n176 with
          | zero =>
            intro d176 h_176 hd hg hI H locs hP hS ls hl
            refine lv_iload_n hC.1 hC.2.1 dX6_digest_176 rfl (lv_at hl 1 rfl) ?_
            refine lv_aload_n hC.1 hC.2.1 dX6_digest_177 rfl (lv_at hl 0 rfl) ?_
            refine gf (v := .int (v_176 8 6)) hC fwX6 (hKN.go hAL hS) hP 0 rfl rfl 11 (by decide) rfl wd_898 rfl dX6_digest_178 ?_
            refine lv_icmp_ge (tgt := 201) hC.1 hC.2.1 dX6_digest_181 (by decide) (fun k181 => ?_) (fun k181 => ?_)
            · exact A176 v_176 h_176 hg hI _ _ hP hS _ (lv_sub hl [0] rfl)
            · exact absurd (cl_le (by omega) (by have := cl_lt (v_176 8 6); omega)) k181
          | succ n176 ih =>
            intro d176 h_176 hd hg hI H locs hP hS ls hl
            have hg : fX6_digest v hs = (tX6_digest_176 v hs v_176 (lpF n176 (d176 + 1) (bX6_digest_176 v hs v_176) (bX6_digest_176 v hs v_176 d176 h_176))) := hg
            refine lv_iload_n hC.1 hC.2.1 dX6_digest_176 rfl (lv_at hl 1 rfl) ?_
            refine lv_aload_n hC.1 hC.2.1 dX6_digest_177 rfl (lv_at hl 0 rfl) ?_
            refine gf (v := .int (v_176 8 6)) hC fwX6 (hKN.go hAL hS) hP 0 rfl rfl 11 (by decide) rfl wd_898 rfl dX6_digest_178 ?_
            refine lv_icmp_ge (tgt := 201) hC.1 hC.2.1 dX6_digest_181 (by decide) (fun k181 => ?_) (fun k181 => ?_)
            · exact absurd k181 (cl_nle (by omega))
            · refine lv_aload_n hC.1 hC.2.1 dX6_digest_184 rfl (lv_at hl 0 rfl) ?_
              refine lv_aload_n hC.1 hC.2.1 dX6_digest_185 rfl (lv_at hl 0 rfl) ?_
              refine gf (v := .ref (q 5)) hC fwX6 (hKN.go hAL hS) hP 0 rfl rfl 10 (by decide) rfl wd_897 rfl dX6_digest_186 ?_
              refine lv_iload_n hC.1 hC.2.1 dX6_digest_189 rfl (lv_at hl 1 rfl) ?_
              refine iald_k hC (hKN.go hAL hS) hP 5 rfl (n := 60) (f := (v_176 4)) d176 (rfl) (by have := hI.2.2.2.2; omega) (by decide) dX6_digest_190 ?_
              refine lv_i2l (v := ((v_176 4) d176).toInt64) hC.1 hC.2.1 dX6_digest_191 rfl ?_
              refine runE (rV (B := fun U H => PW G (mdW G q v_176 h_176) H) (As := [.long (((v_176 4) d176).toInt64)]) (rest := []) hC mwX6_mix (c_X6_mix l G q v_176 h_176 (((v_176 4) d176).toInt64) hq) iwX6_mix wd_1220 ⟨rfl, rfl⟩ ⟨Nat.le_of_ble_eq_true rfl, Nat.le_of_ble_eq_true rfl⟩ (stb_h (fun H => PW G (mdW G q v_176 h_176) H)) (hKN.go hAL hS) hP (va_recv (hKN.go hAL hS).k hP (ci := 6) (q0 := 0) rfl rfl) rfl hl.1 rfl (Nat.le_of_ble_eq_true rfl) dX6_digest_192 ⟨Nat.zero_le _, Nat.zero_le _⟩) hS (fun _ h => h) (fun _ h => h) (fun H locs hq_20 _ _ hS => ?_)
              have hP : PW G (mdW G q v_176 (fX6_mix v_176 h_176 (((v_176 4) d176).toInt64))) H := hq_20
              obtain ⟨r_21, er_21⟩ : ∃ z, z = fX6_mix v_176 h_176 (((v_176 4) d176).toInt64) := ⟨_, rfl⟩
              rw [← er_21] at hP
              refine lv_iinc (v := nI (d176 + 1)) (lv' := [(1, .int (nI (d176 + 1))), (0, .ref (q 0))]) hC.1 hC.2.1 dX6_digest_195 hl (k := 1) rfl (nI_1 _) (by decide) rfl (fun ls hl => ?_)
              refine lv_goto (tgt := 176) hC.1 hC.2.1 dX6_digest_198 (by decide) ?_
              have e_22 : bX6_digest_176 v hs v_176 d176 h_176 = r_21 := by
                delta bX6_digest_176
                try dsimp only
                rw [← er_21]
              have hg : fX6_digest v hs = (tX6_digest_176 v hs v_176 (lpF n176 (d176 + 1) (bX6_digest_176 v hs v_176) r_21)) := by have e2 := congrArg (fun z => (tX6_digest_176 v hs v_176 (lpF n176 (d176 + 1) (bX6_digest_176 v hs v_176) z))) e_22; exact hg.trans e2
              exact ih (d176 + 1) r_21 (by omega) hg hI _ _ hP hS _ (lv_sub hl [1, 0] rfl)
        have e_23 : tX6_digest_74 v hs (h_74, v_74) = tX6_digest_176 v hs r_6.1 (lpF ((r_6.1 8 6).toNatClampNeg) 0 (bX6_digest_176 v hs r_6.1) r_18) := by
          delta tX6_digest_74
          try dsimp only
          rw [← er_6]
          rw [← er_8]
          rw [← er_10]
          rw [← er_12]
          rw [← er_14]
          rw [← er_16]
          rw [← er_18]
        have hg : fX6_digest v hs = (tX6_digest_176 v hs r_6.1 (lpF ((r_6.1 8 6).toNatClampNeg) 0 (bX6_digest_176 v hs r_6.1) r_18)) := by have e2 := congrArg (fun z => z) e_23; exact hg.trans e2
        exact L176 r_6.1 ((r_6.1 8 6).toNatClampNeg) 0 r_18 (by omega) hg hI _ _ hP hS _ (lv_sub hl [1, 0] rfl)
      have L74 : ∀ (n74 d74 : Nat), ∀ (h_74 : Int64) (v_74 : SV), d74 + n74 = 10 → fX6_digest v hs = (tX6_digest_74 v hs (lpF n74 d74 (bX6_digest_74 v hs) (h_74, v_74))) → DI v_74 → ∀ (H : Heap) (locs : List Loc), PW G (mdW G q v_74 h_74) H → va_S (mdA q) s.heap H locs → ∀ (ls : Array Slot), lv_has ls 2 [(0, .ref (q 0)), (1, .int (nI d74))] → W p l e ({ frames := 8, cells := 0, slots := 0, locals := 191 }) s m ([.ref (q 0)] : List Value).toArray below meth c H locs 0 0 (MQ below (QE (some (.long (fX6_digest v hs).2)) (fun H => PW G (mdW G q ((fX6_digest v hs).1).1 ((fX6_digest v hs).1).2) H) (mdA q)) ([.ref (q 0)] : List Value).toArray s 0 0 (mdA q)) (F0 m 74 ls []) := by
        intro n74
        induction n74 with
        | zero =>
          intro d74 h_74 v_74 hd hg hI H locs hP hS ls hl
          refine lv_iload_n hC.1 hC.2.1 dX6_digest_74 rfl (lv_at hl 1 rfl) ?_
          refine lv_bipush (v := 10) hC.1 hC.2.1 dX6_digest_75 (by decide +kernel) ?_
          refine lv_icmp_ge (tgt := 110) hC.1 hC.2.1 dX6_digest_77 (by decide) (fun k77 => ?_) (fun k77 => ?_)
          · exact A74  h_74 v_74 hg hI _ _ hP hS _ (lv_sub hl [0] rfl)
          · exact absurd (nI_le (a := 10) (b := d74) (by omega) (by omega)) k77
        | succ n74 ih =>
          intro d74 h_74 v_74 hd hg hI H locs hP hS ls hl
          have hg : fX6_digest v hs = (tX6_digest_74 v hs (lpF n74 (d74 + 1) (bX6_digest_74 v hs) (bX6_digest_74 v hs d74 (h_74, v_74)))) := hg
          refine lv_iload_n hC.1 hC.2.1 dX6_digest_74 rfl (lv_at hl 1 rfl) ?_
          refine lv_bipush (v := 10) hC.1 hC.2.1 dX6_digest_75 (by decide +kernel) ?_
          refine lv_icmp_ge (tgt := 110) hC.1 hC.2.1 dX6_digest_77 (by decide) (fun k77 => ?_) (fun k77 => ?_)
          · exact absurd k77 (nI_ge (a := d74) (b := 10) (by omega) (by omega))
          · refine lv_aload_n hC.1 hC.2.1 dX6_digest_80 rfl (lv_at hl 0 rfl) ?_
            refine lv_aload_n hC.1 hC.2.1 dX6_digest_81 rfl (lv_at hl 0 rfl) ?_
            refine lv_iload_n hC.1 hC.2.1 dX6_digest_82 rfl (lv_at hl 1 rfl) ?_
            refine lv_iconst (v := 5) hC.1 hC.2.1 dX6_digest_83 (by decide) ?_
            refine lv_icmp_ge (tgt := 92) hC.1 hC.2.1 dX6_digest_84 (by decide) (fun k84 => ?_) (fun k84 => ?_)
            · refine lv_ldc (v := 5592405) hC.1 hC.2.1 hC.2.2.2.2.1 (hC.2.2.2.2.2.2.1 _ wd_1229) dX6_digest_92 ?_
              refine lv_iload_n hC.1 hC.2.1 dX6_digest_94 rfl (lv_at hl 1 rfl) ?_
              refine lv_iconst (v := 5) hC.1 hC.2.1 dX6_digest_95 (by decide) ?_
              refine lv_irem hC.1 hC.2.1 dX6_digest_96 (by decide) ?_
              refine runE (rV (B := fun U H => PW G (mdW G q v_74 h_74) H) (As := [.int 5592405, .int ((nI d74) - (nI d74) / 5 * 5)]) (rest := [.ref (q 0)]) hC mwX6_wouldBring (c_X6_wouldBring l G q v_74 h_74 5592405 ((nI d74) - (nI d74) / 5 * 5) hq hI.1) iwX6_wouldBring wd_1158 ⟨rfl, rfl⟩ ⟨Nat.le_of_ble_eq_true rfl, Nat.le_of_ble_eq_true rfl⟩ (stb_h (fun H => PW G (mdW G q v_74 h_74) H)) (hKN.go hAL hS) hP (va_recv (hKN.go hAL hS).k hP (ci := 6) (q0 := 0) rfl rfl) rfl hl.1 rfl (Nat.le_of_ble_eq_true rfl) dX6_digest_97 ⟨Nat.zero_le _, Nat.zero_le _⟩) hS (fun _ h => h) (fun _ h => h) (fun H locs hq_24 _ _ hS => ?_)
              have hP : PW G (mdW G q ((fX6_wouldBring v_74 5592405 ((nI d74) - (nI d74) / 5 * 5)).1) h_74) H := hq_24
              obtain ⟨r_25, er_25⟩ : ∃ z, z = fX6_wouldBring v_74 5592405 ((nI d74) - (nI d74) / 5 * 5) := ⟨_, rfl⟩
              rw [← er_25] at hP
              show W p l e ({ frames := 8, cells := 0, slots := 0, locals := 191 }) s m ([.ref (q 0)] : List Value).toArray below meth c H locs (0 + 0) (0 + 0) _ (F0 m (97 + 3) ls [.int ((fX6_wouldBring v_74 5592405 ((nI d74) - (nI d74) / 5 * 5)).2), .ref (q 0)])
              rw [← er_25]
              have hI : DI r_25.1 := by rw [er_25]; exact (DI_row hI (WB_row _ _ _) (WB_len _ _ _))
              refine lv_i2l (v := r_25.2.toInt64) hC.1 hC.2.1 dX6_digest_100 rfl ?_
              refine runE (rV (B := fun U H => PW G (mdW G q r_25.1 h_74) H) (As := [.long r_25.2.toInt64]) (rest := []) hC mwX6_mix (c_X6_mix l G q r_25.1 h_74 r_25.2.toInt64 hq) iwX6_mix wd_1220 ⟨rfl, rfl⟩ ⟨Nat.le_of_ble_eq_true rfl, Nat.le_of_ble_eq_true rfl⟩ (stb_h (fun H => PW G (mdW G q r_25.1 h_74) H)) (hKN.go hAL hS) hP (va_recv (hKN.go hAL hS).k hP (ci := 6) (q0 := 0) rfl rfl) rfl hl.1 rfl (Nat.le_of_ble_eq_true rfl) dX6_digest_101 ⟨Nat.zero_le _, Nat.zero_le _⟩) hS (fun _ h => h) (fun _ h => h) (fun H locs hq_26 _ _ hS => ?_)
              have hP : PW G (mdW G q r_25.1 (fX6_mix r_25.1 h_74 r_25.2.toInt64)) H := hq_26
              obtain ⟨r_27, er_27⟩ : ∃ z, z = fX6_mix r_25.1 h_74 r_25.2.toInt64 := ⟨_, rfl⟩
              rw [← er_27] at hP
              refine lv_iinc (v := nI (d74 + 1)) (lv' := [(1, .int (nI (d74 + 1))), (0, .ref (q 0))]) hC.1 hC.2.1 dX6_digest_104 hl (k := 1) rfl (nI_1 _) (by decide) rfl (fun ls hl => ?_)
              refine lv_goto (tgt := 74) hC.1 hC.2.1 dX6_digest_107 (by decide) ?_
              have e_28 : bX6_digest_74 v hs d74 (h_74, v_74) = (r_27, r_25.1) := by
                delta bX6_digest_74
                try dsimp only
                rw [← er_25]
                rw [← er_27]
                exact Eq.trans (if_pos k84) rfl
              have hg : fX6_digest v hs = (tX6_digest_74 v hs (lpF n74 (d74 + 1) (bX6_digest_74 v hs) (r_27, r_25.1))) := by have e2 := congrArg (fun z => (tX6_digest_74 v hs (lpF n74 (d74 + 1) (bX6_digest_74 v hs) z))) e_28; exact hg.trans e2
              exact ih (d74 + 1) r_27 r_25.1 (by omega) hg hI _ _ hP hS _ (lv_sub hl [1, 0] rfl)
            · refine lv_ldc (v := 16777215) hC.1 hC.2.1 hC.2.2.2.2.1 (hC.2.2.2.2.2.2.1 _ wd_973) dX6_digest_87 ?_
              refine lv_goto (tgt := 94) hC.1 hC.2.1 dX6_digest_89 (by decide) ?_
              refine lv_iload_n hC.1 hC.2.1 dX6_digest_94 rfl (lv_at hl 1 rfl) ?_
              refine lv_iconst (v := 5) hC.1 hC.2.1 dX6_digest_95 (by decide) ?_
              refine lv_irem hC.1 hC.2.1 dX6_digest_96 (by decide) ?_
              refine runE (rV (B := fun U H => PW G (mdW G q v_74 h_74) H) (As := [.int 16777215, .int ((nI d74) - (nI d74) / 5 * 5)]) (rest := [.ref (q 0)]) hC mwX6_wouldBring (c_X6_wouldBring l G q v_74 h_74 16777215 ((nI d74) - (nI d74) / 5 * 5) hq hI.1) iwX6_wouldBring wd_1158 ⟨rfl, rfl⟩ ⟨Nat.le_of_ble_eq_true rfl, Nat.le_of_ble_eq_true rfl⟩ (stb_h (fun H => PW G (mdW G q v_74 h_74) H)) (hKN.go hAL hS) hP (va_recv (hKN.go hAL hS).k hP (ci := 6) (q0 := 0) rfl rfl) rfl hl.1 rfl (Nat.le_of_ble_eq_true rfl) dX6_digest_97 ⟨Nat.zero_le _, Nat.zero_le _⟩) hS (fun _ h => h) (fun _ h => h) (fun H locs hq_29 _ _ hS => ?_)
              have hP : PW G (mdW G q ((fX6_wouldBring v_74 16777215 ((nI d74) - (nI d74) / 5 * 5)).1) h_74) H := hq_29
              obtain ⟨r_30, er_30⟩ : ∃ z, z = fX6_wouldBring v_74 16777215 ((nI d74) - (nI d74) / 5 * 5) := ⟨_, rfl⟩
              rw [← er_30] at hP
              show W p l e ({ frames := 8, cells := 0, slots := 0, locals := 191 }) s m ([.ref (q 0)] : List Value).toArray below meth c H locs (0 + 0) (0 + 0) _ (F0 m (97 + 3) ls [.int ((fX6_wouldBring v_74 16777215 ((nI d74) - (nI d74) / 5 * 5)).2), .ref (q 0)])
              rw [← er_30]
              have hI : DI r_30.1 := by rw [er_30]; exact (DI_row hI (WB_row _ _ _) (WB_len _ _ _))
              refine lv_i2l (v := r_30.2.toInt64) hC.1 hC.2.1 dX6_digest_100 rfl ?_
              refine runE (rV (B := fun U H => PW G (mdW G q r_30.1 h_74) H) (As := [.long r_30.2.toInt64]) (rest := []) hC mwX6_mix (c_X6_mix l G q r_30.1 h_74 r_30.2.toInt64 hq) iwX6_mix wd_1220 ⟨rfl, rfl⟩ ⟨Nat.le_of_ble_eq_true rfl, Nat.le_of_ble_eq_true rfl⟩ (stb_h (fun H => PW G (mdW G q r_30.1 h_74) H)) (hKN.go hAL hS) hP (va_recv (hKN.go hAL hS).k hP (ci := 6) (q0 := 0) rfl rfl) rfl hl.1 rfl (Nat.le_of_ble_eq_true rfl) dX6_digest_101 ⟨Nat.zero_le _, Nat.zero_le _⟩) hS (fun _ h => h) (fun _ h => h) (fun H locs hq_31 _ _ hS => ?_)
              have hP : PW G (mdW G q r_30.1 (fX6_mix r_30.1 h_74 r_30.2.toInt64)) H := hq_31
              obtain ⟨r_32, er_32⟩ : ∃ z, z = fX6_mix r_30.1 h_74 r_30.2.toInt64 := ⟨_, rfl⟩
              rw [← er_32] at hP
              refine lv_iinc (v := nI (d74 + 1)) (lv' := [(1, .int (nI (d74 + 1))), (0, .ref (q 0))]) hC.1 hC.2.1 dX6_digest_104 hl (k := 1) rfl (nI_1 _) (by decide) rfl (fun ls hl => ?_)
              refine lv_goto (tgt := 74) hC.1 hC.2.1 dX6_digest_107 (by decide) ?_
              have e_33 : bX6_digest_74 v hs d74 (h_74, v_74) = (r_32, r_30.1) := by
                delta bX6_digest_74
                try dsimp only
                rw [← er_30]
                rw [← er_32]
                exact Eq.trans (if_neg k84) rfl
              have hg : fX6_digest v hs = (tX6_digest_74 v hs (lpF n74 (d74 + 1) (bX6_digest_74 v hs) (r_32, r_30.1))) := by have e2 := congrArg (fun z => (tX6_digest_74 v hs (lpF n74 (d74 + 1) (bX6_digest_74 v hs) z))) e_33; exact hg.trans e2
              exact ih (d74 + 1) r_32 r_30.1 (by omega) hg hI _ _ hP hS _ (lv_sub hl [1, 0] rfl)
      have e_34 : tX6_digest_38 v hs v_38 h_38 = tX6_digest_74 v hs (lpF 10 0 (bX6_digest_74 v hs) (r_4, v_38)) := by
        delta tX6_digest_38
        try dsimp only
        rw [← er_4]
      have hg : fX6_digest v hs = (tX6_digest_74 v hs (lpF 10 0 (bX6_digest_74 v hs) (r_4, v_38))) := by have e2 := congrArg (fun z => z) e_34; exact hg.trans e2
      exact L74  10 0 r_4 v_38 (by omega) hg hI _ _ hP hS _ (lv_sub hl [1, 0] rfl)
    have L38 : ∀ (v_38 : SV), ∀ (n38 d38 : Nat), ∀ (h_38 : Int64), d38 + n38 = 168 → fX6_digest v hs = (tX6_digest_38 v hs v_38 (lpF n38 d38 (bX6_digest_38 v hs v_38) h_38)) → DI v_38 → ∀ (H : Heap) (locs : List Loc), PW G (mdW G q v_38 h_38) H → va_S (mdA q) s.heap H locs → ∀ (ls : Array Slot), lv_has ls 2 [(0, .ref (q 0)), (1, .int (nI d38))] → W p l e ({ frames := 8, cells := 0, slots := 0, locals := 191 }) s m ([.ref (q 0)] : List Value).toArray below meth c H locs 0 0 (MQ below (QE (some (.long (fX6_digest v hs).2)) (fun H => PW G (mdW G q ((fX6_digest v hs).1).1 ((fX6_digest v hs).1).2) H) (mdA q)) ([.ref (q 0)] : List Value).toArray s 0 0 (mdA q)) (F0 m 38 ls []) := by
      intro v_38
      intro n38
      induction n38 with
      | zero =>
        intro d38 h_38 hd hg hI H locs hP hS ls hl
        refine lv_iload_n hC.1 hC.2.1 dX6_digest_38 rfl (lv_at hl 1 rfl) ?_
        refine lv_sipush (v := 168) hC.1 hC.2.1 dX6_digest_39 (by decide +kernel) ?_
        refine lv_icmp_ge (tgt := 68) hC.1 hC.2.1 dX6_digest_42 (by decide) (fun k42 => ?_) (fun k42 => ?_)
        · exact A38 v_38 h_38 hg hI _ _ hP hS _ (lv_sub hl [0] rfl)
        · exact absurd (nI_le (a := 168) (b := d38) (by omega) (by omega)) k42
      | succ n38 ih =>
        intro d38 h_38 hd hg hI H locs hP hS ls hl
        have hg : fX6_digest v hs = (tX6_digest_38 v hs v_38 (lpF n38 (d38 + 1) (bX6_digest_38 v hs v_38) (bX6_digest_38 v hs v_38 d38 h_38))) := hg
        refine lv_iload_n hC.1 hC.2.1 dX6_digest_38 rfl (lv_at hl 1 rfl) ?_
        refine lv_sipush (v := 168) hC.1 hC.2.1 dX6_digest_39 (by decide +kernel) ?_
        refine lv_icmp_ge (tgt := 68) hC.1 hC.2.1 dX6_digest_42 (by decide) (fun k42 => ?_) (fun k42 => ?_)
        · exact absurd k42 (nI_ge (a := d38) (b := 168) (by omega) (by omega))
        · refine lv_aload_n hC.1 hC.2.1 dX6_digest_45 rfl (lv_at hl 0 rfl) ?_
          refine lv_aload_n hC.1 hC.2.1 dX6_digest_46 rfl (lv_at hl 0 rfl) ?_
          refine lv_iload_n hC.1 hC.2.1 dX6_digest_47 rfl (lv_at hl 1 rfl) ?_
          refine lv_bipush (v := 7) hC.1 hC.2.1 dX6_digest_48 (by decide +kernel) ?_
          refine lv_idiv hC.1 hC.2.1 dX6_digest_50 (by decide) ?_
          refine lv_topi (fun w_35 ew_35 => ?_)
          rw [show w_35 = nI (d38 / 7) from ew_35.trans (pk_div (d := 7) (by omega) (by omega) (by omega))]
          refine lv_iload_n hC.1 hC.2.1 dX6_digest_51 rfl (lv_at hl 1 rfl) ?_
          refine lv_bipush (v := 7) hC.1 hC.2.1 dX6_digest_52 (by decide +kernel) ?_
          refine lv_irem hC.1 hC.2.1 dX6_digest_54 (by decide) ?_
          refine runP (rV (B := fun U H => PW G (mdW G q v_38 h_38) H) (As := [.int (nI (d38 / 7)), .int ((nI d38) - (nI d38) / 7 * 7)]) (rest := [.ref (q 0)]) hC mwX6_ofDot (c_X6_ofDot l G q v_38 h_38 (d38 / 7) ((nI d38) - (nI d38) / 7 * 7) hI.1 (by omega)) iwX6_ofDot wd_1134 ⟨rfl, rfl⟩ ⟨Nat.le_of_ble_eq_true rfl, Nat.le_of_ble_eq_true rfl⟩ (stb_h (fun H => PW G (mdW G q v_38 h_38) H)) (hKN.go hAL hS) hP (va_recv (hKN.go hAL hS).k hP (ci := 6) (q0 := 0) rfl rfl) rfl hl.1 rfl (Nat.le_of_ble_eq_true rfl) dX6_digest_55 ⟨Nat.zero_le _, Nat.zero_le _⟩) ?_
          refine lv_i2l (v := (fX6_ofDot v_38 (d38 / 7) ((nI d38) - (nI d38) / 7 * 7)).toInt64) hC.1 hC.2.1 dX6_digest_58 rfl ?_
          refine runE (rV (B := fun U H => PW G (mdW G q v_38 h_38) H) (As := [.long ((fX6_ofDot v_38 (d38 / 7) ((nI d38) - (nI d38) / 7 * 7)).toInt64)]) (rest := []) hC mwX6_mix (c_X6_mix l G q v_38 h_38 ((fX6_ofDot v_38 (d38 / 7) ((nI d38) - (nI d38) / 7 * 7)).toInt64) hq) iwX6_mix wd_1220 ⟨rfl, rfl⟩ ⟨Nat.le_of_ble_eq_true rfl, Nat.le_of_ble_eq_true rfl⟩ (stb_h (fun H => PW G (mdW G q v_38 h_38) H)) (hKN.go hAL hS) hP (va_recv (hKN.go hAL hS).k hP (ci := 6) (q0 := 0) rfl rfl) rfl hl.1 rfl (Nat.le_of_ble_eq_true rfl) dX6_digest_59 ⟨Nat.zero_le _, Nat.zero_le _⟩) hS (fun _ h => h) (fun _ h => h) (fun H locs hq_36 _ _ hS => ?_)
          have hP : PW G (mdW G q v_38 (fX6_mix v_38 h_38 ((fX6_ofDot v_38 (d38 / 7) ((nI d38) - (nI d38) / 7 * 7)).toInt64))) H := hq_36
          obtain ⟨r_37, er_37⟩ : ∃ z, z = fX6_mix v_38 h_38 ((fX6_ofDot v_38 (d38 / 7) ((nI d38) - (nI d38) / 7 * 7)).toInt64) := ⟨_, rfl⟩
          rw [← er_37] at hP
          refine lv_iinc (v := nI (d38 + 1)) (lv' := [(1, .int (nI (d38 + 1))), (0, .ref (q 0))]) hC.1 hC.2.1 dX6_digest_62 hl (k := 1) rfl (nI_1 _) (by decide) rfl (fun ls hl => ?_)
          refine lv_goto (tgt := 38) hC.1 hC.2.1 dX6_digest_65 (by decide) ?_
          have e_38 : bX6_digest_38 v hs v_38 d38 h_38 = r_37 := by
            delta bX6_digest_38
            try dsimp only
            rw [← er_37]
          have hg : fX6_digest v hs = (tX6_digest_38 v hs v_38 (lpF n38 (d38 + 1) (bX6_digest_38 v hs v_38) r_37)) := by have e2 := congrArg (fun z => (tX6_digest_38 v hs v_38 (lpF n38 (d38 + 1) (bX6_digest_38 v hs v_38) z))) e_38; exact hg.trans e2
          exact ih (d38 + 1) r_37 (by omega) hg hI _ _ hP hS _ (lv_sub hl [1, 0] rfl)
    have e_39 : tX6_digest_14 v hs v_14 h_14 = tX6_digest_38 v hs v_14 (lpF 168 0 (bX6_digest_38 v hs v_14) h_14) := by
      delta tX6_digest_14
      try dsimp only
      try exact rfl
    have hg : fX6_digest v hs = (tX6_digest_38 v hs v_14 (lpF 168 0 (bX6_digest_38 v hs v_14) h_14)) := by have e2 := congrArg (fun z => z) e_39; exact hg.trans e2
    exact L38 v_14 168 0 h_14 (by omega) hg hI _ _ hP hS _ (lv_sub hl [1, 0] rfl)
  have L14 : ∀ (v_14 : SV), ∀ (n14 d14 : Nat), ∀ (h_14 : Int64), d14 + n14 = 19 → fX6_digest v hs = (tX6_digest_14 v hs v_14 (lpF n14 d14 (bX6_digest_14 v hs v_14) h_14)) → DI v_14 → ∀ (H : Heap) (locs : List Loc), PW G (mdW G q v_14 h_14) H → va_S (mdA q) s.heap H locs → ∀ (ls : Array Slot), lv_has ls 2 [(0, .ref (q 0)), (1, .int (nI d14))] → W p l e ({ frames := 8, cells := 0, slots := 0, locals := 191 }) s m ([.ref (q 0)] : List Value).toArray below meth c H locs 0 0 (MQ below (QE (some (.long (fX6_digest v hs).2)) (fun H => PW G (mdW G q ((fX6_digest v hs).1).1 ((fX6_digest v hs).1).2) H) (mdA q)) ([.ref (q 0)] : List Value).toArray s 0 0 (mdA q)) (F0 m 14 ls []) := by
    intro v_14
    intro n14
    induction n14 with
    | zero =>
      intro d14 h_14 hd hg hI H locs hP hS ls hl
      refine lv_iload_n hC.1 hC.2.1 dX6_digest_14 rfl (lv_at hl 1 rfl) ?_
      refine lv_bipush (v := 19) hC.1 hC.2.1 dX6_digest_15 (by decide +kernel) ?_
      refine lv_icmp_ge (tgt := 36) hC.1 hC.2.1 dX6_digest_17 (by decide) (fun k17 => ?_) (fun k17 => ?_)
      · exact A14 v_14 h_14 hg hI _ _ hP hS _ (lv_sub hl [0] rfl)
      · exact absurd (nI_le (a := 19) (b := d14) (by omega) (by omega)) k17
    | succ n14 ih =>
      intro d14 h_14 hd hg hI H locs hP hS ls hl
      have hg : fX6_digest v hs = (tX6_digest_14 v hs v_14 (lpF n14 (d14 + 1) (bX6_digest_14 v hs v_14) (bX6_digest_14 v hs v_14 d14 h_14))) := hg
      refine lv_iload_n hC.1 hC.2.1 dX6_digest_14 rfl (lv_at hl 1 rfl) ?_
      refine lv_bipush (v := 19) hC.1 hC.2.1 dX6_digest_15 (by decide +kernel) ?_
      refine lv_icmp_ge (tgt := 36) hC.1 hC.2.1 dX6_digest_17 (by decide) (fun k17 => ?_) (fun k17 => ?_)
      · exact absurd k17 (nI_ge (a := d14) (b := 19) (by omega) (by omega))
      · refine lv_aload_n hC.1 hC.2.1 dX6_digest_20 rfl (lv_at hl 0 rfl) ?_
        refine lv_aload_n hC.1 hC.2.1 dX6_digest_21 rfl (lv_at hl 0 rfl) ?_
        refine lv_iload_n hC.1 hC.2.1 dX6_digest_22 rfl (lv_at hl 1 rfl) ?_
        refine runP (rV (B := fun U H => PW G (mdW G q v_14 h_14) H) (As := [.int (nI d14)]) (rest := [.ref (q 0)]) hC mwX6_number (c_X6_number l G q v_14 h_14 (nI d14) (le_n_nI (by omega) (by omega))) iwX6_number wd_1150 ⟨rfl, rfl⟩ ⟨Nat.le_of_ble_eq_true rfl, Nat.le_of_ble_eq_true rfl⟩ (stb_h (fun H => PW G (mdW G q v_14 h_14) H)) (hKN.go hAL hS) hP (va_recv (hKN.go hAL hS).k hP (ci := 6) (q0 := 0) rfl rfl) rfl hl.1 rfl (Nat.le_of_ble_eq_true rfl) dX6_digest_23 ⟨Nat.zero_le _, Nat.zero_le _⟩) ?_
        refine lv_i2l (v := (fX6_number v_14 (nI d14)).toInt64) hC.1 hC.2.1 dX6_digest_26 rfl ?_
        refine runE (rV (B := fun U H => PW G (mdW G q v_14 h_14) H) (As := [.long ((fX6_number v_14 (nI d14)).toInt64)]) (rest := []) hC mwX6_mix (c_X6_mix l G q v_14 h_14 ((fX6_number v_14 (nI d14)).toInt64) hq) iwX6_mix wd_1220 ⟨rfl, rfl⟩ ⟨Nat.le_of_ble_eq_true rfl, Nat.le_of_ble_eq_true rfl⟩ (stb_h (fun H => PW G (mdW G q v_14 h_14) H)) (hKN.go hAL hS) hP (va_recv (hKN.go hAL hS).k hP (ci := 6) (q0 := 0) rfl rfl) rfl hl.1 rfl (Nat.le_of_ble_eq_true rfl) dX6_digest_27 ⟨Nat.zero_le _, Nat.zero_le _⟩) hS (fun _ h => h) (fun _ h => h) (fun H locs hq_40 _ _ hS => ?_)
        have hP : PW G (mdW G q v_14 (fX6_mix v_14 h_14 ((fX6_number v_14 (nI d14)).toInt64))) H := hq_40
        obtain ⟨r_41, er_41⟩ : ∃ z, z = fX6_mix v_14 h_14 ((fX6_number v_14 (nI d14)).toInt64) := ⟨_, rfl⟩
        rw [← er_41] at hP
        refine lv_iinc (v := nI (d14 + 1)) (lv' := [(1, .int (nI (d14 + 1))), (0, .ref (q 0))]) hC.1 hC.2.1 dX6_digest_30 hl (k := 1) rfl (nI_1 _) (by decide) rfl (fun ls hl => ?_)
        refine lv_goto (tgt := 14) hC.1 hC.2.1 dX6_digest_33 (by decide) ?_
        have e_42 : bX6_digest_14 v hs v_14 d14 h_14 = r_41 := by
          delta bX6_digest_14
          try dsimp only
          rw [← er_41]
        have hg : fX6_digest v hs = (tX6_digest_14 v hs v_14 (lpF n14 (d14 + 1) (bX6_digest_14 v hs v_14) r_41)) := by have e2 := congrArg (fun z => (tX6_digest_14 v hs v_14 (lpF n14 (d14 + 1) (bX6_digest_14 v hs v_14) z))) e_42; exact hg.trans e2
        exact ih (d14 + 1) r_41 (by omega) hg hI _ _ hP hS _ (lv_sub hl [1, 0] rfl)
  have e_43 : fX6_digest v hs = tX6_digest_14 v hs (mkM (v 0) (v 1) (v 2) (v 3) (v 4) (v 5) (v 6) (v 7) (v 8 0) (v 8 1) 0 (v 8 3) (v 8 4) (v 8 5) (v 8 6) (v 8 7) (v 8 8)) (lpF 19 0 (bX6_digest_14 v hs (mkM (v 0) (v 1) (v 2) (v 3) (v 4) (v 5) (v 6) (v 7) (v 8 0) (v 8 1) 0 (v 8 3) (v 8 4) (v 8 5) (v 8 6) (v 8 7) (v 8 8))) 3833) := by
    delta fX6_digest
    try dsimp only
    try exact rfl
  have hg : fX6_digest v hs = (tX6_digest_14 v hs (mkM (v 0) (v 1) (v 2) (v 3) (v 4) (v 5) (v 6) (v 7) (v 8 0) (v 8 1) 0 (v 8 3) (v 8 4) (v 8 5) (v 8 6) (v 8 7) (v 8 8)) (lpF 19 0 (bX6_digest_14 v hs (mkM (v 0) (v 1) (v 2) (v 3) (v 4) (v 5) (v 6) (v 7) (v 8 0) (v 8 1) 0 (v 8 3) (v 8 4) (v 8 5) (v 8 6) (v 8 7) (v 8 8))) 3833)) := by have e2 := congrArg (fun z => z) e_43; exact hg.trans e2
  exact L14 (mkM (v 0) (v 1) (v 2) (v 3) (v 4) (v 5) (v 6) (v 7) (v 8 0) (v 8 1) 0 (v 8 3) (v 8 4) (v 8 5) (v 8 6) (v 8 7) (v 8 8)) 19 0 3833 (by omega) hg hI _ _ hP hS _ (lv_sub hl [1, 0] rfl)
