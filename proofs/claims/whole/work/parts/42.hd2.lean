def fX5_printPartOfText (x : HV) : HV := if (x 9 1) 4 = 1 then (let r_2 := fX2_printLines (x 0) ((x 9 1) 5) (if 1 < ((x 9 1) 8) then ((x 9 1) 8) else 1)
  mkH r_2 (x 1) (x 2) (x 3) (x 4) (x 5) (x 6) (x 7) (x 8) (x 9 0) (x 9 1) (x 9 2 0) (x 9 2 1) (x 9 2 2) ) else if (x 9 1) 4 = 2 then (let r_6 := fX2_changePaper (x 0) ((x 9 1) 7)
  mkH r_6 (x 1) (x 2) (x 3) (x 4) (x 5) (x 6) (x 7) (x 8) (x 9 0) (x 9 1) (x 9 2 0) (x 9 2 1) (x 9 2 2) ) else if (x 9 1) 4 = 3 then (let r_10 := fX2_passTime (x 0) ((x 9 1) 8)
  mkH r_10 (x 1) (x 2) (x 3) (x 4) (x 5) (x 6) (x 7) (x 8) (x 9 0) (x 9 1) (x 9 2 0) (x 9 2 1) (x 9 2 2) ) else if (x 9 1) 4 = 4 then (let r_14 := fX2_printLine (x 0) 0
  mkH r_14.1 (x 1) (x 2) (x 3) (x 4) (x 5) (x 6) (x 7) (x 8) (x 9 0) (x 9 1) (x 9 2 0) (x 9 2 1) (x 9 2 2) ) else (x)
def fX5_mixed (x1 : Int64) (x2 : Int64) : Int64 := (31 * x1) + x2
def tX5_mixedDots_5 (x : HV) (x1 : Int64) (s : Int64) : Int64 := let y3_5 := s; y3_5
def tX5_mixedDots_15 (x : HV) (x1 : Int64) (d5 : Nat) (s : Int64) : Int64 := let y3_15 := s; y3_15
def bX5_mixedDots_15 (x : HV) (x1 : Int64) (d5 : Nat) (d15 : Nat) (s : Int64) : Int64 := let y3_15 := s; fX5_mixed y3_15 ((fX2_numberOfDot (x 0) (nI d5) (nI d15)).toInt64)
def bX5_mixedDots_5 (x : HV) (x1 : Int64) (d5 : Nat) (s : Int64) : Int64 := let y3_5 := s; tX5_mixedDots_15 x x1 d5 (lpF 7 0 (bX5_mixedDots_15 x x1 d5) y3_5)
def fX5_mixedDots (x : HV) (x1 : Int64) : Int64 := tX5_mixedDots_5 x x1 (lpF 24 0 (bX5_mixedDots_5 x x1) x1)
def tX5_mixedStrip_14 (x : HV) (x1 : Int64) (s : Int64) : Int64 := let y3_14 := s; y3_14
def tX5_mixedStrip_66 (x : HV) (x1 : Int64) (d14 : Nat) (y7_66 : Int32) (s : Int64) : Int64 := let y3_66 := s; y3_66
def bX5_mixedStrip_66 (x : HV) (x1 : Int64) (d14 : Nat) (y7_66 : Int32) (d66 : Nat) (s : Int64) : Int64 := let y3_66 := s; fX5_mixed y3_66 ((fX3_sign (x 0) (nI d14) (nI d66)).toInt64)
def tX5_mixedStrip_27 (x : HV) (x1 : Int64) (d14 : Nat) (s : Int64) : Int64 := let y3_27 := s; tX5_mixedStrip_66 x x1 d14 (fX3_textLength (x 0) (nI d14)) (lpF ((fX3_textLength (x 0) (nI d14)).toNatClampNeg) 0 (bX5_mixedStrip_66 x x1 d14 (fX3_textLength (x 0) (nI d14))) y3_27)
def bX5_mixedStrip_27 (x : HV) (x1 : Int64) (d14 : Nat) (d27 : Nat) (s : Int64) : Int64 := let y3_27 := s; fX5_mixed y3_27 ((fX3_numberOfLine (x 0) (nI d14) (nI d27)).toInt64)
def bX5_mixedStrip_14 (x : HV) (x1 : Int64) (d14 : Nat) (s : Int64) : Int64 := let y3_14 := s; tX5_mixedStrip_27 x x1 d14 (lpF 3 0 (bX5_mixedStrip_27 x x1 d14) y3_14)
def fX5_mixedStrip (x : HV) (x1 : Int64) : Int64 := tX5_mixedStrip_14 x x1 (lpF ((x 0 8 0).toNatClampNeg) 0 (bX5_mixedStrip_14 x x1) x1)
def tX5_mixedBuffer_16 (x : HV) (x1 : Int64) (s : Int64) : Int64 := let y3_16 := s; y3_16
def bX5_mixedBuffer_16 (x : HV) (x1 : Int64) (d16 : Nat) (s : Int64) : Int64 := let y3_16 := s; fX5_mixed y3_16 ((fX0_codeAt (mkB (x 9 0) (x 9 2 2)) (nI d16)).toInt64)
def fX5_mixedBuffer (x : HV) (x1 : Int64) : Int64 := tX5_mixedBuffer_16 x x1 (lpF ((x 9 2 2).toNatClampNeg) 0 (bX5_mixedBuffer_16 x x1) (fX5_mixed x1 ((x 9 2 2).toInt64)))
def fX5_clearBuffer (x : HV) : HV × Int32 := (mkH (x 0) (x 1) (x 2) (x 3) (x 4) (x 5) (x 6) (x 7) (x 8) (x 9 0) (x 9 1) (x 9 2 0) (x 9 2 1) 0 , x 9 2 2)
def fX5_firstError (x : HV) : HV × Int32 := let r_2 := fX1_readUntilError (x 9 1) (mkB (x 9 0) (x 9 2 2))
  (mkH (x 0) (x 1) (x 2) (x 3) (x 4) (x 5) (x 6) (x 7) (x 8) (x 9 0) r_2.1 (x 9 2 0) (x 9 2 1) (x 9 2 2) , r_2.2)
def fX5_keep (x : HV) : HV × Int32 := let r_2 := fX2_copyFrom (x 1) (x 0)
  (mkH (x 0) r_2 (x 2) (x 3) (x 4) (x 5) (x 6) (x 7) (x 8) (x 9 0) (x 9 1) (x 9 2 0) 1 (x 9 2 2) , (x 0) 8 2)
def fX5_darkness (x : HV) : UInt64 := fX4_darkShare (x 0)
def fX5_meanHeat (x : HV) : UInt32 := fX2_mean (x 0)
def tX5_mixedTrials_5 (x : HV) (x1 : Int64) (s : Int64 × HV) : HV × Int64 := let y3_5 := s.1; let v_5 := s.2; (v_5, y3_5)
def tX5_mixedTrials_40 (x : HV) (x1 : Int64) (d5 : Nat) (v_40 : HV) (s : Int64) : Int64 × HV := let y3_40 := s; (y3_40, v_40)
def bX5_mixedTrials_40 (x : HV) (x1 : Int64) (d5 : Nat) (v_40 : HV) (d40 : Nat) (s : Int64) : Int64 := let y3_40 := s; fX5_mixed y3_40 ((fX5_tried v_40 (nI d40)).toInt64)
def tX5_mixedTrials_J26 (x : HV) (x1 : Int64) (d5 : Nat) (y3_26 : Int64) (z1_26 : Int32) (v_26 : HV) : Int64 × HV := let r_3 := fX5_tryLine v_26 z1_26 (fX2_setting (v_26 0) 5)
  tX5_mixedTrials_40 x x1 d5 r_3 (lpF 5 0 (bX5_mixedTrials_40 x x1 d5 r_3) y3_26)
def bX5_mixedTrials_5 (x : HV) (x1 : Int64) (d5 : Nat) (s : Int64 × HV) : Int64 × HV := let y3_5 := s.1; let v_5 := s.2; if (nI d5) = 0 then (tX5_mixedTrials_J26 x x1 d5 y3_5 16777215 v_5) else (tX5_mixedTrials_J26 x x1 d5 y3_5 5592405 v_5)
def fX5_mixedTrials (x : HV) (x1 : Int64) : HV × Int64 := tX5_mixedTrials_5 x x1 (lpF 2 0 (bX5_mixedTrials_5 x x1) (x1, x))
theorem dX5_printPartOfText_0 : decode cX5_printPartOfText 0 = .ok (.aload_n 0, 1) := by decide +kernel
theorem dX5_printPartOfText_1 : decode cX5_printPartOfText 1 = .ok (.getfield 36, 3) := by decide +kernel
theorem dX5_printPartOfText_4 : decode cX5_printPartOfText 4 = .ok (.getfield 267, 3) := by decide +kernel
theorem dX5_printPartOfText_7 : decode cX5_printPartOfText 7 = .ok (.tableswitch 103 1 4 #[29, 57, 74, 91], 29) := by decide +kernel
theorem dX5_printPartOfText_36 : decode cX5_printPartOfText 36 = .ok (.aload_n 0, 1) := by decide +kernel
theorem dX5_printPartOfText_37 : decode cX5_printPartOfText 37 = .ok (.getfield 10, 3) := by decide +kernel
theorem dX5_printPartOfText_40 : decode cX5_printPartOfText 40 = .ok (.aload_n 0, 1) := by decide +kernel
theorem dX5_printPartOfText_41 : decode cX5_printPartOfText 41 = .ok (.getfield 36, 3) := by decide +kernel
theorem dX5_printPartOfText_44 : decode cX5_printPartOfText 44 = .ok (.getfield 270, 3) := by decide +kernel
theorem dX5_printPartOfText_47 : decode cX5_printPartOfText 47 = .ok (.iconst 1, 1) := by decide +kernel
theorem dX5_printPartOfText_48 : decode cX5_printPartOfText 48 = .ok (.aload_n 0, 1) := by decide +kernel
theorem dX5_printPartOfText_49 : decode cX5_printPartOfText 49 = .ok (.getfield 36, 3) := by decide +kernel
theorem dX5_printPartOfText_52 : decode cX5_printPartOfText 52 = .ok (.getfield 272, 3) := by decide +kernel
theorem dX5_printPartOfText_55 : decode cX5_printPartOfText 55 = .ok (.invokestatic 275, 3) := by decide +kernel
theorem dX5_printPartOfText_58 : decode cX5_printPartOfText 58 = .ok (.invokevirtual 81, 3) := by decide +kernel
theorem dX5_printPartOfText_61 : decode cX5_printPartOfText 61 = .ok (.goto 49, 3) := by decide +kernel
theorem dX5_printPartOfText_64 : decode cX5_printPartOfText 64 = .ok (.aload_n 0, 1) := by decide +kernel
theorem dX5_printPartOfText_65 : decode cX5_printPartOfText 65 = .ok (.getfield 10, 3) := by decide +kernel
theorem dX5_printPartOfText_68 : decode cX5_printPartOfText 68 = .ok (.aload_n 0, 1) := by decide +kernel
theorem dX5_printPartOfText_69 : decode cX5_printPartOfText 69 = .ok (.getfield 36, 3) := by decide +kernel
theorem dX5_printPartOfText_72 : decode cX5_printPartOfText 72 = .ok (.getfield 280, 3) := by decide +kernel
theorem dX5_printPartOfText_75 : decode cX5_printPartOfText 75 = .ok (.invokevirtual 106, 3) := by decide +kernel
theorem dX5_printPartOfText_78 : decode cX5_printPartOfText 78 = .ok (.goto 32, 3) := by decide +kernel
theorem dX5_printPartOfText_81 : decode cX5_printPartOfText 81 = .ok (.aload_n 0, 1) := by decide +kernel
theorem dX5_printPartOfText_82 : decode cX5_printPartOfText 82 = .ok (.getfield 10, 3) := by decide +kernel
theorem dX5_printPartOfText_85 : decode cX5_printPartOfText 85 = .ok (.aload_n 0, 1) := by decide +kernel
theorem dX5_printPartOfText_86 : decode cX5_printPartOfText 86 = .ok (.getfield 36, 3) := by decide +kernel
theorem dX5_printPartOfText_89 : decode cX5_printPartOfText 89 = .ok (.getfield 272, 3) := by decide +kernel
theorem dX5_printPartOfText_92 : decode cX5_printPartOfText 92 = .ok (.invokevirtual 87, 3) := by decide +kernel
theorem dX5_printPartOfText_95 : decode cX5_printPartOfText 95 = .ok (.goto 15, 3) := by decide +kernel
theorem dX5_printPartOfText_98 : decode cX5_printPartOfText 98 = .ok (.aload_n 0, 1) := by decide +kernel
theorem dX5_printPartOfText_99 : decode cX5_printPartOfText 99 = .ok (.getfield 10, 3) := by decide +kernel
theorem dX5_printPartOfText_102 : decode cX5_printPartOfText 102 = .ok (.iconst 0, 1) := by decide +kernel
theorem dX5_printPartOfText_103 : decode cX5_printPartOfText 103 = .ok (.invokevirtual 62, 3) := by decide +kernel
theorem dX5_printPartOfText_106 : decode cX5_printPartOfText 106 = .ok (.pop, 1) := by decide +kernel
theorem dX5_printPartOfText_107 : decode cX5_printPartOfText 107 = .ok (.goto 3, 3) := by decide +kernel
theorem dX5_printPartOfText_110 : decode cX5_printPartOfText 110 = .ok (.return_, 1) := by decide +kernel
set_option maxHeartbeats 1000000 in
set_option maxRecDepth 100000 in
theorem c_X5_printPartOfText (l : Launch) (G : GT) (a : Nat → Nat) (b : Nat → Nat) (x : HV) (hq : hdD G a b) : Met l yX5_printPartOfText (Cond.code yX5_printPartOfText cX5_printPartOfText 1 none :: bigW) ({ frames := 5, cells := 0, slots := 0, locals := 122 }) (BP G [.ref (a 0)] (fun U H => PW G (hdW G a b x) H)) (QE (none) (fun H => PW G (hdW G a b (fX5_printPartOfText x)) H) (hdA a b)) 0 0 (hdA a b) := by
  refine met_of (by decide) (Nat.le_of_ble_eq_true rfl) ?_
  intro p e s m below meth c ls hC hKN hB0 hl
  have hP := hB0
  have hl : lv_has ls 1 [(0, .ref (a 0))] := hl
  have hS : va_S (hdA a b) s.heap s.heap [] := va_S.rf
  have hAL : ∀ z, (hdA a b) z → gL G ≤ z := hdD_low hq
  have hg : fX5_printPartOfText x = fX5_printPartOfText x := rfl
  refine lv_aload_n hC.1 hC.2.1 dX5_printPartOfText_0 rfl (lv_at hl 0 rfl) ?_
  refine gf (v := .ref (a 4)) hC fwX5 hKN hP 0 rfl rfl 5 (by decide) rfl wd_208 rfl dX5_printPartOfText_1 ?_
  refine gfN (v := .int ((x 9 1) 4)) hC fwX1 hKN hP 4 rfl rfl 4 (by decide) rfl (nf_20 hKN) rfl dX5_printPartOfText_4 ?_
  by_cases k7_1 : (x 9 1) 4 = 1
  · refine swIn hC (tgt := 36) 1 k7_1 dX5_printPartOfText_7 (by decide) (by decide) rfl (by decide) ?_
    refine lv_aload_n hC.1 hC.2.1 dX5_printPartOfText_36 rfl (lv_at hl 0 rfl) ?_
    refine gf (v := .ref (a 5)) hC fwX5 hKN hP 0 rfl rfl 0 (by decide) rfl wd_203 rfl dX5_printPartOfText_37 ?_
    refine lv_aload_n hC.1 hC.2.1 dX5_printPartOfText_40 rfl (lv_at hl 0 rfl) ?_
    refine gf (v := .ref (a 4)) hC fwX5 hKN hP 0 rfl rfl 5 (by decide) rfl wd_208 rfl dX5_printPartOfText_41 ?_
    refine gfN (v := .int ((x 9 1) 5)) hC fwX1 hKN hP 4 rfl rfl 5 (by decide) rfl (nf_21 hKN) rfl dX5_printPartOfText_44 ?_
    refine lv_iconst (v := 1) hC.1 hC.2.1 dX5_printPartOfText_47 (by decide) ?_
    refine lv_aload_n hC.1 hC.2.1 dX5_printPartOfText_48 rfl (lv_at hl 0 rfl) ?_
    refine gf (v := .ref (a 4)) hC fwX5 hKN hP 0 rfl rfl 5 (by decide) rfl wd_208 rfl dX5_printPartOfText_49 ?_
    refine gfN (v := .int ((x 9 1) 8)) hC fwX1 hKN hP 4 rfl rfl 8 (by decide) rfl (nf_23 hKN) rfl dX5_printPartOfText_52 ?_
    refine va_mmax hC.1 hC.2.1 (hC.2.2.2.1.trans hl.1.symm) hC.2.2.2.2.1 (hC.2.2.2.2.2.2.1 _ wd_798) (hC.2.2.2.2.2.2.1 _ wd_413) (hC.2.2.2.2.2.2.1 _ wd_3) (hC.2.2.2.2.2.2.1 _ wd_414) (Nat.le_of_ble_eq_true rfl) (Nat.le_of_ble_eq_true rfl) (Nat.zero_le _) (Nat.zero_le _) dX5_printPartOfText_55 ?_
    refine runE (rV (B := fun U H => PW G (stW G (sA a 0) (x 0)) H) (As := [.int ((x 9 1) 5), .int (if 1 < ((x 9 1) 8) then ((x 9 1) 8) else 1)]) (rest := []) hC mwX2_printLines (c_X2_printLines l G (sA a 0) (x 0) ((x 9 1) 5) (if 1 < ((x 9 1) 8) then ((x 9 1) 8) else 1) (hdD_st hq 0 (by decide))) iwX2_printLines wd_696 ⟨rfl, rfl⟩ ⟨Nat.le_of_ble_eq_true rfl, Nat.le_of_ble_eq_true rfl⟩ (stb_h (fun H => PW G (stW G (sA a 0) (x 0)) H)) hKN (hd_st0 (x := x) hP) (va_recv hKN.k (hd_st0 (x := x) hP) (ci := 2) (q0 := 0) rfl rfl) rfl hl.1 rfl (Nat.le_of_ble_eq_true rfl) dX5_printPartOfText_58 ⟨Nat.zero_le _, Nat.zero_le _⟩) hS (fun _ h => hdA_st (by decide) h) (fun _ h => hdA_st (by decide) h) (fun H locs hq_1 _ hk_3 hS => ?_)
    have hP : PW G (hdW G a b (mkH (fX2_printLines (x 0) ((x 9 1) 5) (if 1 < ((x 9 1) 8) then ((x 9 1) 8) else 1)) (x 1) (x 2) (x 3) (x 4) (x 5) (x 6) (x 7) (x 8) (x 9 0) (x 9 1) (x 9 2 0) (x 9 2 1) (x 9 2 2))) H := hd_set0 (x := x) hq hP hq_1 hk_3
    obtain ⟨r_2, er_2⟩ : ∃ z, z = fX2_printLines (x 0) ((x 9 1) 5) (if 1 < ((x 9 1) 8) then ((x 9 1) 8) else 1) := ⟨_, rfl⟩
    rw [← er_2] at hP
    refine lv_goto (tgt := 110) hC.1 hC.2.1 dX5_printPartOfText_61 (by decide) ?_
    have e_4 : fX5_printPartOfText x = mkH r_2 (x 1) (x 2) (x 3) (x 4) (x 5) (x 6) (x 7) (x 8) (x 9 0) (x 9 1) (x 9 2 0) (x 9 2 1) (x 9 2 2)  := by
      delta fX5_printPartOfText
      try dsimp only
      rw [← er_2]
      exact Eq.trans (if_pos k7_1) rfl
    have hg : fX5_printPartOfText x = mkH r_2 (x 1) (x 2) (x 3) (x 4) (x 5) (x 6) (x 7) (x 8) (x 9 0) (x 9 1) (x 9 2 0) (x 9 2 1) (x 9 2 2)  := by have e2 := congrArg (fun z => z) e_4; exact hg.trans e2
    exact eE_v hC (by show PW G (hdW G a b (fX5_printPartOfText x)) H; rw [hg]; exact hP) hS dX5_printPartOfText_110
  · skip
    by_cases k7_2 : (x 9 1) 4 = 2
    · refine swIn hC (tgt := 64) 2 k7_2 dX5_printPartOfText_7 (by decide) (by decide) rfl (by decide) ?_
      refine lv_aload_n hC.1 hC.2.1 dX5_printPartOfText_64 rfl (lv_at hl 0 rfl) ?_
      refine gf (v := .ref (a 5)) hC fwX5 hKN hP 0 rfl rfl 0 (by decide) rfl wd_203 rfl dX5_printPartOfText_65 ?_
      refine lv_aload_n hC.1 hC.2.1 dX5_printPartOfText_68 rfl (lv_at hl 0 rfl) ?_
      refine gf (v := .ref (a 4)) hC fwX5 hKN hP 0 rfl rfl 5 (by decide) rfl wd_208 rfl dX5_printPartOfText_69 ?_
      refine gfN (v := .int ((x 9 1) 7)) hC fwX1 hKN hP 4 rfl rfl 7 (by decide) rfl (nf_22 hKN) rfl dX5_printPartOfText_72 ?_
      refine runE (rV (B := fun U H => PW G (stW G (sA a 0) (x 0)) H) (As := [.int ((x 9 1) 7)]) (rest := []) hC mwX2_changePaper (c_X2_changePaper l G (sA a 0) (x 0) ((x 9 1) 7) (hdD_st hq 0 (by decide))) iwX2_changePaper wd_718 ⟨rfl, rfl⟩ ⟨Nat.le_of_ble_eq_true rfl, Nat.le_of_ble_eq_true rfl⟩ (stb_h (fun H => PW G (stW G (sA a 0) (x 0)) H)) hKN (hd_st0 (x := x) hP) (va_recv hKN.k (hd_st0 (x := x) hP) (ci := 2) (q0 := 0) rfl rfl) rfl hl.1 rfl (Nat.le_of_ble_eq_true rfl) dX5_printPartOfText_75 ⟨Nat.zero_le _, Nat.zero_le _⟩) hS (fun _ h => hdA_st (by decide) h) (fun _ h => hdA_st (by decide) h) (fun H locs hq_5 _ hk_7 hS => ?_)
      have hP : PW G (hdW G a b (mkH (fX2_changePaper (x 0) ((x 9 1) 7)) (x 1) (x 2) (x 3) (x 4) (x 5) (x 6) (x 7) (x 8) (x 9 0) (x 9 1) (x 9 2 0) (x 9 2 1) (x 9 2 2))) H := hd_set0 (x := x) hq hP hq_5 hk_7
      obtain ⟨r_6, er_6⟩ : ∃ z, z = fX2_changePaper (x 0) ((x 9 1) 7) := ⟨_, rfl⟩
      rw [← er_6] at hP
      refine lv_goto (tgt := 110) hC.1 hC.2.1 dX5_printPartOfText_78 (by decide) ?_
      have e_8 : fX5_printPartOfText x = mkH r_6 (x 1) (x 2) (x 3) (x 4) (x 5) (x 6) (x 7) (x 8) (x 9 0) (x 9 1) (x 9 2 0) (x 9 2 1) (x 9 2 2)  := by
        delta fX5_printPartOfText
        try dsimp only
        rw [← er_6]
        exact Eq.trans (if_neg k7_1) (Eq.trans (if_pos k7_2) rfl)
      have hg : fX5_printPartOfText x = mkH r_6 (x 1) (x 2) (x 3) (x 4) (x 5) (x 6) (x 7) (x 8) (x 9 0) (x 9 1) (x 9 2 0) (x 9 2 1) (x 9 2 2)  := by have e2 := congrArg (fun z => z) e_8; exact hg.trans e2
      exact eE_v hC (by show PW G (hdW G a b (fX5_printPartOfText x)) H; rw [hg]; exact hP) hS dX5_printPartOfText_110
    · skip
      by_cases k7_3 : (x 9 1) 4 = 3
      · refine swIn hC (tgt := 81) 3 k7_3 dX5_printPartOfText_7 (by decide) (by decide) rfl (by decide) ?_
        refine lv_aload_n hC.1 hC.2.1 dX5_printPartOfText_81 rfl (lv_at hl 0 rfl) ?_
        refine gf (v := .ref (a 5)) hC fwX5 hKN hP 0 rfl rfl 0 (by decide) rfl wd_203 rfl dX5_printPartOfText_82 ?_
        refine lv_aload_n hC.1 hC.2.1 dX5_printPartOfText_85 rfl (lv_at hl 0 rfl) ?_
        refine gf (v := .ref (a 4)) hC fwX5 hKN hP 0 rfl rfl 5 (by decide) rfl wd_208 rfl dX5_printPartOfText_86 ?_
        refine gfN (v := .int ((x 9 1) 8)) hC fwX1 hKN hP 4 rfl rfl 8 (by decide) rfl (nf_23 hKN) rfl dX5_printPartOfText_89 ?_
        refine runE (rV (B := fun U H => PW G (stW G (sA a 0) (x 0)) H) (As := [.int ((x 9 1) 8)]) (rest := []) hC mwX2_passTime (c_X2_passTime l G (sA a 0) (x 0) ((x 9 1) 8) (hdD_st hq 0 (by decide))) iwX2_passTime wd_709 ⟨rfl, rfl⟩ ⟨Nat.le_of_ble_eq_true rfl, Nat.le_of_ble_eq_true rfl⟩ (stb_h (fun H => PW G (stW G (sA a 0) (x 0)) H)) hKN (hd_st0 (x := x) hP) (va_recv hKN.k (hd_st0 (x := x) hP) (ci := 2) (q0 := 0) rfl rfl) rfl hl.1 rfl (Nat.le_of_ble_eq_true rfl) dX5_printPartOfText_92 ⟨Nat.zero_le _, Nat.zero_le _⟩) hS (fun _ h => hdA_st (by decide) h) (fun _ h => hdA_st (by decide) h) (fun H locs hq_9 _ hk_11 hS => ?_)
        have hP : PW G (hdW G a b (mkH (fX2_passTime (x 0) ((x 9 1) 8)) (x 1) (x 2) (x 3) (x 4) (x 5) (x 6) (x 7) (x 8) (x 9 0) (x 9 1) (x 9 2 0) (x 9 2 1) (x 9 2 2))) H := hd_set0 (x := x) hq hP hq_9 hk_11
        obtain ⟨r_10, er_10⟩ : ∃ z, z = fX2_passTime (x 0) ((x 9 1) 8) := ⟨_, rfl⟩
        rw [← er_10] at hP
        refine lv_goto (tgt := 110) hC.1 hC.2.1 dX5_printPartOfText_95 (by decide) ?_
        have e_12 : fX5_printPartOfText x = mkH r_10 (x 1) (x 2) (x 3) (x 4) (x 5) (x 6) (x 7) (x 8) (x 9 0) (x 9 1) (x 9 2 0) (x 9 2 1) (x 9 2 2)  := by
          delta fX5_printPartOfText
          try dsimp only
          rw [← er_10]
          exact Eq.trans (if_neg k7_1) (Eq.trans (if_neg k7_2) (Eq.trans (if_pos k7_3) rfl))
        have hg : fX5_printPartOfText x = mkH r_10 (x 1) (x 2) (x 3) (x 4) (x 5) (x 6) (x 7) (x 8) (x 9 0) (x 9 1) (x 9 2 0) (x 9 2 1) (x 9 2 2)  := by have e2 := congrArg (fun z => z) e_12; exact hg.trans e2
        exact eE_v hC (by show PW G (hdW G a b (fX5_printPartOfText x)) H; rw [hg]; exact hP) hS dX5_printPartOfText_110
      · skip
        by_cases k7_4 : (x 9 1) 4 = 4
        · refine swIn hC (tgt := 98) 4 k7_4 dX5_printPartOfText_7 (by decide) (by decide) rfl (by decide) ?_
          refine lv_aload_n hC.1 hC.2.1 dX5_printPartOfText_98 rfl (lv_at hl 0 rfl) ?_
          refine gf (v := .ref (a 5)) hC fwX5 hKN hP 0 rfl rfl 0 (by decide) rfl wd_203 rfl dX5_printPartOfText_99 ?_
          refine lv_iconst (v := 0) hC.1 hC.2.1 dX5_printPartOfText_102 (by decide) ?_
          refine runE (rV (B := fun U H => PW G (stW G (sA a 0) (x 0)) H) (As := [.int 0]) (rest := []) hC mwX2_printLine (c_X2_printLine l G (sA a 0) (x 0) 0 (hdD_st hq 0 (by decide))) iwX2_printLine wd_494 ⟨rfl, rfl⟩ ⟨Nat.le_of_ble_eq_true rfl, Nat.le_of_ble_eq_true rfl⟩ (stb_h (fun H => PW G (stW G (sA a 0) (x 0)) H)) hKN (hd_st0 (x := x) hP) (va_recv hKN.k (hd_st0 (x := x) hP) (ci := 2) (q0 := 0) rfl rfl) rfl hl.1 rfl (Nat.le_of_ble_eq_true rfl) dX5_printPartOfText_103 ⟨Nat.zero_le _, Nat.zero_le _⟩) hS (fun _ h => hdA_st (by decide) h) (fun _ h => hdA_st (by decide) h) (fun H locs hq_13 _ hk_15 hS => ?_)
          have hP : PW G (hdW G a b (mkH ((fX2_printLine (x 0) 0).1) (x 1) (x 2) (x 3) (x 4) (x 5) (x 6) (x 7) (x 8) (x 9 0) (x 9 1) (x 9 2 0) (x 9 2 1) (x 9 2 2))) H := hd_set0 (x := x) hq hP hq_13 hk_15
          obtain ⟨r_14, er_14⟩ : ∃ z, z = fX2_printLine (x 0) 0 := ⟨_, rfl⟩
          rw [← er_14] at hP
          show W p l e ({ frames := 5, cells := 0, slots := 0, locals := 122 }) s m ([.ref (a 0)] : List Value).toArray below meth c H locs (0 + 0) (0 + 0) _ (F0 m (103 + 3) ls [.int ((fX2_printLine (x 0) 0).2)])
          rw [← er_14]
          refine lv_pop hC.1 hC.2.1 dX5_printPartOfText_106 rfl ?_
          refine lv_goto (tgt := 110) hC.1 hC.2.1 dX5_printPartOfText_107 (by decide) ?_
          have e_16 : fX5_printPartOfText x = mkH r_14.1 (x 1) (x 2) (x 3) (x 4) (x 5) (x 6) (x 7) (x 8) (x 9 0) (x 9 1) (x 9 2 0) (x 9 2 1) (x 9 2 2)  := by
            delta fX5_printPartOfText
            try dsimp only
            rw [← er_14]
            exact Eq.trans (if_neg k7_1) (Eq.trans (if_neg k7_2) (Eq.trans (if_neg k7_3) (Eq.trans (if_pos k7_4) rfl)))
          have hg : fX5_printPartOfText x = mkH r_14.1 (x 1) (x 2) (x 3) (x 4) (x 5) (x 6) (x 7) (x 8) (x 9 0) (x 9 1) (x 9 2 0) (x 9 2 1) (x 9 2 2)  := by have e2 := congrArg (fun z => z) e_16; exact hg.trans e2
          exact eE_v hC (by show PW G (hdW G a b (fX5_printPartOfText x)) H; rw [hg]; exact hP) hS dX5_printPartOfText_110
        · skip
          refine lv_tableOut (tgt := 110) hC.1 hC.2.1 dX5_printPartOfText_7 (sw_out 1 4 (by decide) (fun k h1 h2 => by match k, h1, h2 with | 0, h, _ => exact absurd h (by decide) | 1, _, _ => exact k7_1 | 2, _, _ => exact k7_2 | 3, _, _ => exact k7_3 | 4, _, _ => exact k7_4 | k + 5, _, h => exact absurd h (by omega))) (by decide) ?_
          have e_17 : fX5_printPartOfText x = x := by
            delta fX5_printPartOfText
            try dsimp only
            exact Eq.trans (if_neg k7_1) (Eq.trans (if_neg k7_2) (Eq.trans (if_neg k7_3) (Eq.trans (if_neg k7_4) rfl)))
          have hg : fX5_printPartOfText x = x := by have e2 := congrArg (fun z => z) e_17; exact hg.trans e2
          exact eE_v hC (by show PW G (hdW G a b (fX5_printPartOfText x)) s.heap; rw [hg]; exact hP) hS dX5_printPartOfText_110

theorem dX5_mixed_0 : decode cX5_mixed 0 = .ok (.ldc2_w 304, 3) := by decide +kernel
theorem dX5_mixed_3 : decode cX5_mixed 3 = .ok (.lload_n 0, 1) := by decide +kernel
theorem dX5_mixed_4 : decode cX5_mixed 4 = .ok (.lmul, 1) := by decide +kernel
theorem dX5_mixed_5 : decode cX5_mixed 5 = .ok (.lload_n 2, 1) := by decide +kernel
theorem dX5_mixed_6 : decode cX5_mixed 6 = .ok (.ladd, 1) := by decide +kernel
theorem dX5_mixed_7 : decode cX5_mixed 7 = .ok (.lreturn, 1) := by decide +kernel
set_option maxHeartbeats 1000000 in
set_option maxRecDepth 100000 in
theorem c_X5_mixed (l : Launch) (G : GT) (x1 : Int64) (x2 : Int64) : Met l yX5_mixed (Cond.code yX5_mixed cX5_mixed 4 (some .long) :: bigW) ({ frames := 0, cells := 0, slots := 0, locals := 0 }) (BP G [.long x1, .long x2] (fun U H => True)) (QP (.long (fX5_mixed x1 x2))) 0 0 (fun _ => False) := by
  refine met_of (by decide) (Nat.le_of_ble_eq_true rfl) ?_
  intro p e s m below meth c ls hC hKN hB0 hl
  have hl : lv_has ls 4 [(0, .long x1), (2, .long x2)] := hl
  have hg : fX5_mixed x1 x2 = fX5_mixed x1 x2 := rfl
  refine lv_ldc2 (v := 31) hC.1 hC.2.1 hC.2.2.2.2.1 (hC.2.2.2.2.2.2.1 _ wd_423) dX5_mixed_0 ?_
  refine lv_lload_n hC.1 hC.2.1 dX5_mixed_3 rfl (lv_at hl 0 rfl) ?_
  refine lv_lmul hC.1 hC.2.1 dX5_mixed_4 ?_
  refine lv_lload_n hC.1 hC.2.1 dX5_mixed_5 rfl (lv_at hl 1 rfl) ?_
  refine lv_ladd hC.1 hC.2.1 dX5_mixed_6 ?_
  have e_1 : fX5_mixed x1 x2 = (31 * x1) + x2 := by delta fX5_mixed; exact rfl
  have hg : fX5_mixed x1 x2 = (31 * x1) + x2 := by have e2 := congrArg (fun z => z) e_1; exact hg.trans e2
  exact eP_l hC (congrArg Value.long hg) dX5_mixed_7

theorem dX5_mixedDots_0 : decode cX5_mixedDots 0 = .ok (.lload_n 1, 1) := by decide +kernel
theorem dX5_mixedDots_1 : decode cX5_mixedDots 1 = .ok (.lstore_n 3, 1) := by decide +kernel
theorem dX5_mixedDots_2 : decode cX5_mixedDots 2 = .ok (.iconst 0, 1) := by decide +kernel
theorem dX5_mixedDots_3 : decode cX5_mixedDots 3 = .ok (.istore 5, 2) := by decide +kernel
theorem dX5_mixedDots_5 : decode cX5_mixedDots 5 = .ok (.iload 5, 2) := by decide +kernel
theorem dX5_mixedDots_7 : decode cX5_mixedDots 7 = .ok (.bipush 24, 2) := by decide +kernel
theorem dX5_mixedDots_9 : decode cX5_mixedDots 9 = .ok (.if_icmp .ge 42, 3) := by decide +kernel
theorem dX5_mixedDots_12 : decode cX5_mixedDots 12 = .ok (.iconst 0, 1) := by decide +kernel
theorem dX5_mixedDots_13 : decode cX5_mixedDots 13 = .ok (.istore 6, 2) := by decide +kernel
theorem dX5_mixedDots_15 : decode cX5_mixedDots 15 = .ok (.iload 6, 2) := by decide +kernel
theorem dX5_mixedDots_17 : decode cX5_mixedDots 17 = .ok (.bipush 7, 2) := by decide +kernel
theorem dX5_mixedDots_19 : decode cX5_mixedDots 19 = .ok (.if_icmp .ge 26, 3) := by decide +kernel
theorem dX5_mixedDots_22 : decode cX5_mixedDots 22 = .ok (.lload_n 3, 1) := by decide +kernel
theorem dX5_mixedDots_23 : decode cX5_mixedDots 23 = .ok (.aload_n 0, 1) := by decide +kernel
theorem dX5_mixedDots_24 : decode cX5_mixedDots 24 = .ok (.getfield 10, 3) := by decide +kernel
theorem dX5_mixedDots_27 : decode cX5_mixedDots 27 = .ok (.iload 5, 2) := by decide +kernel
theorem dX5_mixedDots_29 : decode cX5_mixedDots 29 = .ok (.iload 6, 2) := by decide +kernel
theorem dX5_mixedDots_31 : decode cX5_mixedDots 31 = .ok (.invokevirtual 198, 3) := by decide +kernel
theorem dX5_mixedDots_34 : decode cX5_mixedDots 34 = .ok (.i2l, 1) := by decide +kernel
theorem dX5_mixedDots_35 : decode cX5_mixedDots 35 = .ok (.invokestatic 238, 3) := by decide +kernel
theorem dX5_mixedDots_38 : decode cX5_mixedDots 38 = .ok (.lstore_n 3, 1) := by decide +kernel
theorem dX5_mixedDots_39 : decode cX5_mixedDots 39 = .ok (.iinc 6 1, 3) := by decide +kernel
theorem dX5_mixedDots_42 : decode cX5_mixedDots 42 = .ok (.goto (-27), 3) := by decide +kernel
theorem dX5_mixedDots_45 : decode cX5_mixedDots 45 = .ok (.iinc 5 1, 3) := by decide +kernel
theorem dX5_mixedDots_48 : decode cX5_mixedDots 48 = .ok (.goto (-43), 3) := by decide +kernel
theorem dX5_mixedDots_51 : decode cX5_mixedDots 51 = .ok (.lload_n 3, 1) := by decide +kernel
theorem dX5_mixedDots_52 : decode cX5_mixedDots 52 = .ok (.lreturn, 1) := by decide +kernel
set_option maxHeartbeats 1000000 in
set_option maxRecDepth 100000 in
theorem c_X5_mixedDots (l : Launch) (G : GT) (a : Nat → Nat) (b : Nat → Nat) (x : HV) (x1 : Int64) : Met l yX5_mixedDots (Cond.code yX5_mixedDots cX5_mixedDots 7 (some .long) :: bigW) ({ frames := 4, cells := 0, slots := 0, locals := 92 }) (BP G [.ref (a 0), .long x1] (fun U H => PW G (hdW G a b x) H)) (QP (.long (fX5_mixedDots x x1))) 0 0 (fun _ => False) := by
  refine met_of (by decide) (Nat.le_of_ble_eq_true rfl) ?_
  intro p e s m below meth c ls hC hKN hB0 hl
  have hP := hB0
  have hl : lv_has ls 7 [(0, .ref (a 0)), (1, .long x1)] := hl
  have hg : fX5_mixedDots x x1 = fX5_mixedDots x x1 := rfl
  refine lv_lload_n hC.1 hC.2.1 dX5_mixedDots_0 rfl (lv_at hl 1 rfl) ?_
  refine lv_lstore_n (lv' := [(3, .long x1), (0, .ref (a 0)), (1, .long x1)]) hC.1 hC.2.1 dX5_mixedDots_1 rfl hl (by decide) rfl (fun ls hl => ?_)
  refine lv_iconst (v := 0) hC.1 hC.2.1 dX5_mixedDots_2 (by decide) ?_
  refine lv_istore (lv' := [(5, .int 0), (3, .long x1), (0, .ref (a 0)), (1, .long x1)]) hC.1 hC.2.1 dX5_mixedDots_3 hl (by decide) rfl (fun ls hl => ?_)
  have A5 : ∀ (y3_5 : Int64), fX5_mixedDots x x1 = (tX5_mixedDots_5 x x1 y3_5) → ∀ (ls : Array Slot), lv_has ls 7 [(3, .long y3_5)] → W p l e ({ frames := 4, cells := 0, slots := 0, locals := 92 }) s m ([.ref (a 0), .long x1] : List Value).toArray below meth c s.heap [] 0 0 (MQ below (QP (.long (fX5_mixedDots x x1))) ([.ref (a 0), .long x1] : List Value).toArray s 0 0 (fun _ => False)) (F0 m 51 ls []) := by
    intro  y3_5 hg ls hl
    refine lv_lload_n hC.1 hC.2.1 dX5_mixedDots_51 rfl (lv_at hl 0 rfl) ?_
    have e_1 : tX5_mixedDots_5 x x1 y3_5 = y3_5 := by delta tX5_mixedDots_5; exact rfl
    have hg : fX5_mixedDots x x1 = y3_5 := by have e2 := congrArg (fun z => z) e_1; exact hg.trans e2
    exact eP_l hC (congrArg Value.long hg) dX5_mixedDots_52
  have L5 : ∀ (n5 d5 : Nat), ∀ (y3_5 : Int64), d5 + n5 = 24 → fX5_mixedDots x x1 = (tX5_mixedDots_5 x x1 (lpF n5 d5 (bX5_mixedDots_5 x x1) y3_5)) → ∀ (ls : Array Slot), lv_has ls 7 [(0, .ref (a 0)), (3, .long y3_5), (5, .int (nI d5))] → W p l e ({ frames := 4, cells := 0, slots := 0, locals := 92 }) s m ([.ref (a 0), .long x1] : List Value).toArray below meth c s.heap [] 0 0 (MQ below (QP (.long (fX5_mixedDots x x1))) ([.ref (a 0), .long x1] : List Value).toArray s 0 0 (fun _ => False)) (F0 m 5 ls []) := by
    intro n5
    induction n5 with
    | zero =>
      intro d5 y3_5 hd hg ls hl
      refine lv_iload hC.1 hC.2.1 dX5_mixedDots_5 (lv_at hl 2 rfl) ?_
      refine lv_bipush (v := 24) hC.1 hC.2.1 dX5_mixedDots_7 (by decide +kernel) ?_
      refine lv_icmp_ge (tgt := 51) hC.1 hC.2.1 dX5_mixedDots_9 (by decide) (fun k9 => ?_) (fun k9 => ?_)
      · exact A5  y3_5 hg _ (lv_sub hl [1] rfl)
      · exact absurd (nI_le (a := 24) (b := d5) (by omega) (by omega)) k9
    | succ n5 ih =>
      intro d5 y3_5 hd hg ls hl
      have hg : fX5_mixedDots x x1 = (tX5_mixedDots_5 x x1 (lpF n5 (d5 + 1) (bX5_mixedDots_5 x x1) (bX5_mixedDots_5 x x1 d5 y3_5))) := hg
      refine lv_iload hC.1 hC.2.1 dX5_mixedDots_5 (lv_at hl 2 rfl) ?_
      refine lv_bipush (v := 24) hC.1 hC.2.1 dX5_mixedDots_7 (by decide +kernel) ?_
      refine lv_icmp_ge (tgt := 51) hC.1 hC.2.1 dX5_mixedDots_9 (by decide) (fun k9 => ?_) (fun k9 => ?_)
      · exact absurd k9 (nI_ge (a := d5) (b := 24) (by omega) (by omega))
      · refine lv_iconst (v := 0) hC.1 hC.2.1 dX5_mixedDots_12 (by decide) ?_
        refine lv_istore (lv' := [(6, .int 0), (0, .ref (a 0)), (3, .long y3_5), (5, .int (nI d5))]) hC.1 hC.2.1 dX5_mixedDots_13 hl (by decide) rfl (fun ls hl => ?_)
        have A15 : ∀ (y3_15 : Int64), fX5_mixedDots x x1 = (tX5_mixedDots_5 x x1 (lpF n5 (d5 + 1) (bX5_mixedDots_5 x x1) (tX5_mixedDots_15 x x1 d5 y3_15))) → ∀ (ls : Array Slot), lv_has ls 7 [(0, .ref (a 0)), (3, .long y3_15), (5, .int (nI d5))] → W p l e ({ frames := 4, cells := 0, slots := 0, locals := 92 }) s m ([.ref (a 0), .long x1] : List Value).toArray below meth c s.heap [] 0 0 (MQ below (QP (.long (fX5_mixedDots x x1))) ([.ref (a 0), .long x1] : List Value).toArray s 0 0 (fun _ => False)) (F0 m 45 ls []) := by
          intro  y3_15 hg ls hl
          refine lv_iinc (v := nI (d5 + 1)) (lv' := [(5, .int (nI (d5 + 1))), (0, .ref (a 0)), (3, .long y3_15)]) hC.1 hC.2.1 dX5_mixedDots_45 hl (k := 2) rfl (nI_1 _) (by decide) rfl (fun ls hl => ?_)
          refine lv_goto (tgt := 5) hC.1 hC.2.1 dX5_mixedDots_48 (by decide) ?_
          have e_2 : tX5_mixedDots_15 x x1 d5 y3_15 = y3_15 := by delta tX5_mixedDots_15; exact rfl
          have hg : fX5_mixedDots x x1 = (tX5_mixedDots_5 x x1 (lpF n5 (d5 + 1) (bX5_mixedDots_5 x x1) y3_15)) := by have e2 := congrArg (fun z => (tX5_mixedDots_5 x x1 (lpF n5 (d5 + 1) (bX5_mixedDots_5 x x1) z))) e_2; exact hg.trans e2
          exact ih (d5 + 1) y3_15 (by omega) hg _ (lv_sub hl [1, 2, 0] rfl)
        have L15 : ∀ (n15 d15 : Nat), ∀ (y3_15 : Int64), d15 + n15 = 7 → fX5_mixedDots x x1 = (tX5_mixedDots_5 x x1 (lpF n5 (d5 + 1) (bX5_mixedDots_5 x x1) (tX5_mixedDots_15 x x1 d5 (lpF n15 d15 (bX5_mixedDots_15 x x1 d5) y3_15)))) → ∀ (ls : Array Slot), lv_has ls 7 [(0, .ref (a 0)), (3, .long y3_15), (5, .int (nI d5)), (6, .int (nI d15))] → W p l e ({ frames := 4, cells := 0, slots := 0, locals := 92 }) s m ([.ref (a 0), .long x1] : List Value).toArray below meth c s.heap [] 0 0 (MQ below (QP (.long (fX5_mixedDots x x1))) ([.ref (a 0), .long x1] : List Value).toArray s 0 0 (fun _ => False)) (F0 m 15 ls []) := by
          intro n15
          induction n15 with
          | zero =>
            intro d15 y3_15 hd hg ls hl
            refine lv_iload hC.1 hC.2.1 dX5_mixedDots_15 (lv_at hl 3 rfl) ?_
            refine lv_bipush (v := 7) hC.1 hC.2.1 dX5_mixedDots_17 (by decide +kernel) ?_
            refine lv_icmp_ge (tgt := 45) hC.1 hC.2.1 dX5_mixedDots_19 (by decide) (fun k19 => ?_) (fun k19 => ?_)
            · exact A15  y3_15 hg _ (lv_sub hl [0, 1, 2] rfl)
            · exact absurd (nI_le (a := 7) (b := d15) (by omega) (by omega)) k19
          | succ n15 ih =>
            intro d15 y3_15 hd hg ls hl
            have hg : fX5_mixedDots x x1 = (tX5_mixedDots_5 x x1 (lpF n5 (d5 + 1) (bX5_mixedDots_5 x x1) (tX5_mixedDots_15 x x1 d5 (lpF n15 (d15 + 1) (bX5_mixedDots_15 x x1 d5) (bX5_mixedDots_15 x x1 d5 d15 y3_15))))) := hg
            refine lv_iload hC.1 hC.2.1 dX5_mixedDots_15 (lv_at hl 3 rfl) ?_
            refine lv_bipush (v := 7) hC.1 hC.2.1 dX5_mixedDots_17 (by decide +kernel) ?_
            refine lv_icmp_ge (tgt := 45) hC.1 hC.2.1 dX5_mixedDots_19 (by decide) (fun k19 => ?_) (fun k19 => ?_)
            · exact absurd k19 (nI_ge (a := d15) (b := 7) (by omega) (by omega))
            · refine lv_lload_n hC.1 hC.2.1 dX5_mixedDots_22 rfl (lv_at hl 1 rfl) ?_
              refine lv_aload_n hC.1 hC.2.1 dX5_mixedDots_23 rfl (lv_at hl 0 rfl) ?_
              refine gf (v := .ref (a 5)) hC fwX5 hKN hP 0 rfl rfl 0 (by decide) rfl wd_203 rfl dX5_mixedDots_24 ?_
              refine lv_iload hC.1 hC.2.1 dX5_mixedDots_27 (lv_at hl 2 rfl) ?_
              refine lv_iload hC.1 hC.2.1 dX5_mixedDots_29 (lv_at hl 3 rfl) ?_
              refine runP (rV (B := fun U H => PW G (stW G (sA a 0) (x 0)) H) (As := [.int (nI d5), .int (nI d15)]) (rest := [.long y3_15]) hC mwX2_numberOfDot (c_X2_numberOfDot l G (sA a 0) (x 0) (nI d5) (nI d15)) iwX2_numberOfDot wd_428 ⟨rfl, rfl⟩ ⟨Nat.le_of_ble_eq_true rfl, Nat.le_of_ble_eq_true rfl⟩ (stb_h (fun H => PW G (stW G (sA a 0) (x 0)) H)) hKN (hd_st0 (x := x) hP) (va_recv hKN.k (hd_st0 (x := x) hP) (ci := 2) (q0 := 0) rfl rfl) rfl hl.1 rfl (Nat.le_of_ble_eq_true rfl) dX5_mixedDots_31 ⟨Nat.zero_le _, Nat.zero_le _⟩) ?_
              refine lv_i2l (v := (fX2_numberOfDot (x 0) (nI d5) (nI d15)).toInt64) hC.1 hC.2.1 dX5_mixedDots_34 rfl ?_
              refine runP (rS (B := fun U H => True) (As := [.long y3_15, .long ((fX2_numberOfDot (x 0) (nI d5) (nI d15)).toInt64)]) (rest := []) hC mwX5_mixed (c_X5_mixed l G y3_15 ((fX2_numberOfDot (x 0) (nI d5) (nI d15)).toInt64)) wd_421 wd_420 ⟨rfl, rfl⟩ ⟨Nat.le_of_ble_eq_true rfl, Nat.le_of_ble_eq_true rfl⟩ (fun _ _ _ _ h => h) hKN trivial rfl hl.1 rfl (Nat.le_of_ble_eq_true rfl) dX5_mixedDots_35 ⟨Nat.zero_le _, Nat.zero_le _⟩) ?_
              refine lv_lstore_n (lv' := [(3, .long (fX5_mixed y3_15 ((fX2_numberOfDot (x 0) (nI d5) (nI d15)).toInt64))), (0, .ref (a 0)), (5, .int (nI d5)), (6, .int (nI d15))]) hC.1 hC.2.1 dX5_mixedDots_38 rfl hl (by decide) rfl (fun ls hl => ?_)
              refine lv_iinc (v := nI (d15 + 1)) (lv' := [(6, .int (nI (d15 + 1))), (3, .long (fX5_mixed y3_15 ((fX2_numberOfDot (x 0) (nI d5) (nI d15)).toInt64))), (0, .ref (a 0)), (5, .int (nI d5))]) hC.1 hC.2.1 dX5_mixedDots_39 hl (k := 3) rfl (nI_1 _) (by decide) rfl (fun ls hl => ?_)
              refine lv_goto (tgt := 15) hC.1 hC.2.1 dX5_mixedDots_42 (by decide) ?_
              have e_3 : bX5_mixedDots_15 x x1 d5 d15 y3_15 = fX5_mixed y3_15 ((fX2_numberOfDot (x 0) (nI d5) (nI d15)).toInt64) := by delta bX5_mixedDots_15; exact rfl
              have hg : fX5_mixedDots x x1 = (tX5_mixedDots_5 x x1 (lpF n5 (d5 + 1) (bX5_mixedDots_5 x x1) (tX5_mixedDots_15 x x1 d5 (lpF n15 (d15 + 1) (bX5_mixedDots_15 x x1 d5) (fX5_mixed y3_15 ((fX2_numberOfDot (x 0) (nI d5) (nI d15)).toInt64)))))) := by have e2 := congrArg (fun z => (tX5_mixedDots_5 x x1 (lpF n5 (d5 + 1) (bX5_mixedDots_5 x x1) (tX5_mixedDots_15 x x1 d5 (lpF n15 (d15 + 1) (bX5_mixedDots_15 x x1 d5) z))))) e_3; exact hg.trans e2
              exact ih (d15 + 1) (fX5_mixed y3_15 ((fX2_numberOfDot (x 0) (nI d5) (nI d15)).toInt64)) (by omega) hg _ (lv_sub hl [2, 1, 3, 0] rfl)
        have e_4 : bX5_mixedDots_5 x x1 d5 y3_5 = tX5_mixedDots_15 x x1 d5 (lpF 7 0 (bX5_mixedDots_15 x x1 d5) y3_5) := by delta bX5_mixedDots_5; exact rfl
        have hg : fX5_mixedDots x x1 = (tX5_mixedDots_5 x x1 (lpF n5 (d5 + 1) (bX5_mixedDots_5 x x1) (tX5_mixedDots_15 x x1 d5 (lpF 7 0 (bX5_mixedDots_15 x x1 d5) y3_5)))) := by have e2 := congrArg (fun z => (tX5_mixedDots_5 x x1 (lpF n5 (d5 + 1) (bX5_mixedDots_5 x x1) z))) e_4; exact hg.trans e2
        exact L15  7 0 y3_5 (by omega) hg _ (lv_sub hl [1, 2, 3, 0] rfl)
  have e_5 : fX5_mixedDots x x1 = tX5_mixedDots_5 x x1 (lpF 24 0 (bX5_mixedDots_5 x x1) x1) := by delta fX5_mixedDots; exact rfl
  have hg : fX5_mixedDots x x1 = (tX5_mixedDots_5 x x1 (lpF 24 0 (bX5_mixedDots_5 x x1) x1)) := by have e2 := congrArg (fun z => z) e_5; exact hg.trans e2
  exact L5  24 0 x1 (by omega) hg _ (lv_sub hl [2, 1, 0] rfl)

theorem dX5_mixedStrip_0 : decode cX5_mixedStrip 0 = .ok (.lload_n 1, 1) := by decide +kernel
theorem dX5_mixedStrip_1 : decode cX5_mixedStrip 1 = .ok (.lstore_n 3, 1) := by decide +kernel
theorem dX5_mixedStrip_2 : decode cX5_mixedStrip 2 = .ok (.aload_n 0, 1) := by decide +kernel
theorem dX5_mixedStrip_3 : decode cX5_mixedStrip 3 = .ok (.getfield 10, 3) := by decide +kernel
theorem dX5_mixedStrip_6 : decode cX5_mixedStrip 6 = .ok (.getfield 97, 3) := by decide +kernel
theorem dX5_mixedStrip_9 : decode cX5_mixedStrip 9 = .ok (.astore 5, 2) := by decide +kernel
theorem dX5_mixedStrip_11 : decode cX5_mixedStrip 11 = .ok (.iconst 0, 1) := by decide +kernel
theorem dX5_mixedStrip_12 : decode cX5_mixedStrip 12 = .ok (.istore 6, 2) := by decide +kernel
theorem dX5_mixedStrip_14 : decode cX5_mixedStrip 14 = .ok (.iload 6, 2) := by decide +kernel
theorem dX5_mixedStrip_16 : decode cX5_mixedStrip 16 = .ok (.aload 5, 2) := by decide +kernel
theorem dX5_mixedStrip_18 : decode cX5_mixedStrip 18 = .ok (.getfield 101, 3) := by decide +kernel
theorem dX5_mixedStrip_21 : decode cX5_mixedStrip 21 = .ok (.if_icmp .ge 79, 3) := by decide +kernel
theorem dX5_mixedStrip_24 : decode cX5_mixedStrip 24 = .ok (.iconst 0, 1) := by decide +kernel
theorem dX5_mixedStrip_25 : decode cX5_mixedStrip 25 = .ok (.istore 7, 2) := by decide +kernel
theorem dX5_mixedStrip_27 : decode cX5_mixedStrip 27 = .ok (.iload 7, 2) := by decide +kernel
theorem dX5_mixedStrip_29 : decode cX5_mixedStrip 29 = .ok (.iconst 3, 1) := by decide +kernel
theorem dX5_mixedStrip_30 : decode cX5_mixedStrip 30 = .ok (.if_icmp .ge 24, 3) := by decide +kernel
theorem dX5_mixedStrip_33 : decode cX5_mixedStrip 33 = .ok (.lload_n 3, 1) := by decide +kernel
theorem dX5_mixedStrip_34 : decode cX5_mixedStrip 34 = .ok (.aload 5, 2) := by decide +kernel
theorem dX5_mixedStrip_36 : decode cX5_mixedStrip 36 = .ok (.iload 6, 2) := by decide +kernel
theorem dX5_mixedStrip_38 : decode cX5_mixedStrip 38 = .ok (.iload 7, 2) := by decide +kernel
theorem dX5_mixedStrip_40 : decode cX5_mixedStrip 40 = .ok (.invokevirtual 203, 3) := by decide +kernel
theorem dX5_mixedStrip_43 : decode cX5_mixedStrip 43 = .ok (.i2l, 1) := by decide +kernel
theorem dX5_mixedStrip_44 : decode cX5_mixedStrip 44 = .ok (.invokestatic 238, 3) := by decide +kernel
theorem dX5_mixedStrip_47 : decode cX5_mixedStrip 47 = .ok (.lstore_n 3, 1) := by decide +kernel
theorem dX5_mixedStrip_48 : decode cX5_mixedStrip 48 = .ok (.iinc 7 1, 3) := by decide +kernel
theorem dX5_mixedStrip_51 : decode cX5_mixedStrip 51 = .ok (.goto (-24), 3) := by decide +kernel
theorem dX5_mixedStrip_54 : decode cX5_mixedStrip 54 = .ok (.aload 5, 2) := by decide +kernel
theorem dX5_mixedStrip_56 : decode cX5_mixedStrip 56 = .ok (.iload 6, 2) := by decide +kernel
theorem dX5_mixedStrip_58 : decode cX5_mixedStrip 58 = .ok (.invokevirtual 299, 3) := by decide +kernel
theorem dX5_mixedStrip_61 : decode cX5_mixedStrip 61 = .ok (.istore 7, 2) := by decide +kernel
theorem dX5_mixedStrip_63 : decode cX5_mixedStrip 63 = .ok (.iconst 0, 1) := by decide +kernel
theorem dX5_mixedStrip_64 : decode cX5_mixedStrip 64 = .ok (.istore 8, 2) := by decide +kernel
theorem dX5_mixedStrip_66 : decode cX5_mixedStrip 66 = .ok (.iload 8, 2) := by decide +kernel
theorem dX5_mixedStrip_68 : decode cX5_mixedStrip 68 = .ok (.iload 7, 2) := by decide +kernel
theorem dX5_mixedStrip_70 : decode cX5_mixedStrip 70 = .ok (.if_icmp .ge 24, 3) := by decide +kernel
theorem dX5_mixedStrip_73 : decode cX5_mixedStrip 73 = .ok (.lload_n 3, 1) := by decide +kernel
theorem dX5_mixedStrip_74 : decode cX5_mixedStrip 74 = .ok (.aload 5, 2) := by decide +kernel
theorem dX5_mixedStrip_76 : decode cX5_mixedStrip 76 = .ok (.iload 6, 2) := by decide +kernel
theorem dX5_mixedStrip_78 : decode cX5_mixedStrip 78 = .ok (.iload 8, 2) := by decide +kernel
theorem dX5_mixedStrip_80 : decode cX5_mixedStrip 80 = .ok (.invokevirtual 175, 3) := by decide +kernel
theorem dX5_mixedStrip_83 : decode cX5_mixedStrip 83 = .ok (.i2l, 1) := by decide +kernel
theorem dX5_mixedStrip_84 : decode cX5_mixedStrip 84 = .ok (.invokestatic 238, 3) := by decide +kernel
theorem dX5_mixedStrip_87 : decode cX5_mixedStrip 87 = .ok (.lstore_n 3, 1) := by decide +kernel
theorem dX5_mixedStrip_88 : decode cX5_mixedStrip 88 = .ok (.iinc 8 1, 3) := by decide +kernel
theorem dX5_mixedStrip_91 : decode cX5_mixedStrip 91 = .ok (.goto (-25), 3) := by decide +kernel
theorem dX5_mixedStrip_94 : decode cX5_mixedStrip 94 = .ok (.iinc 6 1, 3) := by decide +kernel
theorem dX5_mixedStrip_97 : decode cX5_mixedStrip 97 = .ok (.goto (-83), 3) := by decide +kernel
theorem dX5_mixedStrip_100 : decode cX5_mixedStrip 100 = .ok (.lload_n 3, 1) := by decide +kernel
theorem dX5_mixedStrip_101 : decode cX5_mixedStrip 101 = .ok (.lreturn, 1) := by decide +kernel
set_option maxHeartbeats 1000000 in
set_option maxRecDepth 100000 in
theorem c_X5_mixedStrip (l : Launch) (G : GT) (a : Nat → Nat) (b : Nat → Nat) (x : HV) (x1 : Int64) : Met l yX5_mixedStrip (Cond.code yX5_mixedStrip cX5_mixedStrip 9 (some .long) :: bigW) ({ frames := 3, cells := 0, slots := 0, locals := 67 }) (BP G [.ref (a 0), .long x1] (fun U H => PW G (hdW G a b x) H)) (QP (.long (fX5_mixedStrip x x1))) 0 0 (fun _ => False) := by
  refine met_of (by decide) (Nat.le_of_ble_eq_true rfl) ?_
  intro p e s m below meth c ls hC hKN hB0 hl
  have hP := hB0
  have hl : lv_has ls 9 [(0, .ref (a 0)), (1, .long x1)] := hl
  have hg : fX5_mixedStrip x x1 = fX5_mixedStrip x x1 := rfl
  refine lv_lload_n hC.1 hC.2.1 dX5_mixedStrip_0 rfl (lv_at hl 1 rfl) ?_
  refine lv_lstore_n (lv' := [(3, .long x1), (0, .ref (a 0)), (1, .long x1)]) hC.1 hC.2.1 dX5_mixedStrip_1 rfl hl (by decide) rfl (fun ls hl => ?_)
  refine lv_aload_n hC.1 hC.2.1 dX5_mixedStrip_2 rfl (lv_at hl 1 rfl) ?_
  refine gf (v := .ref (a 5)) hC fwX5 hKN hP 0 rfl rfl 0 (by decide) rfl wd_203 rfl dX5_mixedStrip_3 ?_
  refine gfN (v := .ref (sA a 0 4)) hC fwX2 hKN hP 5 rfl rfl 3 (by decide) rfl (nf_15 hKN) rfl dX5_mixedStrip_6 ?_
  refine lv_astore (lv' := [(5, .ref (sA a 0 4)), (3, .long x1), (0, .ref (a 0)), (1, .long x1)]) hC.1 hC.2.1 dX5_mixedStrip_9 hl (by decide) rfl (fun ls hl => ?_)
  refine lv_iconst (v := 0) hC.1 hC.2.1 dX5_mixedStrip_11 (by decide) ?_
  refine lv_istore (lv' := [(6, .int 0), (5, .ref (sA a 0 4)), (3, .long x1), (0, .ref (a 0)), (1, .long x1)]) hC.1 hC.2.1 dX5_mixedStrip_12 hl (by decide) rfl (fun ls hl => ?_)
  have A14 : ∀ (y3_14 : Int64), fX5_mixedStrip x x1 = (tX5_mixedStrip_14 x x1 y3_14) → ∀ (ls : Array Slot), lv_has ls 9 [(3, .long y3_14)] → W p l e ({ frames := 3, cells := 0, slots := 0, locals := 67 }) s m ([.ref (a 0), .long x1] : List Value).toArray below meth c s.heap [] 0 0 (MQ below (QP (.long (fX5_mixedStrip x x1))) ([.ref (a 0), .long x1] : List Value).toArray s 0 0 (fun _ => False)) (F0 m 100 ls []) := by
    intro  y3_14 hg ls hl
    refine lv_lload_n hC.1 hC.2.1 dX5_mixedStrip_100 rfl (lv_at hl 0 rfl) ?_
    have e_1 : tX5_mixedStrip_14 x x1 y3_14 = y3_14 := by delta tX5_mixedStrip_14; exact rfl
    have hg : fX5_mixedStrip x x1 = y3_14 := by have e2 := congrArg (fun z => z) e_1; exact hg.trans e2
    exact eP_l hC (congrArg Value.long hg) dX5_mixedStrip_101
  have L14 : ∀ (n14 d14 : Nat), ∀ (y3_14 : Int64), d14 + n14 = ((x 0 8 0).toNatClampNeg) → fX5_mixedStrip x x1 = (tX5_mixedStrip_14 x x1 (lpF n14 d14 (bX5_mixedStrip_14 x x1) y3_14)) → ∀ (ls : Array Slot), lv_has ls 9 [(3, .long y3_14), (5, .ref (sA a 0 4)), (6, .int (nI d14))] → W p l e ({ frames := 3, cells := 0, slots := 0, locals := 67 }) s m ([.ref (a 0), .long x1] : List Value).toArray below meth c s.heap [] 0 0 (MQ below (QP (.long (fX5_mixedStrip x x1))) ([.ref (a 0), .long x1] : List Value).toArray s 0 0 (fun _ => False)) (F0 m 14 ls []) := by
    intro n14
    induction n14 with
    | zero =>
      intro d14 y3_14 hd hg ls hl
      refine lv_iload hC.1 hC.2.1 dX5_mixedStrip_14 (lv_at hl 2 rfl) ?_
      refine lv_aload hC.1 hC.2.1 dX5_mixedStrip_16 (lv_at hl 1 rfl) ?_
      refine gfN (v := .int ((x 0) 8 0)) hC fwX3 hKN hP 9 rfl rfl 3 (by decide) rfl (nf_2 hKN) rfl dX5_mixedStrip_18 ?_
      refine lv_icmp_ge (tgt := 100) hC.1 hC.2.1 dX5_mixedStrip_21 (by decide) (fun k21 => ?_) (fun k21 => ?_)
      · exact A14  y3_14 hg _ (lv_sub hl [0] rfl)
      · exact absurd (cl_le (by omega) (by have := cl_lt (x 0 8 0); omega)) k21
    | succ n14 ih =>
      intro d14 y3_14 hd hg ls hl
      have hg : fX5_mixedStrip x x1 = (tX5_mixedStrip_14 x x1 (lpF n14 (d14 + 1) (bX5_mixedStrip_14 x x1) (bX5_mixedStrip_14 x x1 d14 y3_14))) := hg
      refine lv_iload hC.1 hC.2.1 dX5_mixedStrip_14 (lv_at hl 2 rfl) ?_
      refine lv_aload hC.1 hC.2.1 dX5_mixedStrip_16 (lv_at hl 1 rfl) ?_
      refine gfN (v := .int ((x 0) 8 0)) hC fwX3 hKN hP 9 rfl rfl 3 (by decide) rfl (nf_2 hKN) rfl dX5_mixedStrip_18 ?_
      refine lv_icmp_ge (tgt := 100) hC.1 hC.2.1 dX5_mixedStrip_21 (by decide) (fun k21 => ?_) (fun k21 => ?_)
      · exact absurd k21 (cl_nle (by omega))
      · refine lv_iconst (v := 0) hC.1 hC.2.1 dX5_mixedStrip_24 (by decide) ?_
        refine lv_istore (lv' := [(7, .int 0), (3, .long y3_14), (5, .ref (sA a 0 4)), (6, .int (nI d14))]) hC.1 hC.2.1 dX5_mixedStrip_25 hl (by decide) rfl (fun ls hl => ?_)
        have A27 : ∀ (y3_27 : Int64), fX5_mixedStrip x x1 = (tX5_mixedStrip_14 x x1 (lpF n14 (d14 + 1) (bX5_mixedStrip_14 x x1) (tX5_mixedStrip_27 x x1 d14 y3_27))) → ∀ (ls : Array Slot), lv_has ls 9 [(3, .long y3_27), (5, .ref (sA a 0 4)), (6, .int (nI d14))] → W p l e ({ frames := 3, cells := 0, slots := 0, locals := 67 }) s m ([.ref (a 0), .long x1] : List Value).toArray below meth c s.heap [] 0 0 (MQ below (QP (.long (fX5_mixedStrip x x1))) ([.ref (a 0), .long x1] : List Value).toArray s 0 0 (fun _ => False)) (F0 m 54 ls []) := by
          intro  y3_27 hg ls hl
          refine lv_aload hC.1 hC.2.1 dX5_mixedStrip_54 (lv_at hl 1 rfl) ?_
          refine lv_iload hC.1 hC.2.1 dX5_mixedStrip_56 (lv_at hl 2 rfl) ?_
          refine runP (rV (B := fun U H => PW G (stW G (sA a 0) (x 0)) H) (As := [.int (nI d14)]) (rest := []) hC mwX3_textLength (c_X3_textLength l G (sA a 0) (x 0) (nI d14)) iwX3_textLength wd_466 ⟨rfl, rfl⟩ ⟨Nat.le_of_ble_eq_true rfl, Nat.le_of_ble_eq_true rfl⟩ (stb_h (fun H => PW G (stW G (sA a 0) (x 0)) H)) hKN (hd_st0 (x := x) hP) (va_recv hKN.k (hd_st0 (x := x) hP) (ci := 3) (q0 := 4) rfl rfl) rfl hl.1 rfl (Nat.le_of_ble_eq_true rfl) dX5_mixedStrip_58 ⟨Nat.zero_le _, Nat.zero_le _⟩) ?_
          refine lv_istore (lv' := [(7, .int (fX3_textLength (x 0) (nI d14))), (3, .long y3_27), (5, .ref (sA a 0 4)), (6, .int (nI d14))]) hC.1 hC.2.1 dX5_mixedStrip_61 hl (by decide) rfl (fun ls hl => ?_)
          refine lv_iconst (v := 0) hC.1 hC.2.1 dX5_mixedStrip_63 (by decide) ?_
          refine lv_istore (lv' := [(8, .int 0), (7, .int (fX3_textLength (x 0) (nI d14))), (3, .long y3_27), (5, .ref (sA a 0 4)), (6, .int (nI d14))]) hC.1 hC.2.1 dX5_mixedStrip_64 hl (by decide) rfl (fun ls hl => ?_)
          have A66 : ∀ (y7_66 : Int32), ∀ (y3_66 : Int64), fX5_mixedStrip x x1 = (tX5_mixedStrip_14 x x1 (lpF n14 (d14 + 1) (bX5_mixedStrip_14 x x1) (tX5_mixedStrip_66 x x1 d14 y7_66 y3_66))) → ∀ (ls : Array Slot), lv_has ls 9 [(3, .long y3_66), (5, .ref (sA a 0 4)), (6, .int (nI d14))] → W p l e ({ frames := 3, cells := 0, slots := 0, locals := 67 }) s m ([.ref (a 0), .long x1] : List Value).toArray below meth c s.heap [] 0 0 (MQ below (QP (.long (fX5_mixedStrip x x1))) ([.ref (a 0), .long x1] : List Value).toArray s 0 0 (fun _ => False)) (F0 m 94 ls []) := by
            intro y7_66 y3_66 hg ls hl
            refine lv_iinc (v := nI (d14 + 1)) (lv' := [(6, .int (nI (d14 + 1))), (3, .long y3_66), (5, .ref (sA a 0 4))]) hC.1 hC.2.1 dX5_mixedStrip_94 hl (k := 2) rfl (nI_1 _) (by decide) rfl (fun ls hl => ?_)
            refine lv_goto (tgt := 14) hC.1 hC.2.1 dX5_mixedStrip_97 (by decide) ?_
            have e_2 : tX5_mixedStrip_66 x x1 d14 y7_66 y3_66 = y3_66 := by delta tX5_mixedStrip_66; exact rfl
            have hg : fX5_mixedStrip x x1 = (tX5_mixedStrip_14 x x1 (lpF n14 (d14 + 1) (bX5_mixedStrip_14 x x1) y3_66)) := by have e2 := congrArg (fun z => (tX5_mixedStrip_14 x x1 (lpF n14 (d14 + 1) (bX5_mixedStrip_14 x x1) z))) e_2; exact hg.trans e2
            exact ih (d14 + 1) y3_66 (by omega) hg _ (lv_sub hl [1, 2, 0] rfl)
          have L66 : ∀ (y7_66 : Int32), ∀ (n66 d66 : Nat), ∀ (y3_66 : Int64), d66 + n66 = y7_66.toNatClampNeg → fX5_mixedStrip x x1 = (tX5_mixedStrip_14 x x1 (lpF n14 (d14 + 1) (bX5_mixedStrip_14 x x1) (tX5_mixedStrip_66 x x1 d14 y7_66 (lpF n66 d66 (bX5_mixedStrip_66 x x1 d14 y7_66) y3_66)))) → ∀ (ls : Array Slot), lv_has ls 9 [(3, .long y3_66), (5, .ref (sA a 0 4)), (6, .int (nI d14)), (7, .int y7_66), (8, .int (nI d66))] → W p l e ({ frames := 3, cells := 0, slots := 0, locals := 67 }) s m ([.ref (a 0), .long x1] : List Value).toArray below meth c s.heap [] 0 0 (MQ below (QP (.long (fX5_mixedStrip x x1))) ([.ref (a 0), .long x1] : List Value).toArray s 0 0 (fun _ => False)) (F0 m 66 ls []) := by
            intro y7_66
            intro n66
            induction n66 with
            | zero =>
              intro d66 y3_66 hd hg ls hl
              refine lv_iload hC.1 hC.2.1 dX5_mixedStrip_66 (lv_at hl 4 rfl) ?_
              refine lv_iload hC.1 hC.2.1 dX5_mixedStrip_68 (lv_at hl 3 rfl) ?_
              refine lv_icmp_ge (tgt := 94) hC.1 hC.2.1 dX5_mixedStrip_70 (by decide) (fun k70 => ?_) (fun k70 => ?_)
              · exact A66 y7_66 y3_66 hg _ (lv_sub hl [0, 1, 2] rfl)
              · exact absurd (cl_le (by omega) (by have := cl_lt y7_66; omega)) k70
            | succ n66 ih =>
              intro d66 y3_66 hd hg ls hl
              have hg : fX5_mixedStrip x x1 = (tX5_mixedStrip_14 x x1 (lpF n14 (d14 + 1) (bX5_mixedStrip_14 x x1) (tX5_mixedStrip_66 x x1 d14 y7_66 (lpF n66 (d66 + 1) (bX5_mixedStrip_66 x x1 d14 y7_66) (bX5_mixedStrip_66 x x1 d14 y7_66 d66 y3_66))))) := hg
              refine lv_iload hC.1 hC.2.1 dX5_mixedStrip_66 (lv_at hl 4 rfl) ?_
              refine lv_iload hC.1 hC.2.1 dX5_mixedStrip_68 (lv_at hl 3 rfl) ?_
              refine lv_icmp_ge (tgt := 94) hC.1 hC.2.1 dX5_mixedStrip_70 (by decide) (fun k70 => ?_) (fun k70 => ?_)
              · exact absurd k70 (cl_nle (by omega))
              · refine lv_lload_n hC.1 hC.2.1 dX5_mixedStrip_73 rfl (lv_at hl 0 rfl) ?_
                refine lv_aload hC.1 hC.2.1 dX5_mixedStrip_74 (lv_at hl 1 rfl) ?_
                refine lv_iload hC.1 hC.2.1 dX5_mixedStrip_76 (lv_at hl 2 rfl) ?_
                refine lv_iload hC.1 hC.2.1 dX5_mixedStrip_78 (lv_at hl 4 rfl) ?_
                refine runP (rV (B := fun U H => PW G (stW G (sA a 0) (x 0)) H) (As := [.int (nI d14), .int (nI d66)]) (rest := [.long y3_66]) hC mwX3_sign (c_X3_sign l G (sA a 0) (x 0) (nI d14) (nI d66)) iwX3_sign wd_471 ⟨rfl, rfl⟩ ⟨Nat.le_of_ble_eq_true rfl, Nat.le_of_ble_eq_true rfl⟩ (stb_h (fun H => PW G (stW G (sA a 0) (x 0)) H)) hKN (hd_st0 (x := x) hP) (va_recv hKN.k (hd_st0 (x := x) hP) (ci := 3) (q0 := 4) rfl rfl) rfl hl.1 rfl (Nat.le_of_ble_eq_true rfl) dX5_mixedStrip_80 ⟨Nat.zero_le _, Nat.zero_le _⟩) ?_
                refine lv_i2l (v := (fX3_sign (x 0) (nI d14) (nI d66)).toInt64) hC.1 hC.2.1 dX5_mixedStrip_83 rfl ?_
                refine runP (rS (B := fun U H => True) (As := [.long y3_66, .long ((fX3_sign (x 0) (nI d14) (nI d66)).toInt64)]) (rest := []) hC mwX5_mixed (c_X5_mixed l G y3_66 ((fX3_sign (x 0) (nI d14) (nI d66)).toInt64)) wd_421 wd_420 ⟨rfl, rfl⟩ ⟨Nat.le_of_ble_eq_true rfl, Nat.le_of_ble_eq_true rfl⟩ (fun _ _ _ _ h => h) hKN trivial rfl hl.1 rfl (Nat.le_of_ble_eq_true rfl) dX5_mixedStrip_84 ⟨Nat.zero_le _, Nat.zero_le _⟩) ?_
                refine lv_lstore_n (lv' := [(3, .long (fX5_mixed y3_66 ((fX3_sign (x 0) (nI d14) (nI d66)).toInt64))), (5, .ref (sA a 0 4)), (6, .int (nI d14)), (7, .int y7_66), (8, .int (nI d66))]) hC.1 hC.2.1 dX5_mixedStrip_87 rfl hl (by decide) rfl (fun ls hl => ?_)
                refine lv_iinc (v := nI (d66 + 1)) (lv' := [(8, .int (nI (d66 + 1))), (3, .long (fX5_mixed y3_66 ((fX3_sign (x 0) (nI d14) (nI d66)).toInt64))), (5, .ref (sA a 0 4)), (6, .int (nI d14)), (7, .int y7_66)]) hC.1 hC.2.1 dX5_mixedStrip_88 hl (k := 4) rfl (nI_1 _) (by decide) rfl (fun ls hl => ?_)
                refine lv_goto (tgt := 66) hC.1 hC.2.1 dX5_mixedStrip_91 (by decide) ?_
                have e_3 : bX5_mixedStrip_66 x x1 d14 y7_66 d66 y3_66 = fX5_mixed y3_66 ((fX3_sign (x 0) (nI d14) (nI d66)).toInt64) := by delta bX5_mixedStrip_66; exact rfl
                have hg : fX5_mixedStrip x x1 = (tX5_mixedStrip_14 x x1 (lpF n14 (d14 + 1) (bX5_mixedStrip_14 x x1) (tX5_mixedStrip_66 x x1 d14 y7_66 (lpF n66 (d66 + 1) (bX5_mixedStrip_66 x x1 d14 y7_66) (fX5_mixed y3_66 ((fX3_sign (x 0) (nI d14) (nI d66)).toInt64)))))) := by have e2 := congrArg (fun z => (tX5_mixedStrip_14 x x1 (lpF n14 (d14 + 1) (bX5_mixedStrip_14 x x1) (tX5_mixedStrip_66 x x1 d14 y7_66 (lpF n66 (d66 + 1) (bX5_mixedStrip_66 x x1 d14 y7_66) z))))) e_3; exact hg.trans e2
                exact ih (d66 + 1) (fX5_mixed y3_66 ((fX3_sign (x 0) (nI d14) (nI d66)).toInt64)) (by omega) hg _ (lv_sub hl [1, 2, 3, 4, 0] rfl)
          have e_4 : tX5_mixedStrip_27 x x1 d14 y3_27 = tX5_mixedStrip_66 x x1 d14 (fX3_textLength (x 0) (nI d14)) (lpF ((fX3_textLength (x 0) (nI d14)).toNatClampNeg) 0 (bX5_mixedStrip_66 x x1 d14 (fX3_textLength (x 0) (nI d14))) y3_27) := by delta tX5_mixedStrip_27; exact rfl
          have hg : fX5_mixedStrip x x1 = (tX5_mixedStrip_14 x x1 (lpF n14 (d14 + 1) (bX5_mixedStrip_14 x x1) (tX5_mixedStrip_66 x x1 d14 (fX3_textLength (x 0) (nI d14)) (lpF ((fX3_textLength (x 0) (nI d14)).toNatClampNeg) 0 (bX5_mixedStrip_66 x x1 d14 (fX3_textLength (x 0) (nI d14))) y3_27)))) := by have e2 := congrArg (fun z => (tX5_mixedStrip_14 x x1 (lpF n14 (d14 + 1) (bX5_mixedStrip_14 x x1) z))) e_4; exact hg.trans e2
          exact L66 (fX3_textLength (x 0) (nI d14)) ((fX3_textLength (x 0) (nI d14)).toNatClampNeg) 0 y3_27 (by omega) hg _ (lv_sub hl [2, 3, 4, 1, 0] rfl)
        have L27 : ∀ (n27 d27 : Nat), ∀ (y3_27 : Int64), d27 + n27 = 3 → fX5_mixedStrip x x1 = (tX5_mixedStrip_14 x x1 (lpF n14 (d14 + 1) (bX5_mixedStrip_14 x x1) (tX5_mixedStrip_27 x x1 d14 (lpF n27 d27 (bX5_mixedStrip_27 x x1 d14) y3_27)))) → ∀ (ls : Array Slot), lv_has ls 9 [(3, .long y3_27), (5, .ref (sA a 0 4)), (6, .int (nI d14)), (7, .int (nI d27))] → W p l e ({ frames := 3, cells := 0, slots := 0, locals := 67 }) s m ([.ref (a 0), .long x1] : List Value).toArray below meth c s.heap [] 0 0 (MQ below (QP (.long (fX5_mixedStrip x x1))) ([.ref (a 0), .long x1] : List Value).toArray s 0 0 (fun _ => False)) (F0 m 27 ls []) := by
          intro n27
          induction n27 with
          | zero =>
            intro d27 y3_27 hd hg ls hl
            refine lv_iload hC.1 hC.2.1 dX5_mixedStrip_27 (lv_at hl 3 rfl) ?_
            refine lv_iconst (v := 3) hC.1 hC.2.1 dX5_mixedStrip_29 (by decide) ?_
            refine lv_icmp_ge (tgt := 54) hC.1 hC.2.1 dX5_mixedStrip_30 (by decide) (fun k30 => ?_) (fun k30 => ?_)
            · exact A27  y3_27 hg _ (lv_sub hl [0, 1, 2] rfl)
            · exact absurd (nI_le (a := 3) (b := d27) (by omega) (by omega)) k30
          | succ n27 ih =>
            intro d27 y3_27 hd hg ls hl
            have hg : fX5_mixedStrip x x1 = (tX5_mixedStrip_14 x x1 (lpF n14 (d14 + 1) (bX5_mixedStrip_14 x x1) (tX5_mixedStrip_27 x x1 d14 (lpF n27 (d27 + 1) (bX5_mixedStrip_27 x x1 d14) (bX5_mixedStrip_27 x x1 d14 d27 y3_27))))) := hg
            refine lv_iload hC.1 hC.2.1 dX5_mixedStrip_27 (lv_at hl 3 rfl) ?_
            refine lv_iconst (v := 3) hC.1 hC.2.1 dX5_mixedStrip_29 (by decide) ?_
            refine lv_icmp_ge (tgt := 54) hC.1 hC.2.1 dX5_mixedStrip_30 (by decide) (fun k30 => ?_) (fun k30 => ?_)
            · exact absurd k30 (nI_ge (a := d27) (b := 3) (by omega) (by omega))
            · refine lv_lload_n hC.1 hC.2.1 dX5_mixedStrip_33 rfl (lv_at hl 0 rfl) ?_
              refine lv_aload hC.1 hC.2.1 dX5_mixedStrip_34 (lv_at hl 1 rfl) ?_
              refine lv_iload hC.1 hC.2.1 dX5_mixedStrip_36 (lv_at hl 2 rfl) ?_
              refine lv_iload hC.1 hC.2.1 dX5_mixedStrip_38 (lv_at hl 3 rfl) ?_
              refine runP (rV (B := fun U H => PW G (stW G (sA a 0) (x 0)) H) (As := [.int (nI d14), .int (nI d27)]) (rest := [.long y3_27]) hC mwX3_numberOfLine (c_X3_numberOfLine l G (sA a 0) (x 0) (nI d14) (nI d27)) iwX3_numberOfLine wd_461 ⟨rfl, rfl⟩ ⟨Nat.le_of_ble_eq_true rfl, Nat.le_of_ble_eq_true rfl⟩ (stb_h (fun H => PW G (stW G (sA a 0) (x 0)) H)) hKN (hd_st0 (x := x) hP) (va_recv hKN.k (hd_st0 (x := x) hP) (ci := 3) (q0 := 4) rfl rfl) rfl hl.1 rfl (Nat.le_of_ble_eq_true rfl) dX5_mixedStrip_40 ⟨Nat.zero_le _, Nat.zero_le _⟩) ?_
              refine lv_i2l (v := (fX3_numberOfLine (x 0) (nI d14) (nI d27)).toInt64) hC.1 hC.2.1 dX5_mixedStrip_43 rfl ?_
              refine runP (rS (B := fun U H => True) (As := [.long y3_27, .long ((fX3_numberOfLine (x 0) (nI d14) (nI d27)).toInt64)]) (rest := []) hC mwX5_mixed (c_X5_mixed l G y3_27 ((fX3_numberOfLine (x 0) (nI d14) (nI d27)).toInt64)) wd_421 wd_420 ⟨rfl, rfl⟩ ⟨Nat.le_of_ble_eq_true rfl, Nat.le_of_ble_eq_true rfl⟩ (fun _ _ _ _ h => h) hKN trivial rfl hl.1 rfl (Nat.le_of_ble_eq_true rfl) dX5_mixedStrip_44 ⟨Nat.zero_le _, Nat.zero_le _⟩) ?_
              refine lv_lstore_n (lv' := [(3, .long (fX5_mixed y3_27 ((fX3_numberOfLine (x 0) (nI d14) (nI d27)).toInt64))), (5, .ref (sA a 0 4)), (6, .int (nI d14)), (7, .int (nI d27))]) hC.1 hC.2.1 dX5_mixedStrip_47 rfl hl (by decide) rfl (fun ls hl => ?_)
              refine lv_iinc (v := nI (d27 + 1)) (lv' := [(7, .int (nI (d27 + 1))), (3, .long (fX5_mixed y3_27 ((fX3_numberOfLine (x 0) (nI d14) (nI d27)).toInt64))), (5, .ref (sA a 0 4)), (6, .int (nI d14))]) hC.1 hC.2.1 dX5_mixedStrip_48 hl (k := 3) rfl (nI_1 _) (by decide) rfl (fun ls hl => ?_)
              refine lv_goto (tgt := 27) hC.1 hC.2.1 dX5_mixedStrip_51 (by decide) ?_
              have e_5 : bX5_mixedStrip_27 x x1 d14 d27 y3_27 = fX5_mixed y3_27 ((fX3_numberOfLine (x 0) (nI d14) (nI d27)).toInt64) := by delta bX5_mixedStrip_27; exact rfl
              have hg : fX5_mixedStrip x x1 = (tX5_mixedStrip_14 x x1 (lpF n14 (d14 + 1) (bX5_mixedStrip_14 x x1) (tX5_mixedStrip_27 x x1 d14 (lpF n27 (d27 + 1) (bX5_mixedStrip_27 x x1 d14) (fX5_mixed y3_27 ((fX3_numberOfLine (x 0) (nI d14) (nI d27)).toInt64)))))) := by have e2 := congrArg (fun z => (tX5_mixedStrip_14 x x1 (lpF n14 (d14 + 1) (bX5_mixedStrip_14 x x1) (tX5_mixedStrip_27 x x1 d14 (lpF n27 (d27 + 1) (bX5_mixedStrip_27 x x1 d14) z))))) e_5; exact hg.trans e2
              exact ih (d27 + 1) (fX5_mixed y3_27 ((fX3_numberOfLine (x 0) (nI d14) (nI d27)).toInt64)) (by omega) hg _ (lv_sub hl [1, 2, 3, 0] rfl)
        have e_6 : bX5_mixedStrip_14 x x1 d14 y3_14 = tX5_mixedStrip_27 x x1 d14 (lpF 3 0 (bX5_mixedStrip_27 x x1 d14) y3_14) := by delta bX5_mixedStrip_14; exact rfl
        have hg : fX5_mixedStrip x x1 = (tX5_mixedStrip_14 x x1 (lpF n14 (d14 + 1) (bX5_mixedStrip_14 x x1) (tX5_mixedStrip_27 x x1 d14 (lpF 3 0 (bX5_mixedStrip_27 x x1 d14) y3_14)))) := by have e2 := congrArg (fun z => (tX5_mixedStrip_14 x x1 (lpF n14 (d14 + 1) (bX5_mixedStrip_14 x x1) z))) e_6; exact hg.trans e2
        exact L27  3 0 y3_14 (by omega) hg _ (lv_sub hl [1, 2, 3, 0] rfl)
  have e_7 : fX5_mixedStrip x x1 = tX5_mixedStrip_14 x x1 (lpF ((x 0 8 0).toNatClampNeg) 0 (bX5_mixedStrip_14 x x1) x1) := by delta fX5_mixedStrip; exact rfl
  have hg : fX5_mixedStrip x x1 = (tX5_mixedStrip_14 x x1 (lpF ((x 0 8 0).toNatClampNeg) 0 (bX5_mixedStrip_14 x x1) x1)) := by have e2 := congrArg (fun z => z) e_7; exact hg.trans e2
  exact L14  ((x 0 8 0).toNatClampNeg) 0 x1 (by omega) hg _ (lv_sub hl [2, 1, 0] rfl)

theorem dX5_mixedBuffer_0 : decode cX5_mixedBuffer 0 = .ok (.lload_n 1, 1) := by decide +kernel
theorem dX5_mixedBuffer_1 : decode cX5_mixedBuffer 1 = .ok (.aload_n 0, 1) := by decide +kernel
theorem dX5_mixedBuffer_2 : decode cX5_mixedBuffer 2 = .ok (.getfield 29, 3) := by decide +kernel
theorem dX5_mixedBuffer_5 : decode cX5_mixedBuffer 5 = .ok (.getfield 146, 3) := by decide +kernel
theorem dX5_mixedBuffer_8 : decode cX5_mixedBuffer 8 = .ok (.i2l, 1) := by decide +kernel
theorem dX5_mixedBuffer_9 : decode cX5_mixedBuffer 9 = .ok (.invokestatic 238, 3) := by decide +kernel
theorem dX5_mixedBuffer_12 : decode cX5_mixedBuffer 12 = .ok (.lstore_n 3, 1) := by decide +kernel
theorem dX5_mixedBuffer_13 : decode cX5_mixedBuffer 13 = .ok (.iconst 0, 1) := by decide +kernel
theorem dX5_mixedBuffer_14 : decode cX5_mixedBuffer 14 = .ok (.istore 5, 2) := by decide +kernel
theorem dX5_mixedBuffer_16 : decode cX5_mixedBuffer 16 = .ok (.iload 5, 2) := by decide +kernel
theorem dX5_mixedBuffer_18 : decode cX5_mixedBuffer 18 = .ok (.aload_n 0, 1) := by decide +kernel
theorem dX5_mixedBuffer_19 : decode cX5_mixedBuffer 19 = .ok (.getfield 29, 3) := by decide +kernel
theorem dX5_mixedBuffer_22 : decode cX5_mixedBuffer 22 = .ok (.getfield 146, 3) := by decide +kernel
theorem dX5_mixedBuffer_25 : decode cX5_mixedBuffer 25 = .ok (.if_icmp .ge 24, 3) := by decide +kernel
theorem dX5_mixedBuffer_28 : decode cX5_mixedBuffer 28 = .ok (.lload_n 3, 1) := by decide +kernel
theorem dX5_mixedBuffer_29 : decode cX5_mixedBuffer 29 = .ok (.aload_n 0, 1) := by decide +kernel
theorem dX5_mixedBuffer_30 : decode cX5_mixedBuffer 30 = .ok (.getfield 29, 3) := by decide +kernel
theorem dX5_mixedBuffer_33 : decode cX5_mixedBuffer 33 = .ok (.iload 5, 2) := by decide +kernel
theorem dX5_mixedBuffer_35 : decode cX5_mixedBuffer 35 = .ok (.invokevirtual 164, 3) := by decide +kernel
theorem dX5_mixedBuffer_38 : decode cX5_mixedBuffer 38 = .ok (.i2l, 1) := by decide +kernel
theorem dX5_mixedBuffer_39 : decode cX5_mixedBuffer 39 = .ok (.invokestatic 238, 3) := by decide +kernel
theorem dX5_mixedBuffer_42 : decode cX5_mixedBuffer 42 = .ok (.lstore_n 3, 1) := by decide +kernel
theorem dX5_mixedBuffer_43 : decode cX5_mixedBuffer 43 = .ok (.iinc 5 1, 3) := by decide +kernel
theorem dX5_mixedBuffer_46 : decode cX5_mixedBuffer 46 = .ok (.goto (-30), 3) := by decide +kernel
theorem dX5_mixedBuffer_49 : decode cX5_mixedBuffer 49 = .ok (.lload_n 3, 1) := by decide +kernel
theorem dX5_mixedBuffer_50 : decode cX5_mixedBuffer 50 = .ok (.lreturn, 1) := by decide +kernel
set_option maxHeartbeats 1000000 in
set_option maxRecDepth 100000 in
theorem c_X5_mixedBuffer (l : Launch) (G : GT) (a : Nat → Nat) (b : Nat → Nat) (x : HV) (x1 : Int64) : Met l yX5_mixedBuffer (Cond.code yX5_mixedBuffer cX5_mixedBuffer 6 (some .long) :: bigW) ({ frames := 2, cells := 0, slots := 0, locals := 42 }) (BP G [.ref (a 0), .long x1] (fun U H => PW G (hdW G a b x) H)) (QP (.long (fX5_mixedBuffer x x1))) 0 0 (fun _ => False) := by
  refine met_of (by decide) (Nat.le_of_ble_eq_true rfl) ?_
  intro p e s m below meth c ls hC hKN hB0 hl
  have hP := hB0
  have hl : lv_has ls 6 [(0, .ref (a 0)), (1, .long x1)] := hl
  have hg : fX5_mixedBuffer x x1 = fX5_mixedBuffer x x1 := rfl
  refine lv_lload_n hC.1 hC.2.1 dX5_mixedBuffer_0 rfl (lv_at hl 1 rfl) ?_
  refine lv_aload_n hC.1 hC.2.1 dX5_mixedBuffer_1 rfl (lv_at hl 0 rfl) ?_
  refine gf (v := .ref (a 2)) hC fwX5 hKN hP 0 rfl rfl 4 (by decide) rfl wd_207 rfl dX5_mixedBuffer_2 ?_
  refine gfN (v := .int (x 9 2 2)) hC fwX0 hKN hP 2 rfl rfl 1 (by decide) rfl (nf_19 hKN) rfl dX5_mixedBuffer_5 ?_
  refine lv_i2l (v := (x 9 2 2).toInt64) hC.1 hC.2.1 dX5_mixedBuffer_8 rfl ?_
  refine runP (rS (B := fun U H => True) (As := [.long x1, .long ((x 9 2 2).toInt64)]) (rest := []) hC mwX5_mixed (c_X5_mixed l G x1 ((x 9 2 2).toInt64)) wd_421 wd_420 ⟨rfl, rfl⟩ ⟨Nat.le_of_ble_eq_true rfl, Nat.le_of_ble_eq_true rfl⟩ (fun _ _ _ _ h => h) hKN trivial rfl hl.1 rfl (Nat.le_of_ble_eq_true rfl) dX5_mixedBuffer_9 ⟨Nat.zero_le _, Nat.zero_le _⟩) ?_
  refine lv_lstore_n (lv' := [(3, .long (fX5_mixed x1 ((x 9 2 2).toInt64))), (0, .ref (a 0)), (1, .long x1)]) hC.1 hC.2.1 dX5_mixedBuffer_12 rfl hl (by decide) rfl (fun ls hl => ?_)
  refine lv_iconst (v := 0) hC.1 hC.2.1 dX5_mixedBuffer_13 (by decide) ?_
  refine lv_istore (lv' := [(5, .int 0), (3, .long (fX5_mixed x1 ((x 9 2 2).toInt64))), (0, .ref (a 0)), (1, .long x1)]) hC.1 hC.2.1 dX5_mixedBuffer_14 hl (by decide) rfl (fun ls hl => ?_)
  have A16 : ∀ (y3_16 : Int64), fX5_mixedBuffer x x1 = (tX5_mixedBuffer_16 x x1 y3_16) → ∀ (ls : Array Slot), lv_has ls 6 [(3, .long y3_16)] → W p l e ({ frames := 2, cells := 0, slots := 0, locals := 42 }) s m ([.ref (a 0), .long x1] : List Value).toArray below meth c s.heap [] 0 0 (MQ below (QP (.long (fX5_mixedBuffer x x1))) ([.ref (a 0), .long x1] : List Value).toArray s 0 0 (fun _ => False)) (F0 m 49 ls []) := by
    intro  y3_16 hg ls hl
    refine lv_lload_n hC.1 hC.2.1 dX5_mixedBuffer_49 rfl (lv_at hl 0 rfl) ?_
    have e_1 : tX5_mixedBuffer_16 x x1 y3_16 = y3_16 := by delta tX5_mixedBuffer_16; exact rfl
    have hg : fX5_mixedBuffer x x1 = y3_16 := by have e2 := congrArg (fun z => z) e_1; exact hg.trans e2
    exact eP_l hC (congrArg Value.long hg) dX5_mixedBuffer_50
  have L16 : ∀ (n16 d16 : Nat), ∀ (y3_16 : Int64), d16 + n16 = ((x 9 2 2).toNatClampNeg) → fX5_mixedBuffer x x1 = (tX5_mixedBuffer_16 x x1 (lpF n16 d16 (bX5_mixedBuffer_16 x x1) y3_16)) → ∀ (ls : Array Slot), lv_has ls 6 [(0, .ref (a 0)), (3, .long y3_16), (5, .int (nI d16))] → W p l e ({ frames := 2, cells := 0, slots := 0, locals := 42 }) s m ([.ref (a 0), .long x1] : List Value).toArray below meth c s.heap [] 0 0 (MQ below (QP (.long (fX5_mixedBuffer x x1))) ([.ref (a 0), .long x1] : List Value).toArray s 0 0 (fun _ => False)) (F0 m 16 ls []) := by
    intro n16
    induction n16 with
    | zero =>
      intro d16 y3_16 hd hg ls hl
      refine lv_iload hC.1 hC.2.1 dX5_mixedBuffer_16 (lv_at hl 2 rfl) ?_
      refine lv_aload_n hC.1 hC.2.1 dX5_mixedBuffer_18 rfl (lv_at hl 0 rfl) ?_
      refine gf (v := .ref (a 2)) hC fwX5 hKN hP 0 rfl rfl 4 (by decide) rfl wd_207 rfl dX5_mixedBuffer_19 ?_
      refine gfN (v := .int (x 9 2 2)) hC fwX0 hKN hP 2 rfl rfl 1 (by decide) rfl (nf_19 hKN) rfl dX5_mixedBuffer_22 ?_
      refine lv_icmp_ge (tgt := 49) hC.1 hC.2.1 dX5_mixedBuffer_25 (by decide) (fun k25 => ?_) (fun k25 => ?_)
      · exact A16  y3_16 hg _ (lv_sub hl [1] rfl)
      · exact absurd (cl_le (by omega) (by have := cl_lt (x 9 2 2); omega)) k25
    | succ n16 ih =>
      intro d16 y3_16 hd hg ls hl
      have hg : fX5_mixedBuffer x x1 = (tX5_mixedBuffer_16 x x1 (lpF n16 (d16 + 1) (bX5_mixedBuffer_16 x x1) (bX5_mixedBuffer_16 x x1 d16 y3_16))) := hg
      refine lv_iload hC.1 hC.2.1 dX5_mixedBuffer_16 (lv_at hl 2 rfl) ?_
      refine lv_aload_n hC.1 hC.2.1 dX5_mixedBuffer_18 rfl (lv_at hl 0 rfl) ?_
      refine gf (v := .ref (a 2)) hC fwX5 hKN hP 0 rfl rfl 4 (by decide) rfl wd_207 rfl dX5_mixedBuffer_19 ?_
      refine gfN (v := .int (x 9 2 2)) hC fwX0 hKN hP 2 rfl rfl 1 (by decide) rfl (nf_19 hKN) rfl dX5_mixedBuffer_22 ?_
      refine lv_icmp_ge (tgt := 49) hC.1 hC.2.1 dX5_mixedBuffer_25 (by decide) (fun k25 => ?_) (fun k25 => ?_)
      · exact absurd k25 (cl_nle (by omega))
      · refine lv_lload_n hC.1 hC.2.1 dX5_mixedBuffer_28 rfl (lv_at hl 1 rfl) ?_
        refine lv_aload_n hC.1 hC.2.1 dX5_mixedBuffer_29 rfl (lv_at hl 0 rfl) ?_
        refine gf (v := .ref (a 2)) hC fwX5 hKN hP 0 rfl rfl 4 (by decide) rfl wd_207 rfl dX5_mixedBuffer_30 ?_
        refine lv_iload hC.1 hC.2.1 dX5_mixedBuffer_33 (lv_at hl 2 rfl) ?_
        refine runP (rV (B := fun U H => PW G (bfW G (bA a) (mkB (x 9 0) (x 9 2 2))) H) (As := [.int (nI d16)]) (rest := [.long y3_16]) hC mwX0_codeAt (c_X0_codeAt l G (bA a) (mkB (x 9 0) (x 9 2 2)) (nI d16)) iwX0_codeAt wd_596 ⟨rfl, rfl⟩ ⟨Nat.le_of_ble_eq_true rfl, Nat.le_of_ble_eq_true rfl⟩ (stb_h (fun H => PW G (bfW G (bA a) (mkB (x 9 0) (x 9 2 2))) H)) hKN (hd_bf (x := x) hP) (va_recv hKN.k (hd_bf (x := x) hP) (ci := 0) (q0 := 0) rfl rfl) rfl hl.1 rfl (Nat.le_of_ble_eq_true rfl) dX5_mixedBuffer_35 ⟨Nat.zero_le _, Nat.zero_le _⟩) ?_
        refine lv_i2l (v := (fX0_codeAt (mkB (x 9 0) (x 9 2 2)) (nI d16)).toInt64) hC.1 hC.2.1 dX5_mixedBuffer_38 rfl ?_
        refine runP (rS (B := fun U H => True) (As := [.long y3_16, .long ((fX0_codeAt (mkB (x 9 0) (x 9 2 2)) (nI d16)).toInt64)]) (rest := []) hC mwX5_mixed (c_X5_mixed l G y3_16 ((fX0_codeAt (mkB (x 9 0) (x 9 2 2)) (nI d16)).toInt64)) wd_421 wd_420 ⟨rfl, rfl⟩ ⟨Nat.le_of_ble_eq_true rfl, Nat.le_of_ble_eq_true rfl⟩ (fun _ _ _ _ h => h) hKN trivial rfl hl.1 rfl (Nat.le_of_ble_eq_true rfl) dX5_mixedBuffer_39 ⟨Nat.zero_le _, Nat.zero_le _⟩) ?_
        refine lv_lstore_n (lv' := [(3, .long (fX5_mixed y3_16 ((fX0_codeAt (mkB (x 9 0) (x 9 2 2)) (nI d16)).toInt64))), (0, .ref (a 0)), (5, .int (nI d16))]) hC.1 hC.2.1 dX5_mixedBuffer_42 rfl hl (by decide) rfl (fun ls hl => ?_)
        refine lv_iinc (v := nI (d16 + 1)) (lv' := [(5, .int (nI (d16 + 1))), (3, .long (fX5_mixed y3_16 ((fX0_codeAt (mkB (x 9 0) (x 9 2 2)) (nI d16)).toInt64))), (0, .ref (a 0))]) hC.1 hC.2.1 dX5_mixedBuffer_43 hl (k := 2) rfl (nI_1 _) (by decide) rfl (fun ls hl => ?_)
        refine lv_goto (tgt := 16) hC.1 hC.2.1 dX5_mixedBuffer_46 (by decide) ?_
        have e_2 : bX5_mixedBuffer_16 x x1 d16 y3_16 = fX5_mixed y3_16 ((fX0_codeAt (mkB (x 9 0) (x 9 2 2)) (nI d16)).toInt64) := by delta bX5_mixedBuffer_16; exact rfl
        have hg : fX5_mixedBuffer x x1 = (tX5_mixedBuffer_16 x x1 (lpF n16 (d16 + 1) (bX5_mixedBuffer_16 x x1) (fX5_mixed y3_16 ((fX0_codeAt (mkB (x 9 0) (x 9 2 2)) (nI d16)).toInt64)))) := by have e2 := congrArg (fun z => (tX5_mixedBuffer_16 x x1 (lpF n16 (d16 + 1) (bX5_mixedBuffer_16 x x1) z))) e_2; exact hg.trans e2
        exact ih (d16 + 1) (fX5_mixed y3_16 ((fX0_codeAt (mkB (x 9 0) (x 9 2 2)) (nI d16)).toInt64)) (by omega) hg _ (lv_sub hl [2, 1, 0] rfl)
  have e_3 : fX5_mixedBuffer x x1 = tX5_mixedBuffer_16 x x1 (lpF ((x 9 2 2).toNatClampNeg) 0 (bX5_mixedBuffer_16 x x1) (fX5_mixed x1 ((x 9 2 2).toInt64))) := by delta fX5_mixedBuffer; exact rfl
  have hg : fX5_mixedBuffer x x1 = (tX5_mixedBuffer_16 x x1 (lpF ((x 9 2 2).toNatClampNeg) 0 (bX5_mixedBuffer_16 x x1) (fX5_mixed x1 ((x 9 2 2).toInt64)))) := by have e2 := congrArg (fun z => z) e_3; exact hg.trans e2
  exact L16  ((x 9 2 2).toNatClampNeg) 0 (fX5_mixed x1 ((x 9 2 2).toInt64)) (by omega) hg _ (lv_sub hl [2, 1, 0] rfl)

theorem dX5_clearBuffer_0 : decode cX5_clearBuffer 0 = .ok (.aload_n 0, 1) := by decide +kernel
theorem dX5_clearBuffer_1 : decode cX5_clearBuffer 1 = .ok (.getfield 29, 3) := by decide +kernel
theorem dX5_clearBuffer_4 : decode cX5_clearBuffer 4 = .ok (.getfield 146, 3) := by decide +kernel
theorem dX5_clearBuffer_7 : decode cX5_clearBuffer 7 = .ok (.istore_n 1, 1) := by decide +kernel
theorem dX5_clearBuffer_8 : decode cX5_clearBuffer 8 = .ok (.aload_n 0, 1) := by decide +kernel
theorem dX5_clearBuffer_9 : decode cX5_clearBuffer 9 = .ok (.getfield 29, 3) := by decide +kernel
theorem dX5_clearBuffer_12 : decode cX5_clearBuffer 12 = .ok (.iconst 0, 1) := by decide +kernel
theorem dX5_clearBuffer_13 : decode cX5_clearBuffer 13 = .ok (.putfield 146, 3) := by decide +kernel
theorem dX5_clearBuffer_16 : decode cX5_clearBuffer 16 = .ok (.iload_n 1, 1) := by decide +kernel
theorem dX5_clearBuffer_17 : decode cX5_clearBuffer 17 = .ok (.ireturn, 1) := by decide +kernel
set_option maxHeartbeats 1000000 in
set_option maxRecDepth 100000 in
theorem c_X5_clearBuffer (l : Launch) (G : GT) (a : Nat → Nat) (b : Nat → Nat) (x : HV) (hq : hdD G a b) : Met l yX5_clearBuffer (Cond.code yX5_clearBuffer cX5_clearBuffer 2 (some .int) :: bigW) ({ frames := 0, cells := 0, slots := 0, locals := 0 }) (BP G [.ref (a 0)] (fun U H => PW G (hdW G a b x) H)) (QE (some (.int (fX5_clearBuffer x).2)) (fun H => PW G (hdW G a b (fX5_clearBuffer x).1) H) (hdA a b)) 0 0 (hdA a b) := by
  refine met_of (by decide) (Nat.le_of_ble_eq_true rfl) ?_
  intro p e s m below meth c ls hC hKN hB0 hl
  have hP := hB0
  have hl : lv_has ls 2 [(0, .ref (a 0))] := hl
  have hS : va_S (hdA a b) s.heap s.heap [] := va_S.rf
  have hAL : ∀ z, (hdA a b) z → gL G ≤ z := hdD_low hq
  have hg : fX5_clearBuffer x = fX5_clearBuffer x := rfl
  refine lv_aload_n hC.1 hC.2.1 dX5_clearBuffer_0 rfl (lv_at hl 0 rfl) ?_
  refine gf (v := .ref (a 2)) hC fwX5 hKN hP 0 rfl rfl 4 (by decide) rfl wd_207 rfl dX5_clearBuffer_1 ?_
  refine gfN (v := .int (x 9 2 2)) hC fwX0 hKN hP 2 rfl rfl 1 (by decide) rfl (nf_19 hKN) rfl dX5_clearBuffer_4 ?_
  refine lv_istore_n (lv' := [(1, .int (x 9 2 2)), (0, .ref (a 0))]) hC.1 hC.2.1 dX5_clearBuffer_7 rfl hl (by decide) rfl (fun ls hl => ?_)
  refine lv_aload_n hC.1 hC.2.1 dX5_clearBuffer_8 rfl (lv_at hl 1 rfl) ?_
  refine gf (v := .ref (a 2)) hC fwX5 hKN hP 0 rfl rfl 4 (by decide) rfl wd_207 rfl dX5_clearBuffer_9 ?_
  refine lv_iconst (v := 0) hC.1 hC.2.1 dX5_clearBuffer_12 (by decide) ?_
  refine pfON (x := x) (v := .int 0) (tv := .int) (x' := mkH (x 0) (x 1) (x 2) (x 3) (x 4) (x 5) (x 6) (x 7) (x 8) (x 9 0) (x 9 1) (x 9 2 0) (x 9 2 1) 0) hC fwX0 hKN hP hq (fun _ h => h) hS 2 (by decide) rfl rfl 1 (by decide) rfl (nf_19 hKN) rfl rfl rfl (Nat.le_of_ble_eq_true rfl) rfl ⟨rfl, rfl, rfl, rfl, rfl, rfl, rfl, rfl, rfl⟩ dX5_clearBuffer_13 (fun H locs hP hS => ?_)
  refine lv_iload_n hC.1 hC.2.1 dX5_clearBuffer_16 rfl (lv_at hl 0 rfl) ?_
  have e_2 : fX5_clearBuffer x = (mkH (x 0) (x 1) (x 2) (x 3) (x 4) (x 5) (x 6) (x 7) (x 8) (x 9 0) (x 9 1) (x 9 2 0) (x 9 2 1) 0 , x 9 2 2) := by delta fX5_clearBuffer; exact rfl
  have hg : fX5_clearBuffer x = (mkH (x 0) (x 1) (x 2) (x 3) (x 4) (x 5) (x 6) (x 7) (x 8) (x 9 0) (x 9 1) (x 9 2 0) (x 9 2 1) 0 , x 9 2 2) := by have e2 := congrArg (fun z => z) e_2; exact hg.trans e2
  exact eE_i hC (by rw [hg]) (by show PW G (hdW G a b (fX5_clearBuffer x).1) H; rw [hg]; exact hP) hS dX5_clearBuffer_17

theorem dX5_firstError_0 : decode cX5_firstError 0 = .ok (.aload_n 0, 1) := by decide +kernel
theorem dX5_firstError_1 : decode cX5_firstError 1 = .ok (.getfield 36, 3) := by decide +kernel
theorem dX5_firstError_4 : decode cX5_firstError 4 = .ok (.aload_n 0, 1) := by decide +kernel
theorem dX5_firstError_5 : decode cX5_firstError 5 = .ok (.getfield 29, 3) := by decide +kernel
theorem dX5_firstError_8 : decode cX5_firstError 8 = .ok (.invokevirtual 149, 3) := by decide +kernel
theorem dX5_firstError_11 : decode cX5_firstError 11 = .ok (.ireturn, 1) := by decide +kernel
set_option maxHeartbeats 1000000 in
set_option maxRecDepth 100000 in
theorem c_X5_firstError (l : Launch) (G : GT) (a : Nat → Nat) (b : Nat → Nat) (x : HV) (hq : hdD G a b) (hI : (x 9 1 2).toNatClampNeg < 8) : Met l yX5_firstError (Cond.code yX5_firstError cX5_firstError 1 (some .int) :: bigW) ({ frames := 7, cells := 0, slots := 0, locals := 149 }) (BP G [.ref (a 0)] (fun U H => PW G (hdW G a b x) H)) (QE (some (.int (fX5_firstError x).2)) (fun H => PW G (hdW G a b (fX5_firstError x).1) H) (hdA a b)) 0 0 (hdA a b) := by
  refine met_of (by decide) (Nat.le_of_ble_eq_true rfl) ?_
  intro p e s m below meth c ls hC hKN hB0 hl
  have hP := hB0
  have hl : lv_has ls 1 [(0, .ref (a 0))] := hl
  have hS : va_S (hdA a b) s.heap s.heap [] := va_S.rf
  have hAL : ∀ z, (hdA a b) z → gL G ≤ z := hdD_low hq
  have hg : fX5_firstError x = fX5_firstError x := rfl
  refine lv_aload_n hC.1 hC.2.1 dX5_firstError_0 rfl (lv_at hl 0 rfl) ?_
  refine gf (v := .ref (a 4)) hC fwX5 hKN hP 0 rfl rfl 5 (by decide) rfl wd_208 rfl dX5_firstError_1 ?_
  refine lv_aload_n hC.1 hC.2.1 dX5_firstError_4 rfl (lv_at hl 0 rfl) ?_
  refine gf (v := .ref (a 2)) hC fwX5 hKN hP 0 rfl rfl 4 (by decide) rfl wd_207 rfl dX5_firstError_5 ?_
  refine runE (rV (B := fun U H => PW G (rrW G (a 4) (x 9 1)) H ∧ PW G (bfW G (bA a) (mkB (x 9 0) (x 9 2 2))) H) (As := [.ref (a 2)]) (rest := []) hC mwX1_readUntilError (c_X1_readUntilError l G (a 4) (x 9 1) (bA a) (mkB (x 9 0) (x 9 2 2)) (hdD_rr hq) (hdD_rb hq) hI) iwX1_readUntilError wd_236 ⟨rfl, rfl⟩ ⟨Nat.le_of_ble_eq_true rfl, Nat.le_of_ble_eq_true rfl⟩ (stb_and (stb_h (fun H => PW G (rrW G (a 4) (x 9 1)) H)) (stb_h (fun H => PW G (bfW G (bA a) (mkB (x 9 0) (x 9 2 2))) H))) hKN ⟨(hd_rr (x := x) hP), (hd_bf (x := x) hP)⟩ (va_recv hKN.k (hd_rr (x := x) hP) (ci := 1) (q0 := 0) rfl rfl) rfl hl.1 rfl (Nat.le_of_ble_eq_true rfl) dX5_firstError_8 ⟨Nat.zero_le _, Nat.zero_le _⟩) hS (fun _ h => hdA_rr h) (fun _ h => hdA_rr h) (fun H locs hq_1 _ hk_3 hS => ?_)
  have hP : PW G (hdW G a b (mkH (x 0) (x 1) (x 2) (x 3) (x 4) (x 5) (x 6) (x 7) (x 8) (x 9 0) ((fX1_readUntilError (x 9 1) (mkB (x 9 0) (x 9 2 2))).1) (x 9 2 0) (x 9 2 1) (x 9 2 2))) H := hd_setRr (x := x) hq hP hq_1 hk_3
  obtain ⟨r_2, er_2⟩ : ∃ z, z = fX1_readUntilError (x 9 1) (mkB (x 9 0) (x 9 2 2)) := ⟨_, rfl⟩
  rw [← er_2] at hP
  show W p l e ({ frames := 7, cells := 0, slots := 0, locals := 149 }) s m ([.ref (a 0)] : List Value).toArray below meth c H locs (0 + 0) (0 + 0) _ (F0 m (8 + 3) ls [.int ((fX1_readUntilError (x 9 1) (mkB (x 9 0) (x 9 2 2))).2)])
  rw [← er_2]
  have hI : True := trivial
  have e_4 : fX5_firstError x = (mkH (x 0) (x 1) (x 2) (x 3) (x 4) (x 5) (x 6) (x 7) (x 8) (x 9 0) r_2.1 (x 9 2 0) (x 9 2 1) (x 9 2 2) , r_2.2) := by
    delta fX5_firstError
    try dsimp only
    rw [← er_2]
  have hg : fX5_firstError x = (mkH (x 0) (x 1) (x 2) (x 3) (x 4) (x 5) (x 6) (x 7) (x 8) (x 9 0) r_2.1 (x 9 2 0) (x 9 2 1) (x 9 2 2) , r_2.2) := by have e2 := congrArg (fun z => z) e_4; exact hg.trans e2
  exact eE_i hC (by rw [hg]) (by show PW G (hdW G a b (fX5_firstError x).1) H; rw [hg]; exact hP) hS dX5_firstError_11

theorem dX5_keep_0 : decode cX5_keep 0 = .ok (.aload_n 0, 1) := by decide +kernel
theorem dX5_keep_1 : decode cX5_keep 1 = .ok (.getfield 16, 3) := by decide +kernel
theorem dX5_keep_4 : decode cX5_keep 4 = .ok (.aload_n 0, 1) := by decide +kernel
theorem dX5_keep_5 : decode cX5_keep 5 = .ok (.getfield 10, 3) := by decide +kernel
theorem dX5_keep_8 : decode cX5_keep 8 = .ok (.invokevirtual 185, 3) := by decide +kernel
theorem dX5_keep_11 : decode cX5_keep 11 = .ok (.aload_n 0, 1) := by decide +kernel
theorem dX5_keep_12 : decode cX5_keep 12 = .ok (.iconst 1, 1) := by decide +kernel
theorem dX5_keep_13 : decode cX5_keep 13 = .ok (.putfield 44, 3) := by decide +kernel
theorem dX5_keep_16 : decode cX5_keep 16 = .ok (.aload_n 0, 1) := by decide +kernel
theorem dX5_keep_17 : decode cX5_keep 17 = .ok (.getfield 10, 3) := by decide +kernel
theorem dX5_keep_20 : decode cX5_keep 20 = .ok (.getfield 72, 3) := by decide +kernel
theorem dX5_keep_23 : decode cX5_keep 23 = .ok (.getfield 158, 3) := by decide +kernel
theorem dX5_keep_26 : decode cX5_keep 26 = .ok (.ireturn, 1) := by decide +kernel
set_option maxHeartbeats 1000000 in
set_option maxRecDepth 100000 in
theorem c_X5_keep (l : Launch) (G : GT) (a : Nat → Nat) (b : Nat → Nat) (x : HV) (hq : hdD G a b) : Met l yX5_keep (Cond.code yX5_keep cX5_keep 1 (some .int) :: bigW) ({ frames := 4, cells := 0, slots := 0, locals := 93 }) (BP G [.ref (a 0)] (fun U H => PW G (hdW G a b x) H)) (QE (some (.int (fX5_keep x).2)) (fun H => PW G (hdW G a b (fX5_keep x).1) H) (hdA a b)) 0 0 (hdA a b) := by
  refine met_of (by decide) (Nat.le_of_ble_eq_true rfl) ?_
  intro p e s m below meth c ls hC hKN hB0 hl
  have hP := hB0
  have hl : lv_has ls 1 [(0, .ref (a 0))] := hl
  have hS : va_S (hdA a b) s.heap s.heap [] := va_S.rf
  have hAL : ∀ z, (hdA a b) z → gL G ≤ z := hdD_low hq
  have hg : fX5_keep x = fX5_keep x := rfl
  refine lv_aload_n hC.1 hC.2.1 dX5_keep_0 rfl (lv_at hl 0 rfl) ?_
  refine gf (v := .ref (a 16)) hC fwX5 hKN hP 0 rfl rfl 1 (by decide) rfl wd_204 rfl dX5_keep_1 ?_
  refine lv_aload_n hC.1 hC.2.1 dX5_keep_4 rfl (lv_at hl 0 rfl) ?_
  refine gf (v := .ref (a 5)) hC fwX5 hKN hP 0 rfl rfl 0 (by decide) rfl wd_203 rfl dX5_keep_5 ?_
  refine runE (rV (B := fun U H => PW G (stW G (sA a 1) (x 1)) H ∧ PW G (stW G (sA a 0) (x 0)) H) (As := [.ref (a 5)]) (rest := []) hC mwX2_copyFrom (c_X2_copyFrom l G (sA a 1) (x 1) (sA a 0) (x 0) (hdD_st hq 1 (by decide)) (hdD_N hq 1 0 (by decide) (by decide) (by decide))) iwX2_copyFrom wd_364 ⟨rfl, rfl⟩ ⟨Nat.le_of_ble_eq_true rfl, Nat.le_of_ble_eq_true rfl⟩ (stb_and (stb_h (fun H => PW G (stW G (sA a 1) (x 1)) H)) (stb_h (fun H => PW G (stW G (sA a 0) (x 0)) H))) hKN ⟨(hd_st1 (x := x) hP), (hd_st0 (x := x) hP)⟩ (va_recv hKN.k (hd_st1 (x := x) hP) (ci := 2) (q0 := 0) rfl rfl) rfl hl.1 rfl (Nat.le_of_ble_eq_true rfl) dX5_keep_8 ⟨Nat.zero_le _, Nat.zero_le _⟩) hS (fun _ h => hdA_st (by decide) h) (fun _ h => hdA_st (by decide) h) (fun H locs hq_1 _ hk_3 hS => ?_)
  have hP : PW G (hdW G a b (mkH (x 0) (fX2_copyFrom (x 1) (x 0)) (x 2) (x 3) (x 4) (x 5) (x 6) (x 7) (x 8) (x 9 0) (x 9 1) (x 9 2 0) (x 9 2 1) (x 9 2 2))) H := hd_set1 (x := x) hq hP hq_1 hk_3
  obtain ⟨r_2, er_2⟩ : ∃ z, z = fX2_copyFrom (x 1) (x 0) := ⟨_, rfl⟩
  rw [← er_2] at hP
  refine lv_aload_n hC.1 hC.2.1 dX5_keep_11 rfl (lv_at hl 0 rfl) ?_
  refine lv_iconst (v := 1) hC.1 hC.2.1 dX5_keep_12 (by decide) ?_
  refine pfOL (x := mkH (x 0) r_2 (x 2) (x 3) (x 4) (x 5) (x 6) (x 7) (x 8) (x 9 0) (x 9 1) (x 9 2 0) (x 9 2 1) (x 9 2 2)) (v := .int 1) (tv := .boolean) (x' := mkH (x 0) r_2 (x 2) (x 3) (x 4) (x 5) (x 6) (x 7) (x 8) (x 9 0) (x 9 1) (x 9 2 0) 1 (x 9 2 2)) hC fwX5 (hKN.go hAL hS) hP hq (fun _ h => h) hS 0 (by decide) rfl rfl 7 (by decide) rfl wd_210 rfl rfl rfl (Nat.le_of_ble_eq_true rfl) rfl ⟨rfl, rfl, rfl, rfl, rfl, rfl, rfl, rfl, rfl⟩ dX5_keep_13 (fun H locs hP hS => ?_)
  refine lv_aload_n hC.1 hC.2.1 dX5_keep_16 rfl (lv_at hl 0 rfl) ?_
  refine gf (v := .ref (a 5)) hC fwX5 (hKN.go hAL hS) hP 0 rfl rfl 0 (by decide) rfl wd_203 rfl dX5_keep_17 ?_
  refine gfN (v := .ref (sA a 0 8)) hC fwX2 (hKN.go hAL hS) hP 5 rfl rfl 4 (by decide) rfl (nf_16 (hKN.go hAL hS)) rfl dX5_keep_20 ?_
  refine gfN (v := .int ((x 0) 8 2)) hC fwX4 (hKN.go hAL hS) hP 13 rfl rfl 3 (by decide) rfl (nf_7 (hKN.go hAL hS)) rfl dX5_keep_23 ?_
  have e_5 : fX5_keep x = (mkH (x 0) r_2 (x 2) (x 3) (x 4) (x 5) (x 6) (x 7) (x 8) (x 9 0) (x 9 1) (x 9 2 0) 1 (x 9 2 2) , (x 0) 8 2) := by
    delta fX5_keep
    try dsimp only
    rw [← er_2]
  have hg : fX5_keep x = (mkH (x 0) r_2 (x 2) (x 3) (x 4) (x 5) (x 6) (x 7) (x 8) (x 9 0) (x 9 1) (x 9 2 0) 1 (x 9 2 2) , (x 0) 8 2) := by have e2 := congrArg (fun z => z) e_5; exact hg.trans e2
  exact eE_i hC (by rw [hg]) (by show PW G (hdW G a b (fX5_keep x).1) H; rw [hg]; exact hP) hS dX5_keep_26

theorem dX5_darkness_0 : decode cX5_darkness 0 = .ok (.aload_n 0, 1) := by decide +kernel
theorem dX5_darkness_1 : decode cX5_darkness 1 = .ok (.getfield 10, 3) := by decide +kernel
theorem dX5_darkness_4 : decode cX5_darkness 4 = .ok (.getfield 72, 3) := by decide +kernel
theorem dX5_darkness_7 : decode cX5_darkness 7 = .ok (.invokevirtual 228, 3) := by decide +kernel
theorem dX5_darkness_10 : decode cX5_darkness 10 = .ok (.dreturn, 1) := by decide +kernel
set_option maxHeartbeats 1000000 in
set_option maxRecDepth 100000 in
theorem c_X5_darkness (l : Launch) (G : GT) (a : Nat → Nat) (b : Nat → Nat) (x : HV) : Met l yX5_darkness (Cond.code yX5_darkness cX5_darkness 1 (some .double) :: bigW) ({ frames := 1, cells := 0, slots := 0, locals := 20 }) (BP G [.ref (a 0)] (fun U H => PW G (hdW G a b x) H)) (QP (.double (fX5_darkness x))) 0 0 (fun _ => False) := by
  refine met_of (by decide) (Nat.le_of_ble_eq_true rfl) ?_
  intro p e s m below meth c ls hC hKN hB0 hl
  have hP := hB0
  have hl : lv_has ls 1 [(0, .ref (a 0))] := hl
  have hg : fX5_darkness x = fX5_darkness x := rfl
  refine lv_aload_n hC.1 hC.2.1 dX5_darkness_0 rfl (lv_at hl 0 rfl) ?_
  refine gf (v := .ref (a 5)) hC fwX5 hKN hP 0 rfl rfl 0 (by decide) rfl wd_203 rfl dX5_darkness_1 ?_
  refine gfN (v := .ref (sA a 0 8)) hC fwX2 hKN hP 5 rfl rfl 4 (by decide) rfl (nf_16 hKN) rfl dX5_darkness_4 ?_
  refine runP (rV (B := fun U H => PW G (stW G (sA a 0) (x 0)) H) (As := []) (rest := []) hC mwX4_darkShare (c_X4_darkShare l G (sA a 0) (x 0)) iwX4_darkShare wd_382 ⟨rfl, rfl⟩ ⟨Nat.le_of_ble_eq_true rfl, Nat.le_of_ble_eq_true rfl⟩ (stb_h (fun H => PW G (stW G (sA a 0) (x 0)) H)) hKN (hd_st0 (x := x) hP) (va_recv hKN.k (hd_st0 (x := x) hP) (ci := 4) (q0 := 8) rfl rfl) rfl hl.1 rfl (Nat.le_of_ble_eq_true rfl) dX5_darkness_7 ⟨Nat.zero_le _, Nat.zero_le _⟩) ?_
  have e_1 : fX5_darkness x = fX4_darkShare (x 0) := by delta fX5_darkness; exact rfl
  have hg : fX5_darkness x = fX4_darkShare (x 0) := by have e2 := congrArg (fun z => z) e_1; exact hg.trans e2
  exact eP_d hC (congrArg Value.double hg) dX5_darkness_10

theorem dX5_meanHeat_0 : decode cX5_meanHeat 0 = .ok (.aload_n 0, 1) := by decide +kernel
theorem dX5_meanHeat_1 : decode cX5_meanHeat 1 = .ok (.getfield 10, 3) := by decide +kernel
theorem dX5_meanHeat_4 : decode cX5_meanHeat 4 = .ok (.invokevirtual 232, 3) := by decide +kernel
theorem dX5_meanHeat_7 : decode cX5_meanHeat 7 = .ok (.freturn, 1) := by decide +kernel
set_option maxHeartbeats 1000000 in
set_option maxRecDepth 100000 in
theorem c_X5_meanHeat (l : Launch) (G : GT) (a : Nat → Nat) (b : Nat → Nat) (x : HV) : Met l yX5_meanHeat (Cond.code yX5_meanHeat cX5_meanHeat 1 (some .float) :: bigW) ({ frames := 1, cells := 0, slots := 0, locals := 22 }) (BP G [.ref (a 0)] (fun U H => PW G (hdW G a b x) H)) (QP (.float (fX5_meanHeat x))) 0 0 (fun _ => False) := by
  refine met_of (by decide) (Nat.le_of_ble_eq_true rfl) ?_
  intro p e s m below meth c ls hC hKN hB0 hl
  have hP := hB0
  have hl : lv_has ls 1 [(0, .ref (a 0))] := hl
  have hg : fX5_meanHeat x = fX5_meanHeat x := rfl
  refine lv_aload_n hC.1 hC.2.1 dX5_meanHeat_0 rfl (lv_at hl 0 rfl) ?_
  refine gf (v := .ref (a 5)) hC fwX5 hKN hP 0 rfl rfl 0 (by decide) rfl wd_203 rfl dX5_meanHeat_1 ?_
  refine runP (rV (B := fun U H => PW G (stW G (sA a 0) (x 0)) H) (As := []) (rest := []) hC mwX2_mean (c_X2_mean l G (sA a 0) (x 0)) iwX2_mean wd_390 ⟨rfl, rfl⟩ ⟨Nat.le_of_ble_eq_true rfl, Nat.le_of_ble_eq_true rfl⟩ (stb_h (fun H => PW G (stW G (sA a 0) (x 0)) H)) hKN (hd_st0 (x := x) hP) (va_recv hKN.k (hd_st0 (x := x) hP) (ci := 2) (q0 := 0) rfl rfl) rfl hl.1 rfl (Nat.le_of_ble_eq_true rfl) dX5_meanHeat_4 ⟨Nat.zero_le _, Nat.zero_le _⟩) ?_
  have e_1 : fX5_meanHeat x = fX2_mean (x 0) := by delta fX5_meanHeat; exact rfl
  have hg : fX5_meanHeat x = fX2_mean (x 0) := by have e2 := congrArg (fun z => z) e_1; exact hg.trans e2
  exact eP_f hC (congrArg Value.float hg) dX5_meanHeat_7

theorem dX5_mixedTrials_0 : decode cX5_mixedTrials 0 = .ok (.lload_n 1, 1) := by decide +kernel
theorem dX5_mixedTrials_1 : decode cX5_mixedTrials 1 = .ok (.lstore_n 3, 1) := by decide +kernel
theorem dX5_mixedTrials_2 : decode cX5_mixedTrials 2 = .ok (.iconst 0, 1) := by decide +kernel
theorem dX5_mixedTrials_3 : decode cX5_mixedTrials 3 = .ok (.istore 5, 2) := by decide +kernel
theorem dX5_mixedTrials_5 : decode cX5_mixedTrials 5 = .ok (.iload 5, 2) := by decide +kernel
theorem dX5_mixedTrials_7 : decode cX5_mixedTrials 7 = .ok (.iconst 2, 1) := by decide +kernel
theorem dX5_mixedTrials_8 : decode cX5_mixedTrials 8 = .ok (.if_icmp .ge 62, 3) := by decide +kernel
theorem dX5_mixedTrials_11 : decode cX5_mixedTrials 11 = .ok (.aload_n 0, 1) := by decide +kernel
theorem dX5_mixedTrials_12 : decode cX5_mixedTrials 12 = .ok (.iload 5, 2) := by decide +kernel
theorem dX5_mixedTrials_14 : decode cX5_mixedTrials 14 = .ok (.ifCond .ne 9, 3) := by decide +kernel
theorem dX5_mixedTrials_17 : decode cX5_mixedTrials 17 = .ok (.ldc_w 302, 3) := by decide +kernel
theorem dX5_mixedTrials_20 : decode cX5_mixedTrials 20 = .ok (.goto 6, 3) := by decide +kernel
theorem dX5_mixedTrials_23 : decode cX5_mixedTrials 23 = .ok (.ldc_w 303, 3) := by decide +kernel
theorem dX5_mixedTrials_26 : decode cX5_mixedTrials 26 = .ok (.aload_n 0, 1) := by decide +kernel
theorem dX5_mixedTrials_27 : decode cX5_mixedTrials 27 = .ok (.getfield 10, 3) := by decide +kernel
theorem dX5_mixedTrials_30 : decode cX5_mixedTrials 30 = .ok (.iconst 5, 1) := by decide +kernel
theorem dX5_mixedTrials_31 : decode cX5_mixedTrials 31 = .ok (.invokevirtual 127, 3) := by decide +kernel
theorem dX5_mixedTrials_34 : decode cX5_mixedTrials 34 = .ok (.invokevirtual 211, 3) := by decide +kernel
theorem dX5_mixedTrials_37 : decode cX5_mixedTrials 37 = .ok (.iconst 0, 1) := by decide +kernel
theorem dX5_mixedTrials_38 : decode cX5_mixedTrials 38 = .ok (.istore 6, 2) := by decide +kernel
theorem dX5_mixedTrials_40 : decode cX5_mixedTrials 40 = .ok (.iload 6, 2) := by decide +kernel
theorem dX5_mixedTrials_42 : decode cX5_mixedTrials 42 = .ok (.iconst 5, 1) := by decide +kernel
theorem dX5_mixedTrials_43 : decode cX5_mixedTrials 43 = .ok (.if_icmp .ge 21, 3) := by decide +kernel
theorem dX5_mixedTrials_46 : decode cX5_mixedTrials 46 = .ok (.lload_n 3, 1) := by decide +kernel
theorem dX5_mixedTrials_47 : decode cX5_mixedTrials 47 = .ok (.aload_n 0, 1) := by decide +kernel
theorem dX5_mixedTrials_48 : decode cX5_mixedTrials 48 = .ok (.iload 6, 2) := by decide +kernel
theorem dX5_mixedTrials_50 : decode cX5_mixedTrials 50 = .ok (.invokevirtual 214, 3) := by decide +kernel
theorem dX5_mixedTrials_53 : decode cX5_mixedTrials 53 = .ok (.i2l, 1) := by decide +kernel
theorem dX5_mixedTrials_54 : decode cX5_mixedTrials 54 = .ok (.invokestatic 238, 3) := by decide +kernel
theorem dX5_mixedTrials_57 : decode cX5_mixedTrials 57 = .ok (.lstore_n 3, 1) := by decide +kernel
theorem dX5_mixedTrials_58 : decode cX5_mixedTrials 58 = .ok (.iinc 6 1, 3) := by decide +kernel
theorem dX5_mixedTrials_61 : decode cX5_mixedTrials 61 = .ok (.goto (-21), 3) := by decide +kernel
theorem dX5_mixedTrials_64 : decode cX5_mixedTrials 64 = .ok (.iinc 5 1, 3) := by decide +kernel
theorem dX5_mixedTrials_67 : decode cX5_mixedTrials 67 = .ok (.goto (-62), 3) := by decide +kernel
theorem dX5_mixedTrials_70 : decode cX5_mixedTrials 70 = .ok (.lload_n 3, 1) := by decide +kernel
theorem dX5_mixedTrials_71 : decode cX5_mixedTrials 71 = .ok (.lreturn, 1) := by decide +kernel
set_option maxHeartbeats 1000000 in
set_option maxRecDepth 100000 in
theorem c_X5_mixedTrials (l : Launch) (G : GT) (a : Nat → Nat) (b : Nat → Nat) (x : HV) (x1 : Int64) (hq : hdD G a b) : Met l yX5_mixedTrials (Cond.code yX5_mixedTrials cX5_mixedTrials 7 (some .long) :: bigW) ({ frames := 5, cells := 0, slots := 0, locals := 121 }) (BP G [.ref (a 0), .long x1] (fun U H => PW G (hdW G a b x) H)) (QE (some (.long (fX5_mixedTrials x x1).2)) (fun H => PW G (hdW G a b (fX5_mixedTrials x x1).1) H) (hdA a b)) 0 0 (hdA a b) := by
  refine met_of (by decide) (Nat.le_of_ble_eq_true rfl) ?_
  intro p e s m below meth c ls hC hKN hB0 hl
  have hP := hB0
  have hl : lv_has ls 7 [(0, .ref (a 0)), (1, .long x1)] := hl
  have hS : va_S (hdA a b) s.heap s.heap [] := va_S.rf
  have hAL : ∀ z, (hdA a b) z → gL G ≤ z := hdD_low hq
  have hg : fX5_mixedTrials x x1 = fX5_mixedTrials x x1 := rfl
  refine lv_lload_n hC.1 hC.2.1 dX5_mixedTrials_0 rfl (lv_at hl 1 rfl) ?_
  refine lv_lstore_n (lv' := [(3, .long x1), (0, .ref (a 0)), (1, .long x1)]) hC.1 hC.2.1 dX5_mixedTrials_1 rfl hl (by decide) rfl (fun ls hl => ?_)
  refine lv_iconst (v := 0) hC.1 hC.2.1 dX5_mixedTrials_2 (by decide) ?_
  refine lv_istore (lv' := [(5, .int 0), (3, .long x1), (0, .ref (a 0)), (1, .long x1)]) hC.1 hC.2.1 dX5_mixedTrials_3 hl (by decide) rfl (fun ls hl => ?_)
  have A5 : ∀ (y3_5 : Int64) (v_5 : HV), fX5_mixedTrials x x1 = (tX5_mixedTrials_5 x x1 (y3_5, v_5)) → ∀ (H : Heap) (locs : List Loc), PW G (hdW G a b v_5) H → va_S (hdA a b) s.heap H locs → ∀ (ls : Array Slot), lv_has ls 7 [(3, .long y3_5)] → W p l e ({ frames := 5, cells := 0, slots := 0, locals := 121 }) s m ([.ref (a 0), .long x1] : List Value).toArray below meth c H locs 0 0 (MQ below (QE (some (.long (fX5_mixedTrials x x1).2)) (fun H => PW G (hdW G a b (fX5_mixedTrials x x1).1) H) (hdA a b)) ([.ref (a 0), .long x1] : List Value).toArray s 0 0 (hdA a b)) (F0 m 70 ls []) := by
    intro  y3_5 v_5 hg H locs hP hS ls hl
    refine lv_lload_n hC.1 hC.2.1 dX5_mixedTrials_70 rfl (lv_at hl 0 rfl) ?_
    have e_1 : tX5_mixedTrials_5 x x1 (y3_5, v_5) = (v_5, y3_5) := by
      delta tX5_mixedTrials_5
      try dsimp only
      try exact rfl
    have hg : fX5_mixedTrials x x1 = (v_5, y3_5) := by have e2 := congrArg (fun z => z) e_1; exact hg.trans e2
    exact eE_l hC (by rw [hg]) (by show PW G (hdW G a b (fX5_mixedTrials x x1).1) H; rw [hg]; exact hP) hS dX5_mixedTrials_71
  have L5 : ∀ (n5 d5 : Nat), ∀ (y3_5 : Int64) (v_5 : HV), d5 + n5 = 2 → fX5_mixedTrials x x1 = (tX5_mixedTrials_5 x x1 (lpF n5 d5 (bX5_mixedTrials_5 x x1) (y3_5, v_5))) → ∀ (H : Heap) (locs : List Loc), PW G (hdW G a b v_5) H → va_S (hdA a b) s.heap H locs → ∀ (ls : Array Slot), lv_has ls 7 [(0, .ref (a 0)), (3, .long y3_5), (5, .int (nI d5))] → W p l e ({ frames := 5, cells := 0, slots := 0, locals := 121 }) s m ([.ref (a 0), .long x1] : List Value).toArray below meth c H locs 0 0 (MQ below (QE (some (.long (fX5_mixedTrials x x1).2)) (fun H => PW G (hdW G a b (fX5_mixedTrials x x1).1) H) (hdA a b)) ([.ref (a 0), .long x1] : List Value).toArray s 0 0 (hdA a b)) (F0 m 5 ls []) := by
    intro n5
    induction n5 with
    | zero =>
      intro d5 y3_5 v_5 hd hg H locs hP hS ls hl
      refine lv_iload hC.1 hC.2.1 dX5_mixedTrials_5 (lv_at hl 2 rfl) ?_
      refine lv_iconst (v := 2) hC.1 hC.2.1 dX5_mixedTrials_7 (by decide) ?_
      refine lv_icmp_ge (tgt := 70) hC.1 hC.2.1 dX5_mixedTrials_8 (by decide) (fun k8 => ?_) (fun k8 => ?_)
      · exact A5  y3_5 v_5 hg _ _ hP hS _ (lv_sub hl [1] rfl)
      · exact absurd (nI_le (a := 2) (b := d5) (by omega) (by omega)) k8
    | succ n5 ih =>
      intro d5 y3_5 v_5 hd hg H locs hP hS ls hl
      have hg : fX5_mixedTrials x x1 = (tX5_mixedTrials_5 x x1 (lpF n5 (d5 + 1) (bX5_mixedTrials_5 x x1) (bX5_mixedTrials_5 x x1 d5 (y3_5, v_5)))) := hg
      refine lv_iload hC.1 hC.2.1 dX5_mixedTrials_5 (lv_at hl 2 rfl) ?_
      refine lv_iconst (v := 2) hC.1 hC.2.1 dX5_mixedTrials_7 (by decide) ?_
      refine lv_icmp_ge (tgt := 70) hC.1 hC.2.1 dX5_mixedTrials_8 (by decide) (fun k8 => ?_) (fun k8 => ?_)
      · exact absurd k8 (nI_ge (a := d5) (b := 2) (by omega) (by omega))
      · refine lv_aload_n hC.1 hC.2.1 dX5_mixedTrials_11 rfl (lv_at hl 0 rfl) ?_
        refine lv_iload hC.1 hC.2.1 dX5_mixedTrials_12 (lv_at hl 2 rfl) ?_
        have J26 : ∀ (y3_26 : Int64) (z1_26 : Int32) (v_26 : HV), fX5_mixedTrials x x1 = (tX5_mixedTrials_5 x x1 (lpF n5 (d5 + 1) (bX5_mixedTrials_5 x x1) (tX5_mixedTrials_J26 x x1 d5 y3_26 z1_26 v_26))) → ∀ (H : Heap) (locs : List Loc), PW G (hdW G a b v_26) H → va_S (hdA a b) s.heap H locs → ∀ (ls : Array Slot), lv_has ls 7 [(0, .ref (a 0)), (3, .long y3_26), (5, .int (nI d5))] → W p l e ({ frames := 5, cells := 0, slots := 0, locals := 121 }) s m ([.ref (a 0), .long x1] : List Value).toArray below meth c H locs 0 0 (MQ below (QE (some (.long (fX5_mixedTrials x x1).2)) (fun H => PW G (hdW G a b (fX5_mixedTrials x x1).1) H) (hdA a b)) ([.ref (a 0), .long x1] : List Value).toArray s 0 0 (hdA a b)) (F0 m 26 ls [.int z1_26, .ref (a 0)]) := by
          intro y3_26 z1_26 v_26 hg H locs hP hS ls hl
          refine lv_aload_n hC.1 hC.2.1 dX5_mixedTrials_26 rfl (lv_at hl 0 rfl) ?_
          refine gf (v := .ref (a 5)) hC fwX5 (hKN.go hAL hS) hP 0 rfl rfl 0 (by decide) rfl wd_203 rfl dX5_mixedTrials_27 ?_
          refine lv_iconst (v := 5) hC.1 hC.2.1 dX5_mixedTrials_30 (by decide) ?_
          refine runP (rV (B := fun U H => PW G (stW G (sA a 0) (v_26 0)) H) (As := [.int 5]) (rest := [.int z1_26, .ref (a 0)]) hC mwX2_setting (c_X2_setting l G (sA a 0) (v_26 0) 5) iwX2_setting wd_415 ⟨rfl, rfl⟩ ⟨Nat.le_of_ble_eq_true rfl, Nat.le_of_ble_eq_true rfl⟩ (stb_h (fun H => PW G (stW G (sA a 0) (v_26 0)) H)) (hKN.go hAL hS) (hd_st0 (x := v_26) hP) (va_recv (hKN.go hAL hS).k (hd_st0 (x := v_26) hP) (ci := 2) (q0 := 0) rfl rfl) rfl hl.1 rfl (Nat.le_of_ble_eq_true rfl) dX5_mixedTrials_31 ⟨Nat.zero_le _, Nat.zero_le _⟩) ?_
          refine runE (rV (B := fun U H => PW G (hdW G a b v_26) H) (As := [.int z1_26, .int (fX2_setting (v_26 0) 5)]) (rest := []) hC mwX5_tryLine (c_X5_tryLine l G a b v_26 z1_26 (fX2_setting (v_26 0) 5) hq) iwX5_tryLine wd_483 ⟨rfl, rfl⟩ ⟨Nat.le_of_ble_eq_true rfl, Nat.le_of_ble_eq_true rfl⟩ (stb_h (fun H => PW G (hdW G a b v_26) H)) (hKN.go hAL hS) hP (va_recv (hKN.go hAL hS).k hP (ci := 5) (q0 := 0) rfl rfl) rfl hl.1 rfl (Nat.le_of_ble_eq_true rfl) dX5_mixedTrials_34 ⟨Nat.zero_le _, Nat.zero_le _⟩) hS (fun _ h => h) (fun _ h => h) (fun H locs hq_2 _ _ hS => ?_)
          have hP : PW G (hdW G a b (fX5_tryLine v_26 z1_26 (fX2_setting (v_26 0) 5))) H := hq_2
          obtain ⟨r_3, er_3⟩ : ∃ z, z = fX5_tryLine v_26 z1_26 (fX2_setting (v_26 0) 5) := ⟨_, rfl⟩
          rw [← er_3] at hP
          refine lv_iconst (v := 0) hC.1 hC.2.1 dX5_mixedTrials_37 (by decide) ?_
          refine lv_istore (lv' := [(6, .int 0), (0, .ref (a 0)), (3, .long y3_26), (5, .int (nI d5))]) hC.1 hC.2.1 dX5_mixedTrials_38 hl (by decide) rfl (fun ls hl => ?_)
          have A40 : ∀ (v_40 : HV), ∀ (y3_40 : Int64), fX5_mixedTrials x x1 = (tX5_mixedTrials_5 x x1 (lpF n5 (d5 + 1) (bX5_mixedTrials_5 x x1) (tX5_mixedTrials_40 x x1 d5 v_40 y3_40))) → ∀ (H : Heap) (locs : List Loc), PW G (hdW G a b v_40) H → va_S (hdA a b) s.heap H locs → ∀ (ls : Array Slot), lv_has ls 7 [(0, .ref (a 0)), (3, .long y3_40), (5, .int (nI d5))] → W p l e ({ frames := 5, cells := 0, slots := 0, locals := 121 }) s m ([.ref (a 0), .long x1] : List Value).toArray below meth c H locs 0 0 (MQ below (QE (some (.long (fX5_mixedTrials x x1).2)) (fun H => PW G (hdW G a b (fX5_mixedTrials x x1).1) H) (hdA a b)) ([.ref (a 0), .long x1] : List Value).toArray s 0 0 (hdA a b)) (F0 m 64 ls []) := by
            intro v_40 y3_40 hg H locs hP hS ls hl
            refine lv_iinc (v := nI (d5 + 1)) (lv' := [(5, .int (nI (d5 + 1))), (0, .ref (a 0)), (3, .long y3_40)]) hC.1 hC.2.1 dX5_mixedTrials_64 hl (k := 2) rfl (nI_1 _) (by decide) rfl (fun ls hl => ?_)
            refine lv_goto (tgt := 5) hC.1 hC.2.1 dX5_mixedTrials_67 (by decide) ?_
            have e_4 : tX5_mixedTrials_40 x x1 d5 v_40 y3_40 = (y3_40, v_40) := by
              delta tX5_mixedTrials_40
              try dsimp only
              try exact rfl
            have hg : fX5_mixedTrials x x1 = (tX5_mixedTrials_5 x x1 (lpF n5 (d5 + 1) (bX5_mixedTrials_5 x x1) (y3_40, v_40))) := by have e2 := congrArg (fun z => (tX5_mixedTrials_5 x x1 (lpF n5 (d5 + 1) (bX5_mixedTrials_5 x x1) z))) e_4; exact hg.trans e2
            exact ih (d5 + 1) y3_40 v_40 (by omega) hg _ _ hP hS _ (lv_sub hl [1, 2, 0] rfl)
          have L40 : ∀ (v_40 : HV), ∀ (n40 d40 : Nat), ∀ (y3_40 : Int64), d40 + n40 = 5 → fX5_mixedTrials x x1 = (tX5_mixedTrials_5 x x1 (lpF n5 (d5 + 1) (bX5_mixedTrials_5 x x1) (tX5_mixedTrials_40 x x1 d5 v_40 (lpF n40 d40 (bX5_mixedTrials_40 x x1 d5 v_40) y3_40)))) → ∀ (H : Heap) (locs : List Loc), PW G (hdW G a b v_40) H → va_S (hdA a b) s.heap H locs → ∀ (ls : Array Slot), lv_has ls 7 [(0, .ref (a 0)), (3, .long y3_40), (5, .int (nI d5)), (6, .int (nI d40))] → W p l e ({ frames := 5, cells := 0, slots := 0, locals := 121 }) s m ([.ref (a 0), .long x1] : List Value).toArray below meth c H locs 0 0 (MQ below (QE (some (.long (fX5_mixedTrials x x1).2)) (fun H => PW G (hdW G a b (fX5_mixedTrials x x1).1) H) (hdA a b)) ([.ref (a 0), .long x1] : List Value).toArray s 0 0 (hdA a b)) (F0 m 40 ls []) := by
            intro v_40
            intro n40
            induction n40 with
            | zero =>
              intro d40 y3_40 hd hg H locs hP hS ls hl
              refine lv_iload hC.1 hC.2.1 dX5_mixedTrials_40 (lv_at hl 3 rfl) ?_
              refine lv_iconst (v := 5) hC.1 hC.2.1 dX5_mixedTrials_42 (by decide) ?_
              refine lv_icmp_ge (tgt := 64) hC.1 hC.2.1 dX5_mixedTrials_43 (by decide) (fun k43 => ?_) (fun k43 => ?_)
              · exact A40 v_40 y3_40 hg _ _ hP hS _ (lv_sub hl [0, 1, 2] rfl)
              · exact absurd (nI_le (a := 5) (b := d40) (by omega) (by omega)) k43
            | succ n40 ih =>
              intro d40 y3_40 hd hg H locs hP hS ls hl
              have hg : fX5_mixedTrials x x1 = (tX5_mixedTrials_5 x x1 (lpF n5 (d5 + 1) (bX5_mixedTrials_5 x x1) (tX5_mixedTrials_40 x x1 d5 v_40 (lpF n40 (d40 + 1) (bX5_mixedTrials_40 x x1 d5 v_40) (bX5_mixedTrials_40 x x1 d5 v_40 d40 y3_40))))) := hg
              refine lv_iload hC.1 hC.2.1 dX5_mixedTrials_40 (lv_at hl 3 rfl) ?_
              refine lv_iconst (v := 5) hC.1 hC.2.1 dX5_mixedTrials_42 (by decide) ?_
              refine lv_icmp_ge (tgt := 64) hC.1 hC.2.1 dX5_mixedTrials_43 (by decide) (fun k43 => ?_) (fun k43 => ?_)
              · exact absurd k43 (nI_ge (a := d40) (b := 5) (by omega) (by omega))
              · refine lv_lload_n hC.1 hC.2.1 dX5_mixedTrials_46 rfl (lv_at hl 1 rfl) ?_
                refine lv_aload_n hC.1 hC.2.1 dX5_mixedTrials_47 rfl (lv_at hl 0 rfl) ?_
                refine lv_iload hC.1 hC.2.1 dX5_mixedTrials_48 (lv_at hl 3 rfl) ?_
                refine runP (rV (B := fun U H => PW G (hdW G a b v_40) H) (As := [.int (nI d40)]) (rest := [.long y3_40]) hC mwX5_tried (c_X5_tried l G a b v_40 (nI d40)) iwX5_tried wd_560 ⟨rfl, rfl⟩ ⟨Nat.le_of_ble_eq_true rfl, Nat.le_of_ble_eq_true rfl⟩ (stb_h (fun H => PW G (hdW G a b v_40) H)) (hKN.go hAL hS) hP (va_recv (hKN.go hAL hS).k hP (ci := 5) (q0 := 0) rfl rfl) rfl hl.1 rfl (Nat.le_of_ble_eq_true rfl) dX5_mixedTrials_50 ⟨Nat.zero_le _, Nat.zero_le _⟩) ?_
                refine lv_i2l (v := (fX5_tried v_40 (nI d40)).toInt64) hC.1 hC.2.1 dX5_mixedTrials_53 rfl ?_
                refine runP (rS (B := fun U H => True) (As := [.long y3_40, .long ((fX5_tried v_40 (nI d40)).toInt64)]) (rest := []) hC mwX5_mixed (c_X5_mixed l G y3_40 ((fX5_tried v_40 (nI d40)).toInt64)) wd_421 wd_420 ⟨rfl, rfl⟩ ⟨Nat.le_of_ble_eq_true rfl, Nat.le_of_ble_eq_true rfl⟩ (fun _ _ _ _ h => h) (hKN.go hAL hS) trivial rfl hl.1 rfl (Nat.le_of_ble_eq_true rfl) dX5_mixedTrials_54 ⟨Nat.zero_le _, Nat.zero_le _⟩) ?_
                refine lv_lstore_n (lv' := [(3, .long (fX5_mixed y3_40 ((fX5_tried v_40 (nI d40)).toInt64))), (0, .ref (a 0)), (5, .int (nI d5)), (6, .int (nI d40))]) hC.1 hC.2.1 dX5_mixedTrials_57 rfl hl (by decide) rfl (fun ls hl => ?_)
                refine lv_iinc (v := nI (d40 + 1)) (lv' := [(6, .int (nI (d40 + 1))), (3, .long (fX5_mixed y3_40 ((fX5_tried v_40 (nI d40)).toInt64))), (0, .ref (a 0)), (5, .int (nI d5))]) hC.1 hC.2.1 dX5_mixedTrials_58 hl (k := 3) rfl (nI_1 _) (by decide) rfl (fun ls hl => ?_)
                refine lv_goto (tgt := 40) hC.1 hC.2.1 dX5_mixedTrials_61 (by decide) ?_
                have e_5 : bX5_mixedTrials_40 x x1 d5 v_40 d40 y3_40 = fX5_mixed y3_40 ((fX5_tried v_40 (nI d40)).toInt64) := by
                  delta bX5_mixedTrials_40
                  try dsimp only
                  try exact rfl
                have hg : fX5_mixedTrials x x1 = (tX5_mixedTrials_5 x x1 (lpF n5 (d5 + 1) (bX5_mixedTrials_5 x x1) (tX5_mixedTrials_40 x x1 d5 v_40 (lpF n40 (d40 + 1) (bX5_mixedTrials_40 x x1 d5 v_40) (fX5_mixed y3_40 ((fX5_tried v_40 (nI d40)).toInt64)))))) := by have e2 := congrArg (fun z => (tX5_mixedTrials_5 x x1 (lpF n5 (d5 + 1) (bX5_mixedTrials_5 x x1) (tX5_mixedTrials_40 x x1 d5 v_40 (lpF n40 (d40 + 1) (bX5_mixedTrials_40 x x1 d5 v_40) z))))) e_5; exact hg.trans e2
                exact ih (d40 + 1) (fX5_mixed y3_40 ((fX5_tried v_40 (nI d40)).toInt64)) (by omega) hg _ _ hP hS _ (lv_sub hl [2, 1, 3, 0] rfl)
          have e_6 : tX5_mixedTrials_J26 x x1 d5 y3_26 z1_26 v_26 = tX5_mixedTrials_40 x x1 d5 r_3 (lpF 5 0 (bX5_mixedTrials_40 x x1 d5 r_3) y3_26) := by
            delta tX5_mixedTrials_J26
            try dsimp only
            rw [← er_3]
          have hg : fX5_mixedTrials x x1 = (tX5_mixedTrials_5 x x1 (lpF n5 (d5 + 1) (bX5_mixedTrials_5 x x1) (tX5_mixedTrials_40 x x1 d5 r_3 (lpF 5 0 (bX5_mixedTrials_40 x x1 d5 r_3) y3_26)))) := by have e2 := congrArg (fun z => (tX5_mixedTrials_5 x x1 (lpF n5 (d5 + 1) (bX5_mixedTrials_5 x x1) z))) e_6; exact hg.trans e2
          exact L40 r_3 5 0 y3_26 (by omega) hg _ _ hP hS _ (lv_sub hl [1, 2, 3, 0] rfl)
        refine lv_if_ne (tgt := 23) hC.1 hC.2.1 dX5_mixedTrials_14 (by decide) (fun k14 => ?_) (fun k14 => ?_)
        · refine lv_ldcw (v := 5592405) hC.1 hC.2.1 hC.2.2.2.2.1 (hC.2.2.2.2.2.2.1 _ wd_482) dX5_mixedTrials_23 ?_
          have e_7 : bX5_mixedTrials_5 x x1 d5 (y3_5, v_5) = tX5_mixedTrials_J26 x x1 d5 y3_5 5592405 v_5 := by
            delta bX5_mixedTrials_5
            try dsimp only
            exact Eq.trans (if_neg k14) rfl
          have hg : fX5_mixedTrials x x1 = (tX5_mixedTrials_5 x x1 (lpF n5 (d5 + 1) (bX5_mixedTrials_5 x x1) (tX5_mixedTrials_J26 x x1 d5 y3_5 5592405 v_5))) := by have e2 := congrArg (fun z => (tX5_mixedTrials_5 x x1 (lpF n5 (d5 + 1) (bX5_mixedTrials_5 x x1) z))) e_7; exact hg.trans e2
          exact J26 y3_5 5592405 v_5 hg _ _ hP hS _ (lv_sub hl [0, 1, 2] rfl)
        · refine lv_ldcw (v := 16777215) hC.1 hC.2.1 hC.2.2.2.2.1 (hC.2.2.2.2.2.2.1 _ wd_481) dX5_mixedTrials_17 ?_
          refine lv_goto (tgt := 26) hC.1 hC.2.1 dX5_mixedTrials_20 (by decide) ?_
          have e_8 : bX5_mixedTrials_5 x x1 d5 (y3_5, v_5) = tX5_mixedTrials_J26 x x1 d5 y3_5 16777215 v_5 := by
            delta bX5_mixedTrials_5
            try dsimp only
            exact Eq.trans (if_pos k14) rfl
          have hg : fX5_mixedTrials x x1 = (tX5_mixedTrials_5 x x1 (lpF n5 (d5 + 1) (bX5_mixedTrials_5 x x1) (tX5_mixedTrials_J26 x x1 d5 y3_5 16777215 v_5))) := by have e2 := congrArg (fun z => (tX5_mixedTrials_5 x x1 (lpF n5 (d5 + 1) (bX5_mixedTrials_5 x x1) z))) e_8; exact hg.trans e2
          exact J26 y3_5 16777215 v_5 hg _ _ hP hS _ (lv_sub hl [0, 1, 2] rfl)
  have e_9 : fX5_mixedTrials x x1 = tX5_mixedTrials_5 x x1 (lpF 2 0 (bX5_mixedTrials_5 x x1) (x1, x)) := by
    delta fX5_mixedTrials
    try dsimp only
    try exact rfl
  have hg : fX5_mixedTrials x x1 = (tX5_mixedTrials_5 x x1 (lpF 2 0 (bX5_mixedTrials_5 x x1) (x1, x))) := by have e2 := congrArg (fun z => z) e_9; exact hg.trans e2
  exact L5  2 0 x1 x (by omega) hg _ _ hP hS _ (lv_sub hl [2, 1, 0] rfl)
