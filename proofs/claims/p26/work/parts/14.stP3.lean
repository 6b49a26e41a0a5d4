def fX3_numberOfLine (v : SV) (x1 : Int32) (x2 : Int32) : Int32 := if x1 < 0 then ((-1)) else (if x1 < (v 8 0) then (if x2 = 0 then (fX5_at 12 (v 3) x1) else if x2 = 1 then (fX5_at 12 (v 4) x1) else (fX5_at 12 (v 5) x1)) else ((-1)))
def fX3_textLength (v : SV) (x1 : Int32) : Int32 := 24 + (if 0 < ((fX5_at 12 (v 5) x1) - 1) then ((fX5_at 12 (v 5) x1) - 1) else 0)
def fX3_sign (v : SV) (x1 : Int32) (x2 : Int32) : Int32 := if x1 < 0 then ((-1)) else (if (v 8 0) ≤ x1 then ((-1)) else (if x2 < 0 then ((-1)) else (if x2 < (fX3_textLength v x1) then (if x2 < 24 then (if (fX5_bitOf (fX5_at 12 (v 3) x1) x2) = 1 then (35) else (if (fX5_bitOf (fX5_at 12 (v 4) x1) x2) = 1 then (43) else (46))) else (124)) else ((-1)))))
def tX4_dotByDot_4 (v : SV) (s : Int32) : Int32 := let y1_4 := s; y1_4
def bX4_dotByDot_4 (v : SV) (d4 : Nat) (s : Int32) : Int32 := let y1_4 := s; y1_4 + ((v 6) d4)
def fX4_dotByDot (v : SV) : Int32 := tX4_dotByDot_4 v (lpF 24 0 (bX4_dotByDot_4 v) 0)
theorem dX3_numberOfLine_0 : decode cX3_numberOfLine 0 = .ok (.iload_n 1, 1) := by decide +kernel
theorem dX3_numberOfLine_1 : decode cX3_numberOfLine 1 = .ok (.ifCond .lt 11, 3) := by decide +kernel
theorem dX3_numberOfLine_4 : decode cX3_numberOfLine 4 = .ok (.iload_n 1, 1) := by decide +kernel
theorem dX3_numberOfLine_5 : decode cX3_numberOfLine 5 = .ok (.aload_n 0, 1) := by decide +kernel
theorem dX3_numberOfLine_6 : decode cX3_numberOfLine 6 = .ok (.getfield 21, 3) := by decide +kernel
theorem dX3_numberOfLine_9 : decode cX3_numberOfLine 9 = .ok (.if_icmp .lt 5, 3) := by decide +kernel
theorem dX3_numberOfLine_12 : decode cX3_numberOfLine 12 = .ok (.iconst (-1), 1) := by decide +kernel
theorem dX3_numberOfLine_13 : decode cX3_numberOfLine 13 = .ok (.ireturn, 1) := by decide +kernel
theorem dX3_numberOfLine_14 : decode cX3_numberOfLine 14 = .ok (.iload_n 2, 1) := by decide +kernel
theorem dX3_numberOfLine_15 : decode cX3_numberOfLine 15 = .ok (.lookupswitch 43 #[(0, 25), (1, 34)], 25) := by decide +kernel
theorem dX3_numberOfLine_40 : decode cX3_numberOfLine 40 = .ok (.aload_n 0, 1) := by decide +kernel
theorem dX3_numberOfLine_41 : decode cX3_numberOfLine 41 = .ok (.getfield 11, 3) := by decide +kernel
theorem dX3_numberOfLine_44 : decode cX3_numberOfLine 44 = .ok (.iload_n 1, 1) := by decide +kernel
theorem dX3_numberOfLine_45 : decode cX3_numberOfLine 45 = .ok (.invokestatic 43, 3) := by decide +kernel
theorem dX3_numberOfLine_48 : decode cX3_numberOfLine 48 = .ok (.ireturn, 1) := by decide +kernel
theorem dX3_numberOfLine_49 : decode cX3_numberOfLine 49 = .ok (.aload_n 0, 1) := by decide +kernel
theorem dX3_numberOfLine_50 : decode cX3_numberOfLine 50 = .ok (.getfield 15, 3) := by decide +kernel
theorem dX3_numberOfLine_53 : decode cX3_numberOfLine 53 = .ok (.iload_n 1, 1) := by decide +kernel
theorem dX3_numberOfLine_54 : decode cX3_numberOfLine 54 = .ok (.invokestatic 43, 3) := by decide +kernel
theorem dX3_numberOfLine_57 : decode cX3_numberOfLine 57 = .ok (.ireturn, 1) := by decide +kernel
theorem dX3_numberOfLine_58 : decode cX3_numberOfLine 58 = .ok (.aload_n 0, 1) := by decide +kernel
theorem dX3_numberOfLine_59 : decode cX3_numberOfLine 59 = .ok (.getfield 18, 3) := by decide +kernel
theorem dX3_numberOfLine_62 : decode cX3_numberOfLine 62 = .ok (.iload_n 1, 1) := by decide +kernel
theorem dX3_numberOfLine_63 : decode cX3_numberOfLine 63 = .ok (.invokestatic 43, 3) := by decide +kernel
theorem dX3_numberOfLine_66 : decode cX3_numberOfLine 66 = .ok (.ireturn, 1) := by decide +kernel
set_option maxHeartbeats 1000000 in
set_option maxRecDepth 100000 in
theorem c_X3_numberOfLine (l : Launch) (G : GT) (q : Nat → Nat) (v : SV) (x1 : Int32) (x2 : Int32) : Met l yX3_numberOfLine (Cond.code yX3_numberOfLine cX3_numberOfLine 3 (some .int) :: bigW) ({ frames := 1, cells := 0, slots := 0, locals := 21 }) (BP G [.ref (q 4), .int x1, .int x2] (fun U H => PW G (stW G q v) H)) (QP (.int (fX3_numberOfLine v x1 x2))) 0 0 (fun _ => False) := by
  refine met_of (by decide) (Nat.le_of_ble_eq_true rfl) ?_
  intro p e s m below meth c ls hC hKN hB0 hl
  have hP := hB0
  have hl : lv_has ls 3 [(0, .ref (q 4)), (1, .int x1), (2, .int x2)] := hl
  have hg : fX3_numberOfLine v x1 x2 = fX3_numberOfLine v x1 x2 := rfl
  refine lv_iload_n hC.1 hC.2.1 dX3_numberOfLine_0 rfl (lv_at hl 1 rfl) ?_
  refine lv_if_lt (tgt := 12) hC.1 hC.2.1 dX3_numberOfLine_1 (by decide) (fun k1 => ?_) (fun k1 => ?_)
  · refine lv_iconst (v := (-1)) hC.1 hC.2.1 dX3_numberOfLine_12 (by decide) ?_
    have e_1 : fX3_numberOfLine v x1 x2 = (-1) := by exact Eq.trans (if_pos k1) rfl
    have hg : fX3_numberOfLine v x1 x2 = (-1) := hg.trans (congrArg (fun z => z) e_1)
    exact eP_i hC (congrArg Value.int hg) dX3_numberOfLine_13
  · refine lv_iload_n hC.1 hC.2.1 dX3_numberOfLine_4 rfl (lv_at hl 1 rfl) ?_
    refine lv_aload_n hC.1 hC.2.1 dX3_numberOfLine_5 rfl (lv_at hl 0 rfl) ?_
    refine gf (v := .int (v 8 0)) hC fwX3 hKN hP 4 rfl rfl 3 (by decide) rfl wd_49 rfl dX3_numberOfLine_6 ?_
    refine lv_icmp_lt (tgt := 14) hC.1 hC.2.1 dX3_numberOfLine_9 (by decide) (fun k9 => ?_) (fun k9 => ?_)
    · refine lv_iload_n hC.1 hC.2.1 dX3_numberOfLine_14 rfl (lv_at hl 2 rfl) ?_
      by_cases k15_0 : x2 = 0
      · refine lkIn hC (tgt := 40) (off := 25) 0 k15_0 dX3_numberOfLine_15 (by decide) (by decide) (by decide) ?_
        refine lv_aload_n hC.1 hC.2.1 dX3_numberOfLine_40 rfl (lv_at hl 0 rfl) ?_
        refine gf (v := .ref (q 5)) hC fwX3 hKN hP 4 rfl rfl 0 (by decide) rfl wd_46 rfl dX3_numberOfLine_41 ?_
        refine lv_iload_n hC.1 hC.2.1 dX3_numberOfLine_44 rfl (lv_at hl 1 rfl) ?_
        refine runP (rSN (B := fun U H => RD (q 5) 12 (v 3) U H) (As := [.ref (q 5), .int x1]) (rest := []) hC mwX5_at (c_X5_at l G (q 5) 12 (v 3) x1) wd_328 (nm_3 hKN) ⟨rfl, rfl⟩ ⟨Nat.le_of_ble_eq_true rfl, Nat.le_of_ble_eq_true rfl⟩ (stb_RD _ _ _) hKN (RD.ofP hKN hP 5 rfl) rfl hl.1 rfl (Nat.le_of_ble_eq_true rfl) dX3_numberOfLine_45 ⟨Nat.zero_le _, Nat.zero_le _⟩) ?_
        have e_2 : fX3_numberOfLine v x1 x2 = fX5_at 12 (v 3) x1 := by exact Eq.trans (if_neg k1) (Eq.trans (if_pos k9) (Eq.trans (if_pos k15_0) rfl))
        have hg : fX3_numberOfLine v x1 x2 = fX5_at 12 (v 3) x1 := hg.trans (congrArg (fun z => z) e_2)
        exact eP_i hC (congrArg Value.int hg) dX3_numberOfLine_48
      · skip
        by_cases k15_1 : x2 = 1
        · refine lkIn hC (tgt := 49) (off := 34) 1 k15_1 dX3_numberOfLine_15 (by decide) (by decide) (by decide) ?_
          refine lv_aload_n hC.1 hC.2.1 dX3_numberOfLine_49 rfl (lv_at hl 0 rfl) ?_
          refine gf (v := .ref (q 6)) hC fwX3 hKN hP 4 rfl rfl 1 (by decide) rfl wd_47 rfl dX3_numberOfLine_50 ?_
          refine lv_iload_n hC.1 hC.2.1 dX3_numberOfLine_53 rfl (lv_at hl 1 rfl) ?_
          refine runP (rSN (B := fun U H => RD (q 6) 12 (v 4) U H) (As := [.ref (q 6), .int x1]) (rest := []) hC mwX5_at (c_X5_at l G (q 6) 12 (v 4) x1) wd_328 (nm_3 hKN) ⟨rfl, rfl⟩ ⟨Nat.le_of_ble_eq_true rfl, Nat.le_of_ble_eq_true rfl⟩ (stb_RD _ _ _) hKN (RD.ofP hKN hP 6 rfl) rfl hl.1 rfl (Nat.le_of_ble_eq_true rfl) dX3_numberOfLine_54 ⟨Nat.zero_le _, Nat.zero_le _⟩) ?_
          have e_3 : fX3_numberOfLine v x1 x2 = fX5_at 12 (v 4) x1 := by exact Eq.trans (if_neg k1) (Eq.trans (if_pos k9) (Eq.trans (if_neg k15_0) (Eq.trans (if_pos k15_1) rfl)))
          have hg : fX3_numberOfLine v x1 x2 = fX5_at 12 (v 4) x1 := hg.trans (congrArg (fun z => z) e_3)
          exact eP_i hC (congrArg Value.int hg) dX3_numberOfLine_57
        · skip
          have z15_0 : ¬ x2.toInt = 0 := ne_toInt k15_0
          have z15_1 : ¬ x2.toInt = 1 := ne_toInt k15_1
          refine lv_lookup (tgt := 58) hC.1 hC.2.1 dX3_numberOfLine_15 (by decide) (off := 43) (by simp [Op.lookupswitch.offset, z15_0, Ne.symm z15_0, z15_1, Ne.symm z15_1]) (by decide) ?_
          refine lv_aload_n hC.1 hC.2.1 dX3_numberOfLine_58 rfl (lv_at hl 0 rfl) ?_
          refine gf (v := .ref (q 7)) hC fwX3 hKN hP 4 rfl rfl 2 (by decide) rfl wd_48 rfl dX3_numberOfLine_59 ?_
          refine lv_iload_n hC.1 hC.2.1 dX3_numberOfLine_62 rfl (lv_at hl 1 rfl) ?_
          refine runP (rSN (B := fun U H => RD (q 7) 12 (v 5) U H) (As := [.ref (q 7), .int x1]) (rest := []) hC mwX5_at (c_X5_at l G (q 7) 12 (v 5) x1) wd_328 (nm_3 hKN) ⟨rfl, rfl⟩ ⟨Nat.le_of_ble_eq_true rfl, Nat.le_of_ble_eq_true rfl⟩ (stb_RD _ _ _) hKN (RD.ofP hKN hP 7 rfl) rfl hl.1 rfl (Nat.le_of_ble_eq_true rfl) dX3_numberOfLine_63 ⟨Nat.zero_le _, Nat.zero_le _⟩) ?_
          have e_4 : fX3_numberOfLine v x1 x2 = fX5_at 12 (v 5) x1 := by exact Eq.trans (if_neg k1) (Eq.trans (if_pos k9) (Eq.trans (if_neg k15_0) (Eq.trans (if_neg k15_1) rfl)))
          have hg : fX3_numberOfLine v x1 x2 = fX5_at 12 (v 5) x1 := hg.trans (congrArg (fun z => z) e_4)
          exact eP_i hC (congrArg Value.int hg) dX3_numberOfLine_66
    · refine lv_iconst (v := (-1)) hC.1 hC.2.1 dX3_numberOfLine_12 (by decide) ?_
      have e_5 : fX3_numberOfLine v x1 x2 = (-1) := by exact Eq.trans (if_neg k1) (Eq.trans (if_neg k9) rfl)
      have hg : fX3_numberOfLine v x1 x2 = (-1) := hg.trans (congrArg (fun z => z) e_5)
      exact eP_i hC (congrArg Value.int hg) dX3_numberOfLine_13

theorem dX3_textLength_0 : decode cX3_textLength 0 = .ok (.bipush 24, 2) := by decide +kernel
theorem dX3_textLength_2 : decode cX3_textLength 2 = .ok (.iconst 0, 1) := by decide +kernel
theorem dX3_textLength_3 : decode cX3_textLength 3 = .ok (.aload_n 0, 1) := by decide +kernel
theorem dX3_textLength_4 : decode cX3_textLength 4 = .ok (.getfield 18, 3) := by decide +kernel
theorem dX3_textLength_7 : decode cX3_textLength 7 = .ok (.iload_n 1, 1) := by decide +kernel
theorem dX3_textLength_8 : decode cX3_textLength 8 = .ok (.invokestatic 43, 3) := by decide +kernel
theorem dX3_textLength_11 : decode cX3_textLength 11 = .ok (.iconst 1, 1) := by decide +kernel
theorem dX3_textLength_12 : decode cX3_textLength 12 = .ok (.isub, 1) := by decide +kernel
theorem dX3_textLength_13 : decode cX3_textLength 13 = .ok (.invokestatic 47, 3) := by decide +kernel
theorem dX3_textLength_16 : decode cX3_textLength 16 = .ok (.iadd, 1) := by decide +kernel
theorem dX3_textLength_17 : decode cX3_textLength 17 = .ok (.ireturn, 1) := by decide +kernel
set_option maxHeartbeats 1000000 in
set_option maxRecDepth 100000 in
theorem c_X3_textLength (l : Launch) (G : GT) (q : Nat → Nat) (v : SV) (x1 : Int32) : Met l yX3_textLength (Cond.code yX3_textLength cX3_textLength 2 (some .int) :: bigW) ({ frames := 1, cells := 0, slots := 0, locals := 24 }) (BP G [.ref (q 4), .int x1] (fun U H => PW G (stW G q v) H)) (QP (.int (fX3_textLength v x1))) 0 0 (fun _ => False) := by
  refine met_of (by decide) (Nat.le_of_ble_eq_true rfl) ?_
  intro p e s m below meth c ls hC hKN hB0 hl
  have hP := hB0
  have hl : lv_has ls 2 [(0, .ref (q 4)), (1, .int x1)] := hl
  have hg : fX3_textLength v x1 = fX3_textLength v x1 := rfl
  refine lv_bipush (v := 24) hC.1 hC.2.1 dX3_textLength_0 (by decide +kernel) ?_
  refine lv_iconst (v := 0) hC.1 hC.2.1 dX3_textLength_2 (by decide) ?_
  refine lv_aload_n hC.1 hC.2.1 dX3_textLength_3 rfl (lv_at hl 0 rfl) ?_
  refine gf (v := .ref (q 7)) hC fwX3 hKN hP 4 rfl rfl 2 (by decide) rfl wd_48 rfl dX3_textLength_4 ?_
  refine lv_iload_n hC.1 hC.2.1 dX3_textLength_7 rfl (lv_at hl 1 rfl) ?_
  refine runP (rSN (B := fun U H => RD (q 7) 12 (v 5) U H) (As := [.ref (q 7), .int x1]) (rest := [.int 0, .int 24]) hC mwX5_at (c_X5_at l G (q 7) 12 (v 5) x1) wd_328 (nm_3 hKN) ⟨rfl, rfl⟩ ⟨Nat.le_of_ble_eq_true rfl, Nat.le_of_ble_eq_true rfl⟩ (stb_RD _ _ _) hKN (RD.ofP hKN hP 7 rfl) rfl hl.1 rfl (Nat.le_of_ble_eq_true rfl) dX3_textLength_8 ⟨Nat.zero_le _, Nat.zero_le _⟩) ?_
  refine lv_iconst (v := 1) hC.1 hC.2.1 dX3_textLength_11 (by decide) ?_
  refine lv_isub hC.1 hC.2.1 dX3_textLength_12 ?_
  refine va_mmax hC.1 hC.2.1 (hC.2.2.2.1.trans hl.1.symm) hC.2.2.2.2.1 (hC.2.2.2.2.2.2.1 _ wd_422) (hC.2.2.2.2.2.2.1 _ wd_344) (hC.2.2.2.2.2.2.1 _ wd_3) (hC.2.2.2.2.2.2.1 _ wd_345) (Nat.le_of_ble_eq_true rfl) (Nat.le_of_ble_eq_true rfl) (Nat.zero_le _) (Nat.zero_le _) dX3_textLength_13 ?_
  refine lv_iadd hC.1 hC.2.1 dX3_textLength_16 ?_
  have e_1 : fX3_textLength v x1 = 24 + (if 0 < ((fX5_at 12 (v 5) x1) - 1) then ((fX5_at 12 (v 5) x1) - 1) else 0) := by exact rfl
  have hg : fX3_textLength v x1 = 24 + (if 0 < ((fX5_at 12 (v 5) x1) - 1) then ((fX5_at 12 (v 5) x1) - 1) else 0) := hg.trans (congrArg (fun z => z) e_1)
  exact eP_i hC (congrArg Value.int hg) dX3_textLength_17

theorem dX3_sign_0 : decode cX3_sign 0 = .ok (.iload_n 1, 1) := by decide +kernel
theorem dX3_sign_1 : decode cX3_sign 1 = .ok (.ifCond .lt 24, 3) := by decide +kernel
theorem dX3_sign_4 : decode cX3_sign 4 = .ok (.iload_n 1, 1) := by decide +kernel
theorem dX3_sign_5 : decode cX3_sign 5 = .ok (.aload_n 0, 1) := by decide +kernel
theorem dX3_sign_6 : decode cX3_sign 6 = .ok (.getfield 21, 3) := by decide +kernel
theorem dX3_sign_9 : decode cX3_sign 9 = .ok (.if_icmp .ge 16, 3) := by decide +kernel
theorem dX3_sign_12 : decode cX3_sign 12 = .ok (.iload_n 2, 1) := by decide +kernel
theorem dX3_sign_13 : decode cX3_sign 13 = .ok (.ifCond .lt 12, 3) := by decide +kernel
theorem dX3_sign_16 : decode cX3_sign 16 = .ok (.iload_n 2, 1) := by decide +kernel
theorem dX3_sign_17 : decode cX3_sign 17 = .ok (.aload_n 0, 1) := by decide +kernel
theorem dX3_sign_18 : decode cX3_sign 18 = .ok (.iload_n 1, 1) := by decide +kernel
theorem dX3_sign_19 : decode cX3_sign 19 = .ok (.invokevirtual 50, 3) := by decide +kernel
theorem dX3_sign_22 : decode cX3_sign 22 = .ok (.if_icmp .lt 5, 3) := by decide +kernel
theorem dX3_sign_25 : decode cX3_sign 25 = .ok (.iconst (-1), 1) := by decide +kernel
theorem dX3_sign_26 : decode cX3_sign 26 = .ok (.ireturn, 1) := by decide +kernel
theorem dX3_sign_27 : decode cX3_sign 27 = .ok (.iload_n 2, 1) := by decide +kernel
theorem dX3_sign_28 : decode cX3_sign 28 = .ok (.bipush 24, 2) := by decide +kernel
theorem dX3_sign_30 : decode cX3_sign 30 = .ok (.if_icmp .lt 6, 3) := by decide +kernel
theorem dX3_sign_33 : decode cX3_sign 33 = .ok (.bipush 124, 2) := by decide +kernel
theorem dX3_sign_35 : decode cX3_sign 35 = .ok (.ireturn, 1) := by decide +kernel
theorem dX3_sign_36 : decode cX3_sign 36 = .ok (.aload_n 0, 1) := by decide +kernel
theorem dX3_sign_37 : decode cX3_sign 37 = .ok (.getfield 11, 3) := by decide +kernel
theorem dX3_sign_40 : decode cX3_sign 40 = .ok (.iload_n 1, 1) := by decide +kernel
theorem dX3_sign_41 : decode cX3_sign 41 = .ok (.invokestatic 43, 3) := by decide +kernel
theorem dX3_sign_44 : decode cX3_sign 44 = .ok (.iload_n 2, 1) := by decide +kernel
theorem dX3_sign_45 : decode cX3_sign 45 = .ok (.invokestatic 54, 3) := by decide +kernel
theorem dX3_sign_48 : decode cX3_sign 48 = .ok (.iconst 1, 1) := by decide +kernel
theorem dX3_sign_49 : decode cX3_sign 49 = .ok (.if_icmp .ne 6, 3) := by decide +kernel
theorem dX3_sign_52 : decode cX3_sign 52 = .ok (.bipush 35, 2) := by decide +kernel
theorem dX3_sign_54 : decode cX3_sign 54 = .ok (.ireturn, 1) := by decide +kernel
theorem dX3_sign_55 : decode cX3_sign 55 = .ok (.aload_n 0, 1) := by decide +kernel
theorem dX3_sign_56 : decode cX3_sign 56 = .ok (.getfield 15, 3) := by decide +kernel
theorem dX3_sign_59 : decode cX3_sign 59 = .ok (.iload_n 1, 1) := by decide +kernel
theorem dX3_sign_60 : decode cX3_sign 60 = .ok (.invokestatic 43, 3) := by decide +kernel
theorem dX3_sign_63 : decode cX3_sign 63 = .ok (.iload_n 2, 1) := by decide +kernel
theorem dX3_sign_64 : decode cX3_sign 64 = .ok (.invokestatic 54, 3) := by decide +kernel
theorem dX3_sign_67 : decode cX3_sign 67 = .ok (.iconst 1, 1) := by decide +kernel
theorem dX3_sign_68 : decode cX3_sign 68 = .ok (.if_icmp .ne 8, 3) := by decide +kernel
theorem dX3_sign_71 : decode cX3_sign 71 = .ok (.bipush 43, 2) := by decide +kernel
theorem dX3_sign_73 : decode cX3_sign 73 = .ok (.goto 5, 3) := by decide +kernel
theorem dX3_sign_76 : decode cX3_sign 76 = .ok (.bipush 46, 2) := by decide +kernel
theorem dX3_sign_78 : decode cX3_sign 78 = .ok (.ireturn, 1) := by decide +kernel
set_option maxHeartbeats 1000000 in
set_option maxRecDepth 100000 in
theorem c_X3_sign (l : Launch) (G : GT) (q : Nat → Nat) (v : SV) (x1 : Int32) (x2 : Int32) : Met l yX3_sign (Cond.code yX3_sign cX3_sign 3 (some .int) :: bigW) ({ frames := 2, cells := 0, slots := 0, locals := 45 }) (BP G [.ref (q 4), .int x1, .int x2] (fun U H => PW G (stW G q v) H)) (QP (.int (fX3_sign v x1 x2))) 0 0 (fun _ => False) := by
  refine met_of (by decide) (Nat.le_of_ble_eq_true rfl) ?_
  intro p e s m below meth c ls hC hKN hB0 hl
  have hP := hB0
  have hl : lv_has ls 3 [(0, .ref (q 4)), (1, .int x1), (2, .int x2)] := hl
  have hg : fX3_sign v x1 x2 = fX3_sign v x1 x2 := rfl
  refine lv_iload_n hC.1 hC.2.1 dX3_sign_0 rfl (lv_at hl 1 rfl) ?_
  refine lv_if_lt (tgt := 25) hC.1 hC.2.1 dX3_sign_1 (by decide) (fun k1 => ?_) (fun k1 => ?_)
  · refine lv_iconst (v := (-1)) hC.1 hC.2.1 dX3_sign_25 (by decide) ?_
    have e_1 : fX3_sign v x1 x2 = (-1) := by exact Eq.trans (if_pos k1) rfl
    have hg : fX3_sign v x1 x2 = (-1) := hg.trans (congrArg (fun z => z) e_1)
    exact eP_i hC (congrArg Value.int hg) dX3_sign_26
  · refine lv_iload_n hC.1 hC.2.1 dX3_sign_4 rfl (lv_at hl 1 rfl) ?_
    refine lv_aload_n hC.1 hC.2.1 dX3_sign_5 rfl (lv_at hl 0 rfl) ?_
    refine gf (v := .int (v 8 0)) hC fwX3 hKN hP 4 rfl rfl 3 (by decide) rfl wd_49 rfl dX3_sign_6 ?_
    refine lv_icmp_ge (tgt := 25) hC.1 hC.2.1 dX3_sign_9 (by decide) (fun k9 => ?_) (fun k9 => ?_)
    · refine lv_iconst (v := (-1)) hC.1 hC.2.1 dX3_sign_25 (by decide) ?_
      have e_2 : fX3_sign v x1 x2 = (-1) := by exact Eq.trans (if_neg k1) (Eq.trans (if_pos k9) rfl)
      have hg : fX3_sign v x1 x2 = (-1) := hg.trans (congrArg (fun z => z) e_2)
      exact eP_i hC (congrArg Value.int hg) dX3_sign_26
    · refine lv_iload_n hC.1 hC.2.1 dX3_sign_12 rfl (lv_at hl 2 rfl) ?_
      refine lv_if_lt (tgt := 25) hC.1 hC.2.1 dX3_sign_13 (by decide) (fun k13 => ?_) (fun k13 => ?_)
      · refine lv_iconst (v := (-1)) hC.1 hC.2.1 dX3_sign_25 (by decide) ?_
        have e_3 : fX3_sign v x1 x2 = (-1) := by exact Eq.trans (if_neg k1) (Eq.trans (if_neg k9) (Eq.trans (if_pos k13) rfl))
        have hg : fX3_sign v x1 x2 = (-1) := hg.trans (congrArg (fun z => z) e_3)
        exact eP_i hC (congrArg Value.int hg) dX3_sign_26
      · refine lv_iload_n hC.1 hC.2.1 dX3_sign_16 rfl (lv_at hl 2 rfl) ?_
        refine lv_aload_n hC.1 hC.2.1 dX3_sign_17 rfl (lv_at hl 0 rfl) ?_
        refine lv_iload_n hC.1 hC.2.1 dX3_sign_18 rfl (lv_at hl 1 rfl) ?_
        refine runP (rV (B := fun U H => PW G (stW G q v) H) (As := [.int x1]) (rest := [.int x2]) hC mwX3_textLength (c_X3_textLength l G q v x1) iwX3_textLength wd_418 ⟨rfl, rfl⟩ ⟨Nat.le_of_ble_eq_true rfl, Nat.le_of_ble_eq_true rfl⟩ (stb_h (fun H => PW G (stW G q v) H)) hKN hP (va_recv hKN.k hP (ci := 3) (q0 := 4) rfl rfl) rfl hl.1 rfl (Nat.le_of_ble_eq_true rfl) dX3_sign_19 ⟨Nat.zero_le _, Nat.zero_le _⟩) ?_
        refine lv_icmp_lt (tgt := 27) hC.1 hC.2.1 dX3_sign_22 (by decide) (fun k22 => ?_) (fun k22 => ?_)
        · refine lv_iload_n hC.1 hC.2.1 dX3_sign_27 rfl (lv_at hl 2 rfl) ?_
          refine lv_bipush (v := 24) hC.1 hC.2.1 dX3_sign_28 (by decide +kernel) ?_
          refine lv_icmp_lt (tgt := 36) hC.1 hC.2.1 dX3_sign_30 (by decide) (fun k30 => ?_) (fun k30 => ?_)
          · refine lv_aload_n hC.1 hC.2.1 dX3_sign_36 rfl (lv_at hl 0 rfl) ?_
            refine gf (v := .ref (q 5)) hC fwX3 hKN hP 4 rfl rfl 0 (by decide) rfl wd_46 rfl dX3_sign_37 ?_
            refine lv_iload_n hC.1 hC.2.1 dX3_sign_40 rfl (lv_at hl 1 rfl) ?_
            refine runP (rSN (B := fun U H => RD (q 5) 12 (v 3) U H) (As := [.ref (q 5), .int x1]) (rest := []) hC mwX5_at (c_X5_at l G (q 5) 12 (v 3) x1) wd_328 (nm_3 hKN) ⟨rfl, rfl⟩ ⟨Nat.le_of_ble_eq_true rfl, Nat.le_of_ble_eq_true rfl⟩ (stb_RD _ _ _) hKN (RD.ofP hKN hP 5 rfl) rfl hl.1 rfl (Nat.le_of_ble_eq_true rfl) dX3_sign_41 ⟨Nat.zero_le _, Nat.zero_le _⟩) ?_
            refine lv_iload_n hC.1 hC.2.1 dX3_sign_44 rfl (lv_at hl 2 rfl) ?_
            refine runP (rSN (B := fun U H => True) (As := [.int (fX5_at 12 (v 3) x1), .int x2]) (rest := []) hC mwX5_bitOf (c_X5_bitOf l G (fX5_at 12 (v 3) x1) x2) wd_331 (nm_4 hKN) ⟨rfl, rfl⟩ ⟨Nat.le_of_ble_eq_true rfl, Nat.le_of_ble_eq_true rfl⟩ (fun _ _ _ _ h => h) hKN trivial rfl hl.1 rfl (Nat.le_of_ble_eq_true rfl) dX3_sign_45 ⟨Nat.zero_le _, Nat.zero_le _⟩) ?_
            refine lv_iconst (v := 1) hC.1 hC.2.1 dX3_sign_48 (by decide) ?_
            refine lv_icmp_ne (tgt := 55) hC.1 hC.2.1 dX3_sign_49 (by decide) (fun k49 => ?_) (fun k49 => ?_)
            · refine lv_aload_n hC.1 hC.2.1 dX3_sign_55 rfl (lv_at hl 0 rfl) ?_
              refine gf (v := .ref (q 6)) hC fwX3 hKN hP 4 rfl rfl 1 (by decide) rfl wd_47 rfl dX3_sign_56 ?_
              refine lv_iload_n hC.1 hC.2.1 dX3_sign_59 rfl (lv_at hl 1 rfl) ?_
              refine runP (rSN (B := fun U H => RD (q 6) 12 (v 4) U H) (As := [.ref (q 6), .int x1]) (rest := []) hC mwX5_at (c_X5_at l G (q 6) 12 (v 4) x1) wd_328 (nm_3 hKN) ⟨rfl, rfl⟩ ⟨Nat.le_of_ble_eq_true rfl, Nat.le_of_ble_eq_true rfl⟩ (stb_RD _ _ _) hKN (RD.ofP hKN hP 6 rfl) rfl hl.1 rfl (Nat.le_of_ble_eq_true rfl) dX3_sign_60 ⟨Nat.zero_le _, Nat.zero_le _⟩) ?_
              refine lv_iload_n hC.1 hC.2.1 dX3_sign_63 rfl (lv_at hl 2 rfl) ?_
              refine runP (rSN (B := fun U H => True) (As := [.int (fX5_at 12 (v 4) x1), .int x2]) (rest := []) hC mwX5_bitOf (c_X5_bitOf l G (fX5_at 12 (v 4) x1) x2) wd_331 (nm_4 hKN) ⟨rfl, rfl⟩ ⟨Nat.le_of_ble_eq_true rfl, Nat.le_of_ble_eq_true rfl⟩ (fun _ _ _ _ h => h) hKN trivial rfl hl.1 rfl (Nat.le_of_ble_eq_true rfl) dX3_sign_64 ⟨Nat.zero_le _, Nat.zero_le _⟩) ?_
              refine lv_iconst (v := 1) hC.1 hC.2.1 dX3_sign_67 (by decide) ?_
              refine lv_icmp_ne (tgt := 76) hC.1 hC.2.1 dX3_sign_68 (by decide) (fun k68 => ?_) (fun k68 => ?_)
              · refine lv_bipush (v := 46) hC.1 hC.2.1 dX3_sign_76 (by decide +kernel) ?_
                have e_4 : fX3_sign v x1 x2 = 46 := by exact Eq.trans (if_neg k1) (Eq.trans (if_neg k9) (Eq.trans (if_neg k13) (Eq.trans (if_pos k22) (Eq.trans (if_pos k30) (Eq.trans (if_neg k49) (Eq.trans (if_neg k68) rfl))))))
                have hg : fX3_sign v x1 x2 = 46 := hg.trans (congrArg (fun z => z) e_4)
                exact eP_i hC (congrArg Value.int hg) dX3_sign_78
              · refine lv_bipush (v := 43) hC.1 hC.2.1 dX3_sign_71 (by decide +kernel) ?_
                refine lv_goto (tgt := 78) hC.1 hC.2.1 dX3_sign_73 (by decide) ?_
                have e_5 : fX3_sign v x1 x2 = 43 := by exact Eq.trans (if_neg k1) (Eq.trans (if_neg k9) (Eq.trans (if_neg k13) (Eq.trans (if_pos k22) (Eq.trans (if_pos k30) (Eq.trans (if_neg k49) (Eq.trans (if_pos k68) rfl))))))
                have hg : fX3_sign v x1 x2 = 43 := hg.trans (congrArg (fun z => z) e_5)
                exact eP_i hC (congrArg Value.int hg) dX3_sign_78
            · refine lv_bipush (v := 35) hC.1 hC.2.1 dX3_sign_52 (by decide +kernel) ?_
              have e_6 : fX3_sign v x1 x2 = 35 := by exact Eq.trans (if_neg k1) (Eq.trans (if_neg k9) (Eq.trans (if_neg k13) (Eq.trans (if_pos k22) (Eq.trans (if_pos k30) (Eq.trans (if_pos k49) rfl)))))
              have hg : fX3_sign v x1 x2 = 35 := hg.trans (congrArg (fun z => z) e_6)
              exact eP_i hC (congrArg Value.int hg) dX3_sign_54
          · refine lv_bipush (v := 124) hC.1 hC.2.1 dX3_sign_33 (by decide +kernel) ?_
            have e_7 : fX3_sign v x1 x2 = 124 := by exact Eq.trans (if_neg k1) (Eq.trans (if_neg k9) (Eq.trans (if_neg k13) (Eq.trans (if_pos k22) (Eq.trans (if_neg k30) rfl))))
            have hg : fX3_sign v x1 x2 = 124 := hg.trans (congrArg (fun z => z) e_7)
            exact eP_i hC (congrArg Value.int hg) dX3_sign_35
        · refine lv_iconst (v := (-1)) hC.1 hC.2.1 dX3_sign_25 (by decide) ?_
          have e_8 : fX3_sign v x1 x2 = (-1) := by exact Eq.trans (if_neg k1) (Eq.trans (if_neg k9) (Eq.trans (if_neg k13) (Eq.trans (if_neg k22) rfl)))
          have hg : fX3_sign v x1 x2 = (-1) := hg.trans (congrArg (fun z => z) e_8)
          exact eP_i hC (congrArg Value.int hg) dX3_sign_26

theorem dX4_dotByDot_0 : decode cX4_dotByDot 0 = .ok (.iconst 0, 1) := by decide +kernel
theorem dX4_dotByDot_1 : decode cX4_dotByDot 1 = .ok (.istore_n 1, 1) := by decide +kernel
theorem dX4_dotByDot_2 : decode cX4_dotByDot 2 = .ok (.iconst 0, 1) := by decide +kernel
theorem dX4_dotByDot_3 : decode cX4_dotByDot 3 = .ok (.istore_n 2, 1) := by decide +kernel
theorem dX4_dotByDot_4 : decode cX4_dotByDot 4 = .ok (.iload_n 2, 1) := by decide +kernel
theorem dX4_dotByDot_5 : decode cX4_dotByDot 5 = .ok (.aload_n 0, 1) := by decide +kernel
theorem dX4_dotByDot_6 : decode cX4_dotByDot 6 = .ok (.getfield 9, 3) := by decide +kernel
theorem dX4_dotByDot_9 : decode cX4_dotByDot 9 = .ok (.arraylength, 1) := by decide +kernel
theorem dX4_dotByDot_10 : decode cX4_dotByDot 10 = .ok (.if_icmp .ge 18, 3) := by decide +kernel
theorem dX4_dotByDot_13 : decode cX4_dotByDot 13 = .ok (.iload_n 1, 1) := by decide +kernel
theorem dX4_dotByDot_14 : decode cX4_dotByDot 14 = .ok (.aload_n 0, 1) := by decide +kernel
theorem dX4_dotByDot_15 : decode cX4_dotByDot 15 = .ok (.getfield 9, 3) := by decide +kernel
theorem dX4_dotByDot_18 : decode cX4_dotByDot 18 = .ok (.iload_n 2, 1) := by decide +kernel
theorem dX4_dotByDot_19 : decode cX4_dotByDot 19 = .ok (.iaload, 1) := by decide +kernel
theorem dX4_dotByDot_20 : decode cX4_dotByDot 20 = .ok (.iadd, 1) := by decide +kernel
theorem dX4_dotByDot_21 : decode cX4_dotByDot 21 = .ok (.istore_n 1, 1) := by decide +kernel
theorem dX4_dotByDot_22 : decode cX4_dotByDot 22 = .ok (.iinc 2 1, 3) := by decide +kernel
theorem dX4_dotByDot_25 : decode cX4_dotByDot 25 = .ok (.goto (-21), 3) := by decide +kernel
theorem dX4_dotByDot_28 : decode cX4_dotByDot 28 = .ok (.iload_n 1, 1) := by decide +kernel
theorem dX4_dotByDot_29 : decode cX4_dotByDot 29 = .ok (.ireturn, 1) := by decide +kernel
set_option maxHeartbeats 1000000 in
set_option maxRecDepth 100000 in
theorem c_X4_dotByDot (l : Launch) (G : GT) (q : Nat → Nat) (v : SV) : Met l yX4_dotByDot (Cond.code yX4_dotByDot cX4_dotByDot 3 (some .int) :: bigW) ({ frames := 0, cells := 0, slots := 0, locals := 0 }) (BP G [.ref (q 8)] (fun U H => PW G (stW G q v) H)) (QP (.int (fX4_dotByDot v))) 0 0 (fun _ => False) := by
  refine met_of (by decide) (Nat.le_of_ble_eq_true rfl) ?_
  intro p e s m below meth c ls hC hKN hB0 hl
  have hP := hB0
  have hl : lv_has ls 3 [(0, .ref (q 8))] := hl
  have hg : fX4_dotByDot v = fX4_dotByDot v := rfl
  refine lv_iconst (v := 0) hC.1 hC.2.1 dX4_dotByDot_0 (by decide) ?_
  refine lv_istore_n (lv' := [(1, .int 0), (0, .ref (q 8))]) hC.1 hC.2.1 dX4_dotByDot_1 rfl hl (by decide) rfl (fun ls hl => ?_)
  refine lv_iconst (v := 0) hC.1 hC.2.1 dX4_dotByDot_2 (by decide) ?_
  refine lv_istore_n (lv' := [(2, .int 0), (1, .int 0), (0, .ref (q 8))]) hC.1 hC.2.1 dX4_dotByDot_3 rfl hl (by decide) rfl (fun ls hl => ?_)
  have A4 : ∀ (y1_4 : Int32), fX4_dotByDot v = (tX4_dotByDot_4 v y1_4) → ∀ (ls : Array Slot), lv_has ls 3 [(1, .int y1_4)] → W p l e ({ frames := 0, cells := 0, slots := 0, locals := 0 }) s m ([.ref (q 8)] : List Value).toArray below meth c s.heap [] 0 0 (MQ below (QP (.int (fX4_dotByDot v))) ([.ref (q 8)] : List Value).toArray s 0 0 (fun _ => False)) (F0 m 28 ls []) := by
    intro  y1_4 hg ls hl
    refine lv_iload_n hC.1 hC.2.1 dX4_dotByDot_28 rfl (lv_at hl 0 rfl) ?_
    have e_1 : tX4_dotByDot_4 v y1_4 = y1_4 := by exact rfl
    have hg : fX4_dotByDot v = y1_4 := hg.trans (congrArg (fun z => z) e_1)
    exact eP_i hC (congrArg Value.int hg) dX4_dotByDot_29
  have L4 : ∀ (n4 d4 : Nat), ∀ (y1_4 : Int32), d4 + n4 = 24 → fX4_dotByDot v = (tX4_dotByDot_4 v (lpF n4 d4 (bX4_dotByDot_4 v) y1_4)) → ∀ (ls : Array Slot), lv_has ls 3 [(0, .ref (q 8)), (1, .int y1_4), (2, .int (nI d4))] → W p l e ({ frames := 0, cells := 0, slots := 0, locals := 0 }) s m ([.ref (q 8)] : List Value).toArray below meth c s.heap [] 0 0 (MQ below (QP (.int (fX4_dotByDot v))) ([.ref (q 8)] : List Value).toArray s 0 0 (fun _ => False)) (F0 m 4 ls []) := by
    intro n4
    induction n4 with
    | zero =>
      intro d4 y1_4 hd hg ls hl
      refine lv_iload_n hC.1 hC.2.1 dX4_dotByDot_4 rfl (lv_at hl 2 rfl) ?_
      refine lv_aload_n hC.1 hC.2.1 dX4_dotByDot_5 rfl (lv_at hl 0 rfl) ?_
      refine gf (v := .ref (q 9)) hC fwX4 hKN hP 8 rfl rfl 0 (by decide) rfl wd_68 rfl dX4_dotByDot_6 ?_
      refine alen_n hC hKN hP 9 rfl dX4_dotByDot_9 ?_
      refine lv_icmp_ge (tgt := 28) hC.1 hC.2.1 dX4_dotByDot_10 (by decide) (fun k10 => ?_) (fun k10 => ?_)
      · exact A4  y1_4 hg _ (lv_sub hl [1] rfl)
      · exact absurd (nI_le (a := 24) (b := d4) (by omega) (by omega)) k10
    | succ n4 ih =>
      intro d4 y1_4 hd hg ls hl
      have hg : fX4_dotByDot v = (tX4_dotByDot_4 v (lpF n4 (d4 + 1) (bX4_dotByDot_4 v) (bX4_dotByDot_4 v d4 y1_4))) := hg
      refine lv_iload_n hC.1 hC.2.1 dX4_dotByDot_4 rfl (lv_at hl 2 rfl) ?_
      refine lv_aload_n hC.1 hC.2.1 dX4_dotByDot_5 rfl (lv_at hl 0 rfl) ?_
      refine gf (v := .ref (q 9)) hC fwX4 hKN hP 8 rfl rfl 0 (by decide) rfl wd_68 rfl dX4_dotByDot_6 ?_
      refine alen_n hC hKN hP 9 rfl dX4_dotByDot_9 ?_
      refine lv_icmp_ge (tgt := 28) hC.1 hC.2.1 dX4_dotByDot_10 (by decide) (fun k10 => ?_) (fun k10 => ?_)
      · exact absurd k10 (nI_ge (a := d4) (b := 24) (by omega) (by omega))
      · refine lv_iload_n hC.1 hC.2.1 dX4_dotByDot_13 rfl (lv_at hl 1 rfl) ?_
        refine lv_aload_n hC.1 hC.2.1 dX4_dotByDot_14 rfl (lv_at hl 0 rfl) ?_
        refine gf (v := .ref (q 9)) hC fwX4 hKN hP 8 rfl rfl 0 (by decide) rfl wd_68 rfl dX4_dotByDot_15 ?_
        refine lv_iload_n hC.1 hC.2.1 dX4_dotByDot_18 rfl (lv_at hl 2 rfl) ?_
        refine iald_k hC hKN hP 9 rfl (n := 24) (f := (v 6)) d4 (rfl) (by omega) (by first | decide | omega) dX4_dotByDot_19 ?_
        refine lv_iadd hC.1 hC.2.1 dX4_dotByDot_20 ?_
        refine lv_istore_n (lv' := [(1, .int (y1_4 + ((v 6) d4))), (0, .ref (q 8)), (2, .int (nI d4))]) hC.1 hC.2.1 dX4_dotByDot_21 rfl hl (by decide) rfl (fun ls hl => ?_)
        refine lv_iinc (v := nI (d4 + 1)) (lv' := [(2, .int (nI (d4 + 1))), (1, .int (y1_4 + ((v 6) d4))), (0, .ref (q 8))]) hC.1 hC.2.1 dX4_dotByDot_22 hl (k := 2) rfl (nI_1 _) (by decide) rfl (fun ls hl => ?_)
        refine lv_goto (tgt := 4) hC.1 hC.2.1 dX4_dotByDot_25 (by decide) ?_
        have e_2 : bX4_dotByDot_4 v d4 y1_4 = y1_4 + ((v 6) d4) := by exact rfl
        have hg : fX4_dotByDot v = (tX4_dotByDot_4 v (lpF n4 (d4 + 1) (bX4_dotByDot_4 v) (y1_4 + ((v 6) d4)))) := hg.trans (congrArg (fun z => (tX4_dotByDot_4 v (lpF n4 (d4 + 1) (bX4_dotByDot_4 v) z))) e_2)
        exact ih (d4 + 1) (y1_4 + ((v 6) d4)) (by omega) hg _ (lv_sub hl [2, 1, 0] rfl)
  have e_3 : fX4_dotByDot v = tX4_dotByDot_4 v (lpF 24 0 (bX4_dotByDot_4 v) 0) := by exact rfl
  have hg : fX4_dotByDot v = (tX4_dotByDot_4 v (lpF 24 0 (bX4_dotByDot_4 v) 0)) := hg.trans (congrArg (fun z => z) e_3)
  exact L4  24 0 0 (by omega) hg _ (lv_sub hl [2, 1, 0] rfl)
