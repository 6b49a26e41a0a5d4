theorem dX2_numberOfDot_0 : decode cX2_numberOfDot 0 = .ok (.iload_n 2, 1) := by decide +kernel
theorem dX2_numberOfDot_1 : decode cX2_numberOfDot 1 = .ok (.tableswitch 104 0 5 #[39, 48, 57, 66, 78, 90], 39) := by decide +kernel
theorem dX2_numberOfDot_40 : decode cX2_numberOfDot 40 = .ok (.aload_n 0, 1) := by decide +kernel
theorem dX2_numberOfDot_41 : decode cX2_numberOfDot 41 = .ok (.getfield 9, 3) := by decide +kernel
theorem dX2_numberOfDot_44 : decode cX2_numberOfDot 44 = .ok (.iload_n 1, 1) := by decide +kernel
theorem dX2_numberOfDot_45 : decode cX2_numberOfDot 45 = .ok (.invokestatic 59, 3) := by decide +kernel
theorem dX2_numberOfDot_48 : decode cX2_numberOfDot 48 = .ok (.ireturn, 1) := by decide +kernel
theorem dX2_numberOfDot_49 : decode cX2_numberOfDot 49 = .ok (.aload_n 0, 1) := by decide +kernel
theorem dX2_numberOfDot_50 : decode cX2_numberOfDot 50 = .ok (.getfield 42, 3) := by decide +kernel
theorem dX2_numberOfDot_53 : decode cX2_numberOfDot 53 = .ok (.iload_n 1, 1) := by decide +kernel
theorem dX2_numberOfDot_54 : decode cX2_numberOfDot 54 = .ok (.invokestatic 124, 3) := by decide +kernel
theorem dX2_numberOfDot_57 : decode cX2_numberOfDot 57 = .ok (.ireturn, 1) := by decide +kernel
theorem dX2_numberOfDot_58 : decode cX2_numberOfDot 58 = .ok (.aload_n 0, 1) := by decide +kernel
theorem dX2_numberOfDot_59 : decode cX2_numberOfDot 59 = .ok (.getfield 46, 3) := by decide +kernel
theorem dX2_numberOfDot_62 : decode cX2_numberOfDot 62 = .ok (.iload_n 1, 1) := by decide +kernel
theorem dX2_numberOfDot_63 : decode cX2_numberOfDot 63 = .ok (.invokestatic 124, 3) := by decide +kernel
theorem dX2_numberOfDot_66 : decode cX2_numberOfDot 66 = .ok (.ireturn, 1) := by decide +kernel
theorem dX2_numberOfDot_67 : decode cX2_numberOfDot 67 = .ok (.aload_n 0, 1) := by decide +kernel
theorem dX2_numberOfDot_68 : decode cX2_numberOfDot 68 = .ok (.getfield 38, 3) := by decide +kernel
theorem dX2_numberOfDot_71 : decode cX2_numberOfDot 71 = .ok (.getfield 166, 3) := by decide +kernel
theorem dX2_numberOfDot_74 : decode cX2_numberOfDot 74 = .ok (.iload_n 1, 1) := by decide +kernel
theorem dX2_numberOfDot_75 : decode cX2_numberOfDot 75 = .ok (.invokestatic 59, 3) := by decide +kernel
theorem dX2_numberOfDot_78 : decode cX2_numberOfDot 78 = .ok (.ireturn, 1) := by decide +kernel
theorem dX2_numberOfDot_79 : decode cX2_numberOfDot 79 = .ok (.aload_n 0, 1) := by decide +kernel
theorem dX2_numberOfDot_80 : decode cX2_numberOfDot 80 = .ok (.getfield 38, 3) := by decide +kernel
theorem dX2_numberOfDot_83 : decode cX2_numberOfDot 83 = .ok (.getfield 169, 3) := by decide +kernel
theorem dX2_numberOfDot_86 : decode cX2_numberOfDot 86 = .ok (.iload_n 1, 1) := by decide +kernel
theorem dX2_numberOfDot_87 : decode cX2_numberOfDot 87 = .ok (.invokestatic 59, 3) := by decide +kernel
theorem dX2_numberOfDot_90 : decode cX2_numberOfDot 90 = .ok (.ireturn, 1) := by decide +kernel
theorem dX2_numberOfDot_91 : decode cX2_numberOfDot 91 = .ok (.aload_n 0, 1) := by decide +kernel
theorem dX2_numberOfDot_92 : decode cX2_numberOfDot 92 = .ok (.iload_n 1, 1) := by decide +kernel
theorem dX2_numberOfDot_93 : decode cX2_numberOfDot 93 = .ok (.aload_n 0, 1) := by decide +kernel
theorem dX2_numberOfDot_94 : decode cX2_numberOfDot 94 = .ok (.getfield 21, 3) := by decide +kernel
theorem dX2_numberOfDot_97 : decode cX2_numberOfDot 97 = .ok (.iconst 0, 1) := by decide +kernel
theorem dX2_numberOfDot_98 : decode cX2_numberOfDot 98 = .ok (.invokestatic 59, 3) := by decide +kernel
theorem dX2_numberOfDot_101 : decode cX2_numberOfDot 101 = .ok (.invokevirtual 159, 3) := by decide +kernel
theorem dX2_numberOfDot_104 : decode cX2_numberOfDot 104 = .ok (.ireturn, 1) := by decide +kernel
theorem dX2_numberOfDot_105 : decode cX2_numberOfDot 105 = .ok (.aload_n 0, 1) := by decide +kernel
theorem dX2_numberOfDot_106 : decode cX2_numberOfDot 106 = .ok (.aload_n 0, 1) := by decide +kernel
theorem dX2_numberOfDot_107 : decode cX2_numberOfDot 107 = .ok (.getfield 9, 3) := by decide +kernel
theorem dX2_numberOfDot_110 : decode cX2_numberOfDot 110 = .ok (.iload_n 1, 1) := by decide +kernel
theorem dX2_numberOfDot_111 : decode cX2_numberOfDot 111 = .ok (.invokestatic 59, 3) := by decide +kernel
theorem dX2_numberOfDot_114 : decode cX2_numberOfDot 114 = .ok (.aload_n 0, 1) := by decide +kernel
theorem dX2_numberOfDot_115 : decode cX2_numberOfDot 115 = .ok (.iload_n 1, 1) := by decide +kernel
theorem dX2_numberOfDot_116 : decode cX2_numberOfDot 116 = .ok (.aload_n 0, 1) := by decide +kernel
theorem dX2_numberOfDot_117 : decode cX2_numberOfDot 117 = .ok (.getfield 21, 3) := by decide +kernel
theorem dX2_numberOfDot_120 : decode cX2_numberOfDot 120 = .ok (.iconst 0, 1) := by decide +kernel
theorem dX2_numberOfDot_121 : decode cX2_numberOfDot 121 = .ok (.invokestatic 59, 3) := by decide +kernel
theorem dX2_numberOfDot_124 : decode cX2_numberOfDot 124 = .ok (.invokevirtual 159, 3) := by decide +kernel
theorem dX2_numberOfDot_127 : decode cX2_numberOfDot 127 = .ok (.invokevirtual 162, 3) := by decide +kernel
theorem dX2_numberOfDot_130 : decode cX2_numberOfDot 130 = .ok (.ireturn, 1) := by decide +kernel
set_option maxHeartbeats 1000000 in
set_option maxRecDepth 100000 in
theorem c_X2_numberOfDot (l : Launch) (G : GT) (q : Nat → Nat) (v : SV) (x1 : Int32) (x2 : Int32) : Met l yX2_numberOfDot (Cond.code yX2_numberOfDot cX2_numberOfDot 3 (some .int) :: bigW) ({ frames := 3, cells := 0, slots := 0, locals := 70 }) (BP G [.ref (q 0), .int x1, .int x2] (fun U H => PW G (stW G q v) H)) (QP (.int (fX2_numberOfDot v x1 x2))) 0 0 (fun _ => False) := by
  refine met_of (by decide) (Nat.le_of_ble_eq_true rfl) ?_
  intro p e s m below meth c ls hC hKN hB0 hl
  have hP := hB0
  have hl : lv_has ls 3 [(0, .ref (q 0)), (1, .int x1), (2, .int x2)] := hl
  have hg : fX2_numberOfDot v x1 x2 = fX2_numberOfDot v x1 x2 := rfl
  refine lv_iload_n hC.1 hC.2.1 dX2_numberOfDot_0 rfl (lv_at hl 2 rfl) ?_
  by_cases k1_0 : x2 = 0
  · refine swIn hC (tgt := 40) 0 k1_0 dX2_numberOfDot_1 (by decide) (by decide) rfl (by decide) ?_
    refine lv_aload_n hC.1 hC.2.1 dX2_numberOfDot_40 rfl (lv_at hl 0 rfl) ?_
    refine gf (v := .ref (q 1)) hC fwX2 hKN hP 0 rfl rfl 0 (by decide) rfl wd_116 rfl dX2_numberOfDot_41 ?_
    refine lv_iload_n hC.1 hC.2.1 dX2_numberOfDot_44 rfl (lv_at hl 1 rfl) ?_
    refine runP (rSN (B := fun U H => RD (q 1) 24 (v 0) U H) (As := [.ref (q 1), .int x1]) (rest := []) hC mwX5_at (c_X5_at l G (q 1) 24 (v 0) x1) wd_249 (nm_5 hKN) ⟨rfl, rfl⟩ ⟨Nat.le_of_ble_eq_true rfl, Nat.le_of_ble_eq_true rfl⟩ (stb_RD _ _ _) hKN (RD.ofP hKN hP 1 rfl) rfl hl.1 rfl (Nat.le_of_ble_eq_true rfl) dX2_numberOfDot_45 ⟨Nat.zero_le _, Nat.zero_le _⟩) ?_
    have e_1 : fX2_numberOfDot v x1 x2 = fX5_at 24 (v 0) x1 := by exact Eq.trans (if_pos k1_0) rfl
    have hg : fX2_numberOfDot v x1 x2 = fX5_at 24 (v 0) x1 := hg.trans (congrArg (fun z => z) e_1)
    exact eP_i hC (congrArg Value.int hg) dX2_numberOfDot_48
  · skip
    by_cases k1_1 : x2 = 1
    · refine swIn hC (tgt := 49) 1 k1_1 dX2_numberOfDot_1 (by decide) (by decide) rfl (by decide) ?_
      refine lv_aload_n hC.1 hC.2.1 dX2_numberOfDot_49 rfl (lv_at hl 0 rfl) ?_
      refine gf (v := .int (v 8 8)) hC fwX2 hKN hP 0 rfl rfl 5 (by decide) rfl wd_123 rfl dX2_numberOfDot_50 ?_
      refine lv_iload_n hC.1 hC.2.1 dX2_numberOfDot_53 rfl (lv_at hl 1 rfl) ?_
      refine runP (rSN (B := fun U H => True) (As := [.int (v 8 8), .int x1]) (rest := []) hC mwX5_bitOf (c_X5_bitOf l G (v 8 8) x1) wd_433 (nm_6 hKN) ⟨rfl, rfl⟩ ⟨Nat.le_of_ble_eq_true rfl, Nat.le_of_ble_eq_true rfl⟩ (fun _ _ _ _ h => h) hKN trivial rfl hl.1 rfl (Nat.le_of_ble_eq_true rfl) dX2_numberOfDot_54 ⟨Nat.zero_le _, Nat.zero_le _⟩) ?_
      have e_2 : fX2_numberOfDot v x1 x2 = fX5_bitOf (v 8 8) x1 := by exact Eq.trans (if_neg k1_0) (Eq.trans (if_pos k1_1) rfl)
      have hg : fX2_numberOfDot v x1 x2 = fX5_bitOf (v 8 8) x1 := hg.trans (congrArg (fun z => z) e_2)
      exact eP_i hC (congrArg Value.int hg) dX2_numberOfDot_57
    · skip
      by_cases k1_2 : x2 = 2
      · refine swIn hC (tgt := 58) 2 k1_2 dX2_numberOfDot_1 (by decide) (by decide) rfl (by decide) ?_
        refine lv_aload_n hC.1 hC.2.1 dX2_numberOfDot_58 rfl (lv_at hl 0 rfl) ?_
        refine gf (v := .int (v 8 9)) hC fwX2 hKN hP 0 rfl rfl 6 (by decide) rfl wd_124 rfl dX2_numberOfDot_59 ?_
        refine lv_iload_n hC.1 hC.2.1 dX2_numberOfDot_62 rfl (lv_at hl 1 rfl) ?_
        refine runP (rSN (B := fun U H => True) (As := [.int (v 8 9), .int x1]) (rest := []) hC mwX5_bitOf (c_X5_bitOf l G (v 8 9) x1) wd_433 (nm_6 hKN) ⟨rfl, rfl⟩ ⟨Nat.le_of_ble_eq_true rfl, Nat.le_of_ble_eq_true rfl⟩ (fun _ _ _ _ h => h) hKN trivial rfl hl.1 rfl (Nat.le_of_ble_eq_true rfl) dX2_numberOfDot_63 ⟨Nat.zero_le _, Nat.zero_le _⟩) ?_
        have e_3 : fX2_numberOfDot v x1 x2 = fX5_bitOf (v 8 9) x1 := by exact Eq.trans (if_neg k1_0) (Eq.trans (if_neg k1_1) (Eq.trans (if_pos k1_2) rfl))
        have hg : fX2_numberOfDot v x1 x2 = fX5_bitOf (v 8 9) x1 := hg.trans (congrArg (fun z => z) e_3)
        exact eP_i hC (congrArg Value.int hg) dX2_numberOfDot_66
      · skip
        by_cases k1_3 : x2 = 3
        · refine swIn hC (tgt := 67) 3 k1_3 dX2_numberOfDot_1 (by decide) (by decide) rfl (by decide) ?_
          refine lv_aload_n hC.1 hC.2.1 dX2_numberOfDot_67 rfl (lv_at hl 0 rfl) ?_
          refine gf (v := .ref (q 8)) hC fwX2 hKN hP 0 rfl rfl 4 (by decide) rfl wd_121 rfl dX2_numberOfDot_68 ?_
          refine gfN (v := .ref (q 9)) hC fwX4 hKN hP 8 rfl rfl 0 (by decide) rfl (nf_3 hKN) rfl dX2_numberOfDot_71 ?_
          refine lv_iload_n hC.1 hC.2.1 dX2_numberOfDot_74 rfl (lv_at hl 1 rfl) ?_
          refine runP (rSN (B := fun U H => RD (q 9) 24 (v 6) U H) (As := [.ref (q 9), .int x1]) (rest := []) hC mwX5_at (c_X5_at l G (q 9) 24 (v 6) x1) wd_249 (nm_5 hKN) ⟨rfl, rfl⟩ ⟨Nat.le_of_ble_eq_true rfl, Nat.le_of_ble_eq_true rfl⟩ (stb_RD _ _ _) hKN (RD.ofP hKN hP 9 rfl) rfl hl.1 rfl (Nat.le_of_ble_eq_true rfl) dX2_numberOfDot_75 ⟨Nat.zero_le _, Nat.zero_le _⟩) ?_
          have e_4 : fX2_numberOfDot v x1 x2 = fX5_at 24 (v 6) x1 := by exact Eq.trans (if_neg k1_0) (Eq.trans (if_neg k1_1) (Eq.trans (if_neg k1_2) (Eq.trans (if_pos k1_3) rfl)))
          have hg : fX2_numberOfDot v x1 x2 = fX5_at 24 (v 6) x1 := hg.trans (congrArg (fun z => z) e_4)
          exact eP_i hC (congrArg Value.int hg) dX2_numberOfDot_78
        · skip
          by_cases k1_4 : x2 = 4
          · refine swIn hC (tgt := 79) 4 k1_4 dX2_numberOfDot_1 (by decide) (by decide) rfl (by decide) ?_
            refine lv_aload_n hC.1 hC.2.1 dX2_numberOfDot_79 rfl (lv_at hl 0 rfl) ?_
            refine gf (v := .ref (q 8)) hC fwX2 hKN hP 0 rfl rfl 4 (by decide) rfl wd_121 rfl dX2_numberOfDot_80 ?_
            refine gfN (v := .ref (q 10)) hC fwX4 hKN hP 8 rfl rfl 1 (by decide) rfl (nf_4 hKN) rfl dX2_numberOfDot_83 ?_
            refine lv_iload_n hC.1 hC.2.1 dX2_numberOfDot_86 rfl (lv_at hl 1 rfl) ?_
            refine runP (rSN (B := fun U H => RD (q 10) 24 (v 7) U H) (As := [.ref (q 10), .int x1]) (rest := []) hC mwX5_at (c_X5_at l G (q 10) 24 (v 7) x1) wd_249 (nm_5 hKN) ⟨rfl, rfl⟩ ⟨Nat.le_of_ble_eq_true rfl, Nat.le_of_ble_eq_true rfl⟩ (stb_RD _ _ _) hKN (RD.ofP hKN hP 10 rfl) rfl hl.1 rfl (Nat.le_of_ble_eq_true rfl) dX2_numberOfDot_87 ⟨Nat.zero_le _, Nat.zero_le _⟩) ?_
            have e_5 : fX2_numberOfDot v x1 x2 = fX5_at 24 (v 7) x1 := by exact Eq.trans (if_neg k1_0) (Eq.trans (if_neg k1_1) (Eq.trans (if_neg k1_2) (Eq.trans (if_neg k1_3) (Eq.trans (if_pos k1_4) rfl))))
            have hg : fX2_numberOfDot v x1 x2 = fX5_at 24 (v 7) x1 := hg.trans (congrArg (fun z => z) e_5)
            exact eP_i hC (congrArg Value.int hg) dX2_numberOfDot_90
          · skip
            by_cases k1_5 : x2 = 5
            · refine swIn hC (tgt := 91) 5 k1_5 dX2_numberOfDot_1 (by decide) (by decide) rfl (by decide) ?_
              refine lv_aload_n hC.1 hC.2.1 dX2_numberOfDot_91 rfl (lv_at hl 0 rfl) ?_
              refine lv_iload_n hC.1 hC.2.1 dX2_numberOfDot_92 rfl (lv_at hl 1 rfl) ?_
              refine lv_aload_n hC.1 hC.2.1 dX2_numberOfDot_93 rfl (lv_at hl 0 rfl) ?_
              refine gf (v := .ref (q 3)) hC fwX2 hKN hP 0 rfl rfl 2 (by decide) rfl wd_118 rfl dX2_numberOfDot_94 ?_
              refine lv_iconst (v := 0) hC.1 hC.2.1 dX2_numberOfDot_97 (by decide) ?_
              refine runP (rSN (B := fun U H => RD (q 3) 7 (v 2) U H) (As := [.ref (q 3), .int 0]) (rest := [.int x1, .ref (q 0)]) hC mwX5_at (c_X5_at l G (q 3) 7 (v 2) 0) wd_249 (nm_5 hKN) ⟨rfl, rfl⟩ ⟨Nat.le_of_ble_eq_true rfl, Nat.le_of_ble_eq_true rfl⟩ (stb_RD _ _ _) hKN (RD.ofP hKN hP 3 rfl) rfl hl.1 rfl (Nat.le_of_ble_eq_true rfl) dX2_numberOfDot_98 ⟨Nat.zero_le _, Nat.zero_le _⟩) ?_
              refine runP (rV (B := fun U H => PW G (stW G q v) H) (As := [.int x1, .int (fX5_at 7 (v 2) 0)]) (rest := []) hC mwX2_pulseAlone (c_X2_pulseAlone l G q v x1 (fX5_at 7 (v 2) 0)) iwX2_pulseAlone wd_435 ⟨rfl, rfl⟩ ⟨Nat.le_of_ble_eq_true rfl, Nat.le_of_ble_eq_true rfl⟩ (stb_h (fun H => PW G (stW G q v) H)) hKN hP (va_recv hKN.k hP (ci := 2) (q0 := 0) rfl rfl) rfl hl.1 rfl (Nat.le_of_ble_eq_true rfl) dX2_numberOfDot_101 ⟨Nat.zero_le _, Nat.zero_le _⟩) ?_
              have e_6 : fX2_numberOfDot v x1 x2 = fX2_pulseAlone v x1 (fX5_at 7 (v 2) 0) := by exact Eq.trans (if_neg k1_0) (Eq.trans (if_neg k1_1) (Eq.trans (if_neg k1_2) (Eq.trans (if_neg k1_3) (Eq.trans (if_neg k1_4) (Eq.trans (if_pos k1_5) rfl)))))
              have hg : fX2_numberOfDot v x1 x2 = fX2_pulseAlone v x1 (fX5_at 7 (v 2) 0) := hg.trans (congrArg (fun z => z) e_6)
              exact eP_i hC (congrArg Value.int hg) dX2_numberOfDot_104
            · skip
              refine lv_tableOut (tgt := 105) hC.1 hC.2.1 dX2_numberOfDot_1 (sw_out 0 5 (by decide) (fun k h1 h2 => by match k, h1, h2 with  | 0, _, _ => exact k1_0 | 1, _, _ => exact k1_1 | 2, _, _ => exact k1_2 | 3, _, _ => exact k1_3 | 4, _, _ => exact k1_4 | 5, _, _ => exact k1_5 | k + 6, _, h => exact absurd h (by omega))) (by decide) ?_
              refine lv_aload_n hC.1 hC.2.1 dX2_numberOfDot_105 rfl (lv_at hl 0 rfl) ?_
              refine lv_aload_n hC.1 hC.2.1 dX2_numberOfDot_106 rfl (lv_at hl 0 rfl) ?_
              refine gf (v := .ref (q 1)) hC fwX2 hKN hP 0 rfl rfl 0 (by decide) rfl wd_116 rfl dX2_numberOfDot_107 ?_
              refine lv_iload_n hC.1 hC.2.1 dX2_numberOfDot_110 rfl (lv_at hl 1 rfl) ?_
              refine runP (rSN (B := fun U H => RD (q 1) 24 (v 0) U H) (As := [.ref (q 1), .int x1]) (rest := [.ref (q 0)]) hC mwX5_at (c_X5_at l G (q 1) 24 (v 0) x1) wd_249 (nm_5 hKN) ⟨rfl, rfl⟩ ⟨Nat.le_of_ble_eq_true rfl, Nat.le_of_ble_eq_true rfl⟩ (stb_RD _ _ _) hKN (RD.ofP hKN hP 1 rfl) rfl hl.1 rfl (Nat.le_of_ble_eq_true rfl) dX2_numberOfDot_111 ⟨Nat.zero_le _, Nat.zero_le _⟩) ?_
              refine lv_aload_n hC.1 hC.2.1 dX2_numberOfDot_114 rfl (lv_at hl 0 rfl) ?_
              refine lv_iload_n hC.1 hC.2.1 dX2_numberOfDot_115 rfl (lv_at hl 1 rfl) ?_
              refine lv_aload_n hC.1 hC.2.1 dX2_numberOfDot_116 rfl (lv_at hl 0 rfl) ?_
              refine gf (v := .ref (q 3)) hC fwX2 hKN hP 0 rfl rfl 2 (by decide) rfl wd_118 rfl dX2_numberOfDot_117 ?_
              refine lv_iconst (v := 0) hC.1 hC.2.1 dX2_numberOfDot_120 (by decide) ?_
              refine runP (rSN (B := fun U H => RD (q 3) 7 (v 2) U H) (As := [.ref (q 3), .int 0]) (rest := [.int x1, .ref (q 0), .int (fX5_at 24 (v 0) x1), .ref (q 0)]) hC mwX5_at (c_X5_at l G (q 3) 7 (v 2) 0) wd_249 (nm_5 hKN) ⟨rfl, rfl⟩ ⟨Nat.le_of_ble_eq_true rfl, Nat.le_of_ble_eq_true rfl⟩ (stb_RD _ _ _) hKN (RD.ofP hKN hP 3 rfl) rfl hl.1 rfl (Nat.le_of_ble_eq_true rfl) dX2_numberOfDot_121 ⟨Nat.zero_le _, Nat.zero_le _⟩) ?_
              refine runP (rV (B := fun U H => PW G (stW G q v) H) (As := [.int x1, .int (fX5_at 7 (v 2) 0)]) (rest := [.int (fX5_at 24 (v 0) x1), .ref (q 0)]) hC mwX2_pulseAlone (c_X2_pulseAlone l G q v x1 (fX5_at 7 (v 2) 0)) iwX2_pulseAlone wd_435 ⟨rfl, rfl⟩ ⟨Nat.le_of_ble_eq_true rfl, Nat.le_of_ble_eq_true rfl⟩ (stb_h (fun H => PW G (stW G q v) H)) hKN hP (va_recv hKN.k hP (ci := 2) (q0 := 0) rfl rfl) rfl hl.1 rfl (Nat.le_of_ble_eq_true rfl) dX2_numberOfDot_124 ⟨Nat.zero_le _, Nat.zero_le _⟩) ?_
              refine runP (rV (B := fun U H => PW G (stW G q v) H) (As := [.int (fX5_at 24 (v 0) x1), .int (fX2_pulseAlone v x1 (fX5_at 7 (v 2) 0))]) (rest := []) hC mwX2_waitFor (c_X2_waitFor l G q v (fX5_at 24 (v 0) x1) (fX2_pulseAlone v x1 (fX5_at 7 (v 2) 0))) iwX2_waitFor wd_445 ⟨rfl, rfl⟩ ⟨Nat.le_of_ble_eq_true rfl, Nat.le_of_ble_eq_true rfl⟩ (stb_h (fun H => PW G (stW G q v) H)) hKN hP (va_recv hKN.k hP (ci := 2) (q0 := 0) rfl rfl) rfl hl.1 rfl (Nat.le_of_ble_eq_true rfl) dX2_numberOfDot_127 ⟨Nat.zero_le _, Nat.zero_le _⟩) ?_
              have e_7 : fX2_numberOfDot v x1 x2 = fX2_waitFor v (fX5_at 24 (v 0) x1) (fX2_pulseAlone v x1 (fX5_at 7 (v 2) 0)) := by exact Eq.trans (if_neg k1_0) (Eq.trans (if_neg k1_1) (Eq.trans (if_neg k1_2) (Eq.trans (if_neg k1_3) (Eq.trans (if_neg k1_4) (Eq.trans (if_neg k1_5) rfl)))))
              have hg : fX2_numberOfDot v x1 x2 = fX2_waitFor v (fX5_at 24 (v 0) x1) (fX2_pulseAlone v x1 (fX5_at 7 (v 2) 0)) := hg.trans (congrArg (fun z => z) e_7)
              exact eP_i hC (congrArg Value.int hg) dX2_numberOfDot_130
