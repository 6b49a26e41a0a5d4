def fX4_addLine (v : SV) (x1 : Int32) (x2 : Int32) (x3 : Int32) : SV := let w_1 : Int32 := (v 8 2) + 1; let w_3 : Int32 := (v 8 3) + x3; let w_5 : Int32 := (v 8 5) + (fJ6_bitCount_0f7a4 x1); let w_7 : Int32 := (v 8 6) + (fJ6_bitCount_0f7a4 x2); mkS (v 0) (v 1) (v 2) (v 3) (v 4) (v 5) (fX4_addDots (v 6) x1) (fX4_addDots (v 7) x2) (v 8 0) (v 8 1) w_1 w_3 (v 8 4) w_5 w_7 (v 8 7) (v 8 8) (v 8 9) (v 8 10)
theorem dX4_addLine_0 : decode cX4_addLine 0 = .ok (.aload_n 0, 1) := by decide +kernel
theorem dX4_addLine_1 : decode cX4_addLine 1 = .ok (.dup, 1) := by decide +kernel
theorem dX4_addLine_2 : decode cX4_addLine 2 = .ok (.getfield 22, 3) := by decide +kernel
theorem dX4_addLine_5 : decode cX4_addLine 5 = .ok (.iconst 1, 1) := by decide +kernel
theorem dX4_addLine_6 : decode cX4_addLine 6 = .ok (.iadd, 1) := by decide +kernel
theorem dX4_addLine_7 : decode cX4_addLine 7 = .ok (.putfield 22, 3) := by decide +kernel
theorem dX4_addLine_10 : decode cX4_addLine 10 = .ok (.aload_n 0, 1) := by decide +kernel
theorem dX4_addLine_11 : decode cX4_addLine 11 = .ok (.dup, 1) := by decide +kernel
theorem dX4_addLine_12 : decode cX4_addLine 12 = .ok (.getfield 25, 3) := by decide +kernel
theorem dX4_addLine_15 : decode cX4_addLine 15 = .ok (.iload_n 3, 1) := by decide +kernel
theorem dX4_addLine_16 : decode cX4_addLine 16 = .ok (.iadd, 1) := by decide +kernel
theorem dX4_addLine_17 : decode cX4_addLine 17 = .ok (.putfield 25, 3) := by decide +kernel
theorem dX4_addLine_20 : decode cX4_addLine 20 = .ok (.aload_n 0, 1) := by decide +kernel
theorem dX4_addLine_21 : decode cX4_addLine 21 = .ok (.dup, 1) := by decide +kernel
theorem dX4_addLine_22 : decode cX4_addLine 22 = .ok (.getfield 31, 3) := by decide +kernel
theorem dX4_addLine_25 : decode cX4_addLine 25 = .ok (.iload_n 1, 1) := by decide +kernel
theorem dX4_addLine_26 : decode cX4_addLine 26 = .ok (.invokestatic 44, 3) := by decide +kernel
theorem dX4_addLine_29 : decode cX4_addLine 29 = .ok (.iadd, 1) := by decide +kernel
theorem dX4_addLine_30 : decode cX4_addLine 30 = .ok (.putfield 31, 3) := by decide +kernel
theorem dX4_addLine_33 : decode cX4_addLine 33 = .ok (.aload_n 0, 1) := by decide +kernel
theorem dX4_addLine_34 : decode cX4_addLine 34 = .ok (.dup, 1) := by decide +kernel
theorem dX4_addLine_35 : decode cX4_addLine 35 = .ok (.getfield 34, 3) := by decide +kernel
theorem dX4_addLine_38 : decode cX4_addLine 38 = .ok (.iload_n 2, 1) := by decide +kernel
theorem dX4_addLine_39 : decode cX4_addLine 39 = .ok (.invokestatic 44, 3) := by decide +kernel
theorem dX4_addLine_42 : decode cX4_addLine 42 = .ok (.iadd, 1) := by decide +kernel
theorem dX4_addLine_43 : decode cX4_addLine 43 = .ok (.putfield 34, 3) := by decide +kernel
theorem dX4_addLine_46 : decode cX4_addLine 46 = .ok (.aload_n 0, 1) := by decide +kernel
theorem dX4_addLine_47 : decode cX4_addLine 47 = .ok (.getfield 9, 3) := by decide +kernel
theorem dX4_addLine_50 : decode cX4_addLine 50 = .ok (.iload_n 1, 1) := by decide +kernel
theorem dX4_addLine_51 : decode cX4_addLine 51 = .ok (.invokestatic 50, 3) := by decide +kernel
theorem dX4_addLine_54 : decode cX4_addLine 54 = .ok (.aload_n 0, 1) := by decide +kernel
theorem dX4_addLine_55 : decode cX4_addLine 55 = .ok (.getfield 15, 3) := by decide +kernel
theorem dX4_addLine_58 : decode cX4_addLine 58 = .ok (.iload_n 2, 1) := by decide +kernel
theorem dX4_addLine_59 : decode cX4_addLine 59 = .ok (.invokestatic 50, 3) := by decide +kernel
theorem dX4_addLine_62 : decode cX4_addLine 62 = .ok (.return_, 1) := by decide +kernel
set_option maxHeartbeats 1000000 in
set_option maxRecDepth 100000 in
theorem c_X4_addLine (l : Launch) (G : GT) (q : Nat → Nat) (v : SV) (x1 : Int32) (x2 : Int32) (x3 : Int32) (hq : stD G q) : Met l yX4_addLine (Cond.code yX4_addLine cX4_addLine 4 none :: bigW) ({ frames := 2, cells := 0, slots := 0, locals := 43 }) (BP G [.ref (q 8), .int x1, .int x2, .int x3] (fun U H => PW G (stW G q v) H)) (QE (none) (fun H => PW G (stW G q (fX4_addLine v x1 x2 x3)) H) (stA q)) 0 0 (stA q) := by
  refine met_of (by decide) (Nat.le_of_ble_eq_true rfl) ?_
  intro p e s m below meth c ls hC hKN hB0 hl
  have hP := hB0
  have hl : lv_has ls 4 [(0, .ref (q 8)), (1, .int x1), (2, .int x2), (3, .int x3)] := hl
  have hS : va_S (stA q) s.heap s.heap [] := va_S.rf
  have hAL : ∀ a, (stA q) a → gL G ≤ a := stD_low hq
  have hg : fX4_addLine v x1 x2 x3 = fX4_addLine v x1 x2 x3 := rfl
  refine lv_aload_n hC.1 hC.2.1 dX4_addLine_0 rfl (lv_at hl 0 rfl) ?_
  refine lv_dup hC.1 hC.2.1 dX4_addLine_1 rfl ?_
  refine gf (v := .int (v 8 2)) hC fwX4 hKN hP 8 rfl rfl 3 (by decide) rfl wd_75 rfl dX4_addLine_2 ?_
  refine lv_iconst (v := 1) hC.1 hC.2.1 dX4_addLine_5 (by decide) ?_
  refine lv_iadd hC.1 hC.2.1 dX4_addLine_6 ?_
  refine lv_topi (fun w_1 ew_1 => ?_)
  refine pf (v := .int w_1) (tv := .int) hC fwX4 hKN hP (stD_D hq v) hS 8 rfl rfl 3 (by decide) rfl wd_75 rfl rfl rfl (Nat.le_of_ble_eq_true rfl) dX4_addLine_7 (fun H locs hq_2 hS => ?_)
  have hP : PW G (stW G q (mkS (v 0) (v 1) (v 2) (v 3) (v 4) (v 5) (v 6) (v 7) (v 8 0) (v 8 1) w_1 (v 8 3) (v 8 4) (v 8 5) (v 8 6) (v 8 7) (v 8 8) (v 8 9) (v 8 10))) H := hq_2
  refine lv_aload_n hC.1 hC.2.1 dX4_addLine_10 rfl (lv_at hl 0 rfl) ?_
  refine lv_dup hC.1 hC.2.1 dX4_addLine_11 rfl ?_
  refine gf (v := .int (v 8 3)) hC fwX4 (hKN.go hAL hS) hP 8 rfl rfl 4 (by decide) rfl wd_77 rfl dX4_addLine_12 ?_
  refine lv_iload_n hC.1 hC.2.1 dX4_addLine_15 rfl (lv_at hl 3 rfl) ?_
  refine lv_iadd hC.1 hC.2.1 dX4_addLine_16 ?_
  refine lv_topi (fun w_3 ew_3 => ?_)
  refine pf (v := .int w_3) (tv := .int) hC fwX4 (hKN.go hAL hS) hP (stD_D hq (mkS (v 0) (v 1) (v 2) (v 3) (v 4) (v 5) (v 6) (v 7) (v 8 0) (v 8 1) w_1 (v 8 3) (v 8 4) (v 8 5) (v 8 6) (v 8 7) (v 8 8) (v 8 9) (v 8 10))) hS 8 rfl rfl 4 (by decide) rfl wd_77 rfl rfl rfl (Nat.le_of_ble_eq_true rfl) dX4_addLine_17 (fun H locs hq_4 hS => ?_)
  have hP : PW G (stW G q (mkS (v 0) (v 1) (v 2) (v 3) (v 4) (v 5) (v 6) (v 7) (v 8 0) (v 8 1) w_1 w_3 (v 8 4) (v 8 5) (v 8 6) (v 8 7) (v 8 8) (v 8 9) (v 8 10))) H := hq_4
  refine lv_aload_n hC.1 hC.2.1 dX4_addLine_20 rfl (lv_at hl 0 rfl) ?_
  refine lv_dup hC.1 hC.2.1 dX4_addLine_21 rfl ?_
  refine gf (v := .int (v 8 5)) hC fwX4 (hKN.go hAL hS) hP 8 rfl rfl 6 (by decide) rfl wd_82 rfl dX4_addLine_22 ?_
  refine lv_iload_n hC.1 hC.2.1 dX4_addLine_25 rfl (lv_at hl 1 rfl) ?_
  refine runP (rS (B := fun U H => True) (As := [.int x1]) (rest := [.int (v 8 5), .ref (q 8)]) hC mwJ6_bitCount_0f7a4 (c_J6_bitCount_0f7a4 l G x1) wd_488 wd_540 ⟨rfl, rfl⟩ ⟨Nat.le_of_ble_eq_true rfl, Nat.le_of_ble_eq_true rfl⟩ (fun _ _ _ _ h => h) (hKN.go hAL hS) trivial rfl hl.1 rfl (Nat.le_of_ble_eq_true rfl) dX4_addLine_26 ⟨Nat.zero_le _, Nat.zero_le _⟩) ?_
  refine lv_iadd hC.1 hC.2.1 dX4_addLine_29 ?_
  refine lv_topi (fun w_5 ew_5 => ?_)
  refine pf (v := .int w_5) (tv := .int) hC fwX4 (hKN.go hAL hS) hP (stD_D hq (mkS (v 0) (v 1) (v 2) (v 3) (v 4) (v 5) (v 6) (v 7) (v 8 0) (v 8 1) w_1 w_3 (v 8 4) (v 8 5) (v 8 6) (v 8 7) (v 8 8) (v 8 9) (v 8 10))) hS 8 rfl rfl 6 (by decide) rfl wd_82 rfl rfl rfl (Nat.le_of_ble_eq_true rfl) dX4_addLine_30 (fun H locs hq_6 hS => ?_)
  have hP : PW G (stW G q (mkS (v 0) (v 1) (v 2) (v 3) (v 4) (v 5) (v 6) (v 7) (v 8 0) (v 8 1) w_1 w_3 (v 8 4) w_5 (v 8 6) (v 8 7) (v 8 8) (v 8 9) (v 8 10))) H := hq_6
  refine lv_aload_n hC.1 hC.2.1 dX4_addLine_33 rfl (lv_at hl 0 rfl) ?_
  refine lv_dup hC.1 hC.2.1 dX4_addLine_34 rfl ?_
  refine gf (v := .int (v 8 6)) hC fwX4 (hKN.go hAL hS) hP 8 rfl rfl 7 (by decide) rfl wd_84 rfl dX4_addLine_35 ?_
  refine lv_iload_n hC.1 hC.2.1 dX4_addLine_38 rfl (lv_at hl 2 rfl) ?_
  refine runP (rS (B := fun U H => True) (As := [.int x2]) (rest := [.int (v 8 6), .ref (q 8)]) hC mwJ6_bitCount_0f7a4 (c_J6_bitCount_0f7a4 l G x2) wd_488 wd_540 ⟨rfl, rfl⟩ ⟨Nat.le_of_ble_eq_true rfl, Nat.le_of_ble_eq_true rfl⟩ (fun _ _ _ _ h => h) (hKN.go hAL hS) trivial rfl hl.1 rfl (Nat.le_of_ble_eq_true rfl) dX4_addLine_39 ⟨Nat.zero_le _, Nat.zero_le _⟩) ?_
  refine lv_iadd hC.1 hC.2.1 dX4_addLine_42 ?_
  refine lv_topi (fun w_7 ew_7 => ?_)
  refine pf (v := .int w_7) (tv := .int) hC fwX4 (hKN.go hAL hS) hP (stD_D hq (mkS (v 0) (v 1) (v 2) (v 3) (v 4) (v 5) (v 6) (v 7) (v 8 0) (v 8 1) w_1 w_3 (v 8 4) w_5 (v 8 6) (v 8 7) (v 8 8) (v 8 9) (v 8 10))) hS 8 rfl rfl 7 (by decide) rfl wd_84 rfl rfl rfl (Nat.le_of_ble_eq_true rfl) dX4_addLine_43 (fun H locs hq_8 hS => ?_)
  have hP : PW G (stW G q (mkS (v 0) (v 1) (v 2) (v 3) (v 4) (v 5) (v 6) (v 7) (v 8 0) (v 8 1) w_1 w_3 (v 8 4) w_5 w_7 (v 8 7) (v 8 8) (v 8 9) (v 8 10))) H := hq_8
  refine lv_aload_n hC.1 hC.2.1 dX4_addLine_46 rfl (lv_at hl 0 rfl) ?_
  refine gf (v := .ref (q 9)) hC fwX4 (hKN.go hAL hS) hP 8 rfl rfl 0 (by decide) rfl wd_68 rfl dX4_addLine_47 ?_
  refine lv_iload_n hC.1 hC.2.1 dX4_addLine_50 rfl (lv_at hl 1 rfl) ?_
  refine runE (rS (B := fun U H => PW G (a1W G (q 9) 24 (v 6)) H) (As := [.ref (q 9), .int x1]) (rest := []) hC mwX4_addDots (c_X4_addDots l G (q 9) (v 6) x1 (stD_low hq _ ⟨9, by decide, rfl⟩)) wd_542 wd_541 ⟨rfl, rfl⟩ ⟨Nat.le_of_ble_eq_true rfl, Nat.le_of_ble_eq_true rfl⟩ (stb_h (fun H => PW G (a1W G (q 9) 24 (v 6)) H)) (hKN.go hAL hS) (one_of hP 9 rfl) rfl hl.1 rfl (Nat.le_of_ble_eq_true rfl) dX4_addLine_51 ⟨Nat.zero_le _, Nat.zero_le _⟩) hS (fun _ h => ⟨9, by decide, h⟩) (fun _ h => ⟨9, by decide, h⟩) (fun H locs hq_9 _ hk_11 hS => ?_)
  have hP : PW G (stW G q (mkS (v 0) (v 1) (v 2) (v 3) (v 4) (v 5) (fX4_addDots (v 6) x1) (v 7) (v 8 0) (v 8 1) w_1 w_3 (v 8 4) w_5 w_7 (v 8 7) (v 8 8) (v 8 9) (v 8 10))) H := one_set hP (stD_D hq (mkS (v 0) (v 1) (v 2) (v 3) (v 4) (v 5) (v 6) (v 7) (v 8 0) (v 8 1) w_1 w_3 (v 8 4) w_5 w_7 (v 8 7) (v 8 8) (v 8 9) (v 8 10))) 9 rfl hq_9 hk_11
  refine lv_aload_n hC.1 hC.2.1 dX4_addLine_54 rfl (lv_at hl 0 rfl) ?_
  refine gf (v := .ref (q 10)) hC fwX4 (hKN.go hAL hS) hP 8 rfl rfl 1 (by decide) rfl wd_70 rfl dX4_addLine_55 ?_
  refine lv_iload_n hC.1 hC.2.1 dX4_addLine_58 rfl (lv_at hl 2 rfl) ?_
  refine runE (rS (B := fun U H => PW G (a1W G (q 10) 24 (v 7)) H) (As := [.ref (q 10), .int x2]) (rest := []) hC mwX4_addDots (c_X4_addDots l G (q 10) (v 7) x2 (stD_low hq _ ⟨10, by decide, rfl⟩)) wd_542 wd_541 ⟨rfl, rfl⟩ ⟨Nat.le_of_ble_eq_true rfl, Nat.le_of_ble_eq_true rfl⟩ (stb_h (fun H => PW G (a1W G (q 10) 24 (v 7)) H)) (hKN.go hAL hS) (one_of hP 10 rfl) rfl hl.1 rfl (Nat.le_of_ble_eq_true rfl) dX4_addLine_59 ⟨Nat.zero_le _, Nat.zero_le _⟩) hS (fun _ h => ⟨10, by decide, h⟩) (fun _ h => ⟨10, by decide, h⟩) (fun H locs hq_12 _ hk_14 hS => ?_)
  have hP : PW G (stW G q (mkS (v 0) (v 1) (v 2) (v 3) (v 4) (v 5) (fX4_addDots (v 6) x1) (fX4_addDots (v 7) x2) (v 8 0) (v 8 1) w_1 w_3 (v 8 4) w_5 w_7 (v 8 7) (v 8 8) (v 8 9) (v 8 10))) H := one_set hP (stD_D hq (mkS (v 0) (v 1) (v 2) (v 3) (v 4) (v 5) (fX4_addDots (v 6) x1) (v 7) (v 8 0) (v 8 1) w_1 w_3 (v 8 4) w_5 w_7 (v 8 7) (v 8 8) (v 8 9) (v 8 10))) 10 rfl hq_12 hk_14
  have e_15 : fX4_addLine v x1 x2 x3 = mkS (v 0) (v 1) (v 2) (v 3) (v 4) (v 5) (fX4_addDots (v 6) x1) (fX4_addDots (v 7) x2) (v 8 0) (v 8 1) w_1 w_3 (v 8 4) w_5 w_7 (v 8 7) (v 8 8) (v 8 9) (v 8 10) := by subst ew_7; subst ew_5; subst ew_3; subst ew_1; exact rfl
  have hg : fX4_addLine v x1 x2 x3 = mkS (v 0) (v 1) (v 2) (v 3) (v 4) (v 5) (fX4_addDots (v 6) x1) (fX4_addDots (v 7) x2) (v 8 0) (v 8 1) w_1 w_3 (v 8 4) w_5 w_7 (v 8 7) (v 8 8) (v 8 9) (v 8 10) := hg.trans (congrArg (fun z => z) e_15)
  exact eE_v hC (by show PW G (stW G q (fX4_addLine v x1 x2 x3)) H; rw [hg]; exact hP) hS dX4_addLine_62
