theorem dX2_pulseIn_0 : decode cX2_pulseIn 0 = .ok (.bipush 20, 2) := by decide +kernel
theorem dX2_pulseIn_2 : decode cX2_pulseIn 2 = .ok (.aload_n 0, 1) := by decide +kernel
theorem dX2_pulseIn_3 : decode cX2_pulseIn 3 = .ok (.getfield 42, 3) := by decide +kernel
theorem dX2_pulseIn_6 : decode cX2_pulseIn 6 = .ok (.iload_n 2, 1) := by decide +kernel
theorem dX2_pulseIn_7 : decode cX2_pulseIn 7 = .ok (.invokestatic 124, 3) := by decide +kernel
theorem dX2_pulseIn_10 : decode cX2_pulseIn 10 = .ok (.imul, 1) := by decide +kernel
theorem dX2_pulseIn_11 : decode cX2_pulseIn 11 = .ok (.bipush 10, 2) := by decide +kernel
theorem dX2_pulseIn_13 : decode cX2_pulseIn 13 = .ok (.aload_n 0, 1) := by decide +kernel
theorem dX2_pulseIn_14 : decode cX2_pulseIn 14 = .ok (.getfield 46, 3) := by decide +kernel
theorem dX2_pulseIn_17 : decode cX2_pulseIn 17 = .ok (.iload_n 2, 1) := by decide +kernel
theorem dX2_pulseIn_18 : decode cX2_pulseIn 18 = .ok (.invokestatic 124, 3) := by decide +kernel
theorem dX2_pulseIn_21 : decode cX2_pulseIn 21 = .ok (.imul, 1) := by decide +kernel
theorem dX2_pulseIn_22 : decode cX2_pulseIn 22 = .ok (.iadd, 1) := by decide +kernel
theorem dX2_pulseIn_23 : decode cX2_pulseIn 23 = .ok (.iconst 5, 1) := by decide +kernel
theorem dX2_pulseIn_24 : decode cX2_pulseIn 24 = .ok (.iload_n 1, 1) := by decide +kernel
theorem dX2_pulseIn_25 : decode cX2_pulseIn 25 = .ok (.iload_n 2, 1) := by decide +kernel
theorem dX2_pulseIn_26 : decode cX2_pulseIn 26 = .ok (.iconst 1, 1) := by decide +kernel
theorem dX2_pulseIn_27 : decode cX2_pulseIn 27 = .ok (.isub, 1) := by decide +kernel
theorem dX2_pulseIn_28 : decode cX2_pulseIn 28 = .ok (.invokestatic 124, 3) := by decide +kernel
theorem dX2_pulseIn_31 : decode cX2_pulseIn 31 = .ok (.iload_n 1, 1) := by decide +kernel
theorem dX2_pulseIn_32 : decode cX2_pulseIn 32 = .ok (.iload_n 2, 1) := by decide +kernel
theorem dX2_pulseIn_33 : decode cX2_pulseIn 33 = .ok (.iconst 1, 1) := by decide +kernel
theorem dX2_pulseIn_34 : decode cX2_pulseIn 34 = .ok (.iadd, 1) := by decide +kernel
theorem dX2_pulseIn_35 : decode cX2_pulseIn 35 = .ok (.invokestatic 124, 3) := by decide +kernel
theorem dX2_pulseIn_38 : decode cX2_pulseIn 38 = .ok (.iadd, 1) := by decide +kernel
theorem dX2_pulseIn_39 : decode cX2_pulseIn 39 = .ok (.imul, 1) := by decide +kernel
theorem dX2_pulseIn_40 : decode cX2_pulseIn 40 = .ok (.iadd, 1) := by decide +kernel
theorem dX2_pulseIn_41 : decode cX2_pulseIn 41 = .ok (.istore 4, 2) := by decide +kernel
theorem dX2_pulseIn_43 : decode cX2_pulseIn 43 = .ok (.bipush 20, 2) := by decide +kernel
theorem dX2_pulseIn_45 : decode cX2_pulseIn 45 = .ok (.iload_n 3, 1) := by decide +kernel
theorem dX2_pulseIn_46 : decode cX2_pulseIn 46 = .ok (.getstatic 137, 3) := by decide +kernel
theorem dX2_pulseIn_49 : decode cX2_pulseIn 49 = .ok (.aload_n 0, 1) := by decide +kernel
theorem dX2_pulseIn_50 : decode cX2_pulseIn 50 = .ok (.getfield 49, 3) := by decide +kernel
theorem dX2_pulseIn_53 : decode cX2_pulseIn 53 = .ok (.invokestatic 59, 3) := by decide +kernel
theorem dX2_pulseIn_56 : decode cX2_pulseIn 56 = .ok (.iadd, 1) := by decide +kernel
theorem dX2_pulseIn_57 : decode cX2_pulseIn 57 = .ok (.iload 4, 2) := by decide +kernel
theorem dX2_pulseIn_59 : decode cX2_pulseIn 59 = .ok (.isub, 1) := by decide +kernel
theorem dX2_pulseIn_60 : decode cX2_pulseIn 60 = .ok (.invokestatic 114, 3) := by decide +kernel
theorem dX2_pulseIn_63 : decode cX2_pulseIn 63 = .ok (.ireturn, 1) := by decide +kernel
set_option maxHeartbeats 1000000 in
set_option maxRecDepth 100000 in
theorem c_X2_pulseIn (l : Launch) (G : GT) (q : Nat → Nat) (v : SV) (x1 : Int32) (x2 : Int32) (x3 : Int32) : Met l yX2_pulseIn (Cond.code yX2_pulseIn cX2_pulseIn 5 (some .int) :: bigW) ({ frames := 1, cells := 0, slots := 0, locals := 24 }) (BP G [.ref (q 0), .int x1, .int x2, .int x3] (fun U H => PW G (stW G q v) H)) (QP (.int (fX2_pulseIn v x1 x2 x3))) 0 0 (fun _ => False) := by
  refine met_of (by decide) (Nat.le_of_ble_eq_true rfl) ?_
  intro p e s m below meth c ls hC hKN hB0 hl
  have hP := hB0
  have hl : lv_has ls 5 [(0, .ref (q 0)), (1, .int x1), (2, .int x2), (3, .int x3)] := hl
  have hg : fX2_pulseIn v x1 x2 x3 = fX2_pulseIn v x1 x2 x3 := rfl
  refine lv_bipush (v := 20) hC.1 hC.2.1 dX2_pulseIn_0 (by decide +kernel) ?_
  refine lv_aload_n hC.1 hC.2.1 dX2_pulseIn_2 rfl (lv_at hl 0 rfl) ?_
  refine gf (v := .int (v 8 8)) hC fwX2 hKN hP 0 rfl rfl 5 (by decide) rfl wd_123 rfl dX2_pulseIn_3 ?_
  refine lv_iload_n hC.1 hC.2.1 dX2_pulseIn_6 rfl (lv_at hl 2 rfl) ?_
  refine runP (rSN (B := fun U H => True) (As := [.int (v 8 8), .int x2]) (rest := [.int 20]) hC mwX5_bitOf (c_X5_bitOf l G (v 8 8) x2) wd_433 (nm_6 hKN) ⟨rfl, rfl⟩ ⟨Nat.le_of_ble_eq_true rfl, Nat.le_of_ble_eq_true rfl⟩ (fun _ _ _ _ h => h) hKN trivial rfl hl.1 rfl (Nat.le_of_ble_eq_true rfl) dX2_pulseIn_7 ⟨Nat.zero_le _, Nat.zero_le _⟩) ?_
  refine lv_imul hC.1 hC.2.1 dX2_pulseIn_10 ?_
  refine lv_bipush (v := 10) hC.1 hC.2.1 dX2_pulseIn_11 (by decide +kernel) ?_
  refine lv_aload_n hC.1 hC.2.1 dX2_pulseIn_13 rfl (lv_at hl 0 rfl) ?_
  refine gf (v := .int (v 8 9)) hC fwX2 hKN hP 0 rfl rfl 6 (by decide) rfl wd_124 rfl dX2_pulseIn_14 ?_
  refine lv_iload_n hC.1 hC.2.1 dX2_pulseIn_17 rfl (lv_at hl 2 rfl) ?_
  refine runP (rSN (B := fun U H => True) (As := [.int (v 8 9), .int x2]) (rest := [.int 10, .int (20 * (fX5_bitOf (v 8 8) x2))]) hC mwX5_bitOf (c_X5_bitOf l G (v 8 9) x2) wd_433 (nm_6 hKN) ⟨rfl, rfl⟩ ⟨Nat.le_of_ble_eq_true rfl, Nat.le_of_ble_eq_true rfl⟩ (fun _ _ _ _ h => h) hKN trivial rfl hl.1 rfl (Nat.le_of_ble_eq_true rfl) dX2_pulseIn_18 ⟨Nat.zero_le _, Nat.zero_le _⟩) ?_
  refine lv_imul hC.1 hC.2.1 dX2_pulseIn_21 ?_
  refine lv_iadd hC.1 hC.2.1 dX2_pulseIn_22 ?_
  refine lv_iconst (v := 5) hC.1 hC.2.1 dX2_pulseIn_23 (by decide) ?_
  refine lv_iload_n hC.1 hC.2.1 dX2_pulseIn_24 rfl (lv_at hl 1 rfl) ?_
  refine lv_iload_n hC.1 hC.2.1 dX2_pulseIn_25 rfl (lv_at hl 2 rfl) ?_
  refine lv_iconst (v := 1) hC.1 hC.2.1 dX2_pulseIn_26 (by decide) ?_
  refine lv_isub hC.1 hC.2.1 dX2_pulseIn_27 ?_
  refine runP (rSN (B := fun U H => True) (As := [.int x1, .int (x2 - 1)]) (rest := [.int 5, .int ((20 * (fX5_bitOf (v 8 8) x2)) + (10 * (fX5_bitOf (v 8 9) x2)))]) hC mwX5_bitOf (c_X5_bitOf l G x1 (x2 - 1)) wd_433 (nm_6 hKN) ⟨rfl, rfl⟩ ⟨Nat.le_of_ble_eq_true rfl, Nat.le_of_ble_eq_true rfl⟩ (fun _ _ _ _ h => h) hKN trivial rfl hl.1 rfl (Nat.le_of_ble_eq_true rfl) dX2_pulseIn_28 ⟨Nat.zero_le _, Nat.zero_le _⟩) ?_
  refine lv_iload_n hC.1 hC.2.1 dX2_pulseIn_31 rfl (lv_at hl 1 rfl) ?_
  refine lv_iload_n hC.1 hC.2.1 dX2_pulseIn_32 rfl (lv_at hl 2 rfl) ?_
  refine lv_iconst (v := 1) hC.1 hC.2.1 dX2_pulseIn_33 (by decide) ?_
  refine lv_iadd hC.1 hC.2.1 dX2_pulseIn_34 ?_
  refine runP (rSN (B := fun U H => True) (As := [.int x1, .int (x2 + 1)]) (rest := [.int (fX5_bitOf x1 (x2 - 1)), .int 5, .int ((20 * (fX5_bitOf (v 8 8) x2)) + (10 * (fX5_bitOf (v 8 9) x2)))]) hC mwX5_bitOf (c_X5_bitOf l G x1 (x2 + 1)) wd_433 (nm_6 hKN) ⟨rfl, rfl⟩ ⟨Nat.le_of_ble_eq_true rfl, Nat.le_of_ble_eq_true rfl⟩ (fun _ _ _ _ h => h) hKN trivial rfl hl.1 rfl (Nat.le_of_ble_eq_true rfl) dX2_pulseIn_35 ⟨Nat.zero_le _, Nat.zero_le _⟩) ?_
  refine lv_iadd hC.1 hC.2.1 dX2_pulseIn_38 ?_
  refine lv_imul hC.1 hC.2.1 dX2_pulseIn_39 ?_
  refine lv_iadd hC.1 hC.2.1 dX2_pulseIn_40 ?_
  refine lv_istore (lv' := [(4, .int (((20 * (fX5_bitOf (v 8 8) x2)) + (10 * (fX5_bitOf (v 8 9) x2))) + (5 * ((fX5_bitOf x1 (x2 - 1)) + (fX5_bitOf x1 (x2 + 1)))))), (0, .ref (q 0)), (1, .int x1), (2, .int x2), (3, .int x3)]) hC.1 hC.2.1 dX2_pulseIn_41 hl (by decide) rfl (fun ls hl => ?_)
  refine lv_bipush (v := 20) hC.1 hC.2.1 dX2_pulseIn_43 (by decide +kernel) ?_
  refine lv_iload_n hC.1 hC.2.1 dX2_pulseIn_45 rfl (lv_at hl 4 rfl) ?_
  refine gsN hC (hKN.2.2.1 3 (by decide)).1 (nf_24 hKN) dX2_pulseIn_46 ?_
  refine lv_aload_n hC.1 hC.2.1 dX2_pulseIn_49 rfl (lv_at hl 1 rfl) ?_
  refine gf (v := .int (v 8 10)) hC fwX2 hKN hP 0 rfl rfl 7 (by decide) rfl wd_125 rfl dX2_pulseIn_50 ?_
  refine runP (rSN (B := fun U H => RD (gA G 3) 3 st3 U H) (As := [.ref (gA G 3), .int (v 8 10)]) (rest := [.int x3, .int 20]) hC mwX5_at (c_X5_at l G (gA G 3) 3 st3 (v 8 10)) wd_249 (nm_5 hKN) ⟨rfl, rfl⟩ ⟨Nat.le_of_ble_eq_true rfl, Nat.le_of_ble_eq_true rfl⟩ (stb_RD _ _ _) hKN (hKN.rd 3 (by decide)) rfl hl.1 rfl (Nat.le_of_ble_eq_true rfl) dX2_pulseIn_53 ⟨Nat.zero_le _, Nat.zero_le _⟩) ?_
  refine lv_iadd hC.1 hC.2.1 dX2_pulseIn_56 ?_
  refine lv_iload hC.1 hC.2.1 dX2_pulseIn_57 (lv_at hl 0 rfl) ?_
  refine lv_isub hC.1 hC.2.1 dX2_pulseIn_59 ?_
  refine va_mmax hC.1 hC.2.1 (hC.2.2.2.1.trans hl.1.symm) hC.2.2.2.2.1 (hC.2.2.2.2.2.2.1 _ wd_412) (hC.2.2.2.2.2.2.1 _ wd_413) (hC.2.2.2.2.2.2.1 _ wd_3) (hC.2.2.2.2.2.2.1 _ wd_414) (Nat.le_of_ble_eq_true rfl) (Nat.le_of_ble_eq_true rfl) (Nat.zero_le _) (Nat.zero_le _) dX2_pulseIn_60 ?_
  have e_1 : fX2_pulseIn v x1 x2 x3 = (if 20 < ((x3 + (fX5_at 3 st3 (v 8 10))) - (((20 * (fX5_bitOf (v 8 8) x2)) + (10 * (fX5_bitOf (v 8 9) x2))) + (5 * ((fX5_bitOf x1 (x2 - 1)) + (fX5_bitOf x1 (x2 + 1)))))) then ((x3 + (fX5_at 3 st3 (v 8 10))) - (((20 * (fX5_bitOf (v 8 8) x2)) + (10 * (fX5_bitOf (v 8 9) x2))) + (5 * ((fX5_bitOf x1 (x2 - 1)) + (fX5_bitOf x1 (x2 + 1)))))) else 20) := by exact rfl
  have hg : fX2_pulseIn v x1 x2 x3 = (if 20 < ((x3 + (fX5_at 3 st3 (v 8 10))) - (((20 * (fX5_bitOf (v 8 8) x2)) + (10 * (fX5_bitOf (v 8 9) x2))) + (5 * ((fX5_bitOf x1 (x2 - 1)) + (fX5_bitOf x1 (x2 + 1)))))) then ((x3 + (fX5_at 3 st3 (v 8 10))) - (((20 * (fX5_bitOf (v 8 8) x2)) + (10 * (fX5_bitOf (v 8 9) x2))) + (5 * ((fX5_bitOf x1 (x2 - 1)) + (fX5_bitOf x1 (x2 + 1)))))) else 20) := hg.trans (congrArg (fun z => z) e_1)
  exact eP_i hC (congrArg Value.int hg) dX2_pulseIn_63
