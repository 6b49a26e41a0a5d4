theorem dX2_setting_0 : decode cX2_setting 0 = .ok (.aload_n 0, 1) := by decide +kernel
theorem dX2_setting_1 : decode cX2_setting 1 = .ok (.getfield 21, 3) := by decide +kernel
theorem dX2_setting_4 : decode cX2_setting 4 = .ok (.iload_n 1, 1) := by decide +kernel
theorem dX2_setting_5 : decode cX2_setting 5 = .ok (.invokestatic 59, 3) := by decide +kernel
theorem dX2_setting_8 : decode cX2_setting 8 = .ok (.ireturn, 1) := by decide +kernel
set_option maxHeartbeats 1000000 in
set_option maxRecDepth 100000 in
theorem c_X2_setting (l : Launch) (G : GT) (q : Nat → Nat) (v : SV) (x1 : Int32) : Met l yX2_setting (Cond.code yX2_setting cX2_setting 2 (some .int) :: bigW) ({ frames := 1, cells := 0, slots := 0, locals := 21 }) (BP G [.ref (q 0), .int x1] (fun U H => PW G (stW G q v) H)) (QP (.int (fX2_setting v x1))) 0 0 (fun _ => False) := by
  refine met_of (by decide) (Nat.le_of_ble_eq_true rfl) ?_
  intro p e s m below meth c ls hC hKN hB0 hl
  have hP := hB0
  have hl : lv_has ls 2 [(0, .ref (q 0)), (1, .int x1)] := hl
  have hg : fX2_setting v x1 = fX2_setting v x1 := rfl
  refine lv_aload_n hC.1 hC.2.1 dX2_setting_0 rfl (lv_at hl 0 rfl) ?_
  refine gf (v := .ref (q 3)) hC fwX2 hKN hP 0 rfl rfl 2 (by decide) rfl wd_118 rfl dX2_setting_1 ?_
  refine lv_iload_n hC.1 hC.2.1 dX2_setting_4 rfl (lv_at hl 1 rfl) ?_
  refine runP (rSN (B := fun U H => RD (q 3) 7 (v 2) U H) (As := [.ref (q 3), .int x1]) (rest := []) hC mwX5_at (c_X5_at l G (q 3) 7 (v 2) x1) wd_249 (nm_5 hKN) ⟨rfl, rfl⟩ ⟨Nat.le_of_ble_eq_true rfl, Nat.le_of_ble_eq_true rfl⟩ (stb_RD _ _ _) hKN (RD.ofP hKN hP 3 rfl) rfl hl.1 rfl (Nat.le_of_ble_eq_true rfl) dX2_setting_5 ⟨Nat.zero_le _, Nat.zero_le _⟩) ?_
  have e_1 : fX2_setting v x1 = fX5_at 7 (v 2) x1 := by exact rfl
  have hg : fX2_setting v x1 = fX5_at 7 (v 2) x1 := hg.trans (congrArg (fun z => z) e_1)
  exact eP_i hC (congrArg Value.int hg) dX2_setting_8
