theorem dX2_timeUntilCool_0 : decode cX2_timeUntilCool 0 = .ok (.aload_n 0, 1) := by decide +kernel
theorem dX2_timeUntilCool_1 : decode cX2_timeUntilCool 1 = .ok (.aload_n 0, 1) := by decide +kernel
theorem dX2_timeUntilCool_2 : decode cX2_timeUntilCool 2 = .ok (.invokevirtual 150, 3) := by decide +kernel
theorem dX2_timeUntilCool_5 : decode cX2_timeUntilCool 5 = .ok (.iload_n 1, 1) := by decide +kernel
theorem dX2_timeUntilCool_6 : decode cX2_timeUntilCool 6 = .ok (.invokevirtual 127, 3) := by decide +kernel
theorem dX2_timeUntilCool_9 : decode cX2_timeUntilCool 9 = .ok (.ireturn, 1) := by decide +kernel
set_option maxHeartbeats 1000000 in
set_option maxRecDepth 100000 in
theorem c_X2_timeUntilCool (l : Launch) (G : GT) (q : Nat → Nat) (v : SV) (x1 : Int32) : Met l yX2_timeUntilCool (Cond.code yX2_timeUntilCool cX2_timeUntilCool 2 (some .int) :: bigW) ({ frames := 2, cells := 0, slots := 0, locals := 47 }) (BP G [.ref (q 0), .int x1] (fun U H => PW G (stW G q v) H)) (QP (.int (fX2_timeUntilCool v x1))) 0 0 (fun _ => False) := by
  refine met_of (by decide) (Nat.le_of_ble_eq_true rfl) ?_
  intro p e s m below meth c ls hC hKN hB0 hl
  have hP := hB0
  have hl : lv_has ls 2 [(0, .ref (q 0)), (1, .int x1)] := hl
  have hg : fX2_timeUntilCool v x1 = fX2_timeUntilCool v x1 := rfl
  refine lv_aload_n hC.1 hC.2.1 dX2_timeUntilCool_0 rfl (lv_at hl 0 rfl) ?_
  refine lv_aload_n hC.1 hC.2.1 dX2_timeUntilCool_1 rfl (lv_at hl 0 rfl) ?_
  refine runP (rV (B := fun U H => PW G (stW G q v) H) (As := []) (rest := [.ref (q 0)]) hC mwX2_hottestDot (c_X2_hottestDot l G q v) iwX2_hottestDot wd_573 ⟨rfl, rfl⟩ ⟨Nat.le_of_ble_eq_true rfl, Nat.le_of_ble_eq_true rfl⟩ (stb_h (fun H => PW G (stW G q v) H)) hKN hP (va_recv hKN.k hP (ci := 2) (q0 := 0) rfl rfl) rfl hl.1 rfl (Nat.le_of_ble_eq_true rfl) dX2_timeUntilCool_2 ⟨Nat.zero_le _, Nat.zero_le _⟩) ?_
  refine lv_iload_n hC.1 hC.2.1 dX2_timeUntilCool_5 rfl (lv_at hl 1 rfl) ?_
  refine runP (rV (B := fun U H => PW G (stW G q v) H) (As := [.int (fX2_hottestDot v), .int x1]) (rest := []) hC mwX2_timeDownTo (c_X2_timeDownTo l G q v (fX2_hottestDot v) x1) iwX2_timeDownTo wd_449 ⟨rfl, rfl⟩ ⟨Nat.le_of_ble_eq_true rfl, Nat.le_of_ble_eq_true rfl⟩ (stb_h (fun H => PW G (stW G q v) H)) hKN hP (va_recv hKN.k hP (ci := 2) (q0 := 0) rfl rfl) rfl hl.1 rfl (Nat.le_of_ble_eq_true rfl) dX2_timeUntilCool_6 ⟨Nat.zero_le _, Nat.zero_le _⟩) ?_
  have e_1 : fX2_timeUntilCool v x1 = fX2_timeDownTo v (fX2_hottestDot v) x1 := by exact rfl
  have hg : fX2_timeUntilCool v x1 = fX2_timeDownTo v (fX2_hottestDot v) x1 := hg.trans (congrArg (fun z => z) e_1)
  exact eP_i hC (congrArg Value.int hg) dX2_timeUntilCool_9
