theorem dX2_waitFor_0 : decode cX2_waitFor 0 = .ok (.aload_n 0, 1) := by decide +kernel
theorem dX2_waitFor_1 : decode cX2_waitFor 1 = .ok (.iload_n 1, 1) := by decide +kernel
theorem dX2_waitFor_2 : decode cX2_waitFor 2 = .ok (.aload_n 0, 1) := by decide +kernel
theorem dX2_waitFor_3 : decode cX2_waitFor 3 = .ok (.getfield 21, 3) := by decide +kernel
theorem dX2_waitFor_6 : decode cX2_waitFor 6 = .ok (.iconst 2, 1) := by decide +kernel
theorem dX2_waitFor_7 : decode cX2_waitFor 7 = .ok (.invokestatic 59, 3) := by decide +kernel
theorem dX2_waitFor_10 : decode cX2_waitFor 10 = .ok (.iload_n 2, 1) := by decide +kernel
theorem dX2_waitFor_11 : decode cX2_waitFor 11 = .ok (.isub, 1) := by decide +kernel
theorem dX2_waitFor_12 : decode cX2_waitFor 12 = .ok (.invokevirtual 127, 3) := by decide +kernel
theorem dX2_waitFor_15 : decode cX2_waitFor 15 = .ok (.ireturn, 1) := by decide +kernel
set_option maxHeartbeats 1000000 in
set_option maxRecDepth 100000 in
theorem c_X2_waitFor (l : Launch) (G : GT) (q : Nat → Nat) (v : SV) (x1 : Int32) (x2 : Int32) : Met l yX2_waitFor (Cond.code yX2_waitFor cX2_waitFor 3 (some .int) :: bigW) ({ frames := 2, cells := 0, slots := 0, locals := 47 }) (BP G [.ref (q 0), .int x1, .int x2] (fun U H => PW G (stW G q v) H)) (QP (.int (fX2_waitFor v x1 x2))) 0 0 (fun _ => False) := by
  refine met_of (by decide) (Nat.le_of_ble_eq_true rfl) ?_
  intro p e s m below meth c ls hC hKN hB0 hl
  have hP := hB0
  have hl : lv_has ls 3 [(0, .ref (q 0)), (1, .int x1), (2, .int x2)] := hl
  have hg : fX2_waitFor v x1 x2 = fX2_waitFor v x1 x2 := rfl
  refine lv_aload_n hC.1 hC.2.1 dX2_waitFor_0 rfl (lv_at hl 0 rfl) ?_
  refine lv_iload_n hC.1 hC.2.1 dX2_waitFor_1 rfl (lv_at hl 1 rfl) ?_
  refine lv_aload_n hC.1 hC.2.1 dX2_waitFor_2 rfl (lv_at hl 0 rfl) ?_
  refine gf (v := .ref (q 3)) hC fwX2 hKN hP 0 rfl rfl 2 (by decide) rfl wd_118 rfl dX2_waitFor_3 ?_
  refine lv_iconst (v := 2) hC.1 hC.2.1 dX2_waitFor_6 (by decide) ?_
  refine runP (rSN (B := fun U H => RD (q 3) 7 (v 2) U H) (As := [.ref (q 3), .int 2]) (rest := [.int x1, .ref (q 0)]) hC mwX5_at (c_X5_at l G (q 3) 7 (v 2) 2) wd_249 (nm_5 hKN) ⟨rfl, rfl⟩ ⟨Nat.le_of_ble_eq_true rfl, Nat.le_of_ble_eq_true rfl⟩ (stb_RD _ _ _) hKN (RD.ofP hKN hP 3 rfl) rfl hl.1 rfl (Nat.le_of_ble_eq_true rfl) dX2_waitFor_7 ⟨Nat.zero_le _, Nat.zero_le _⟩) ?_
  refine lv_iload_n hC.1 hC.2.1 dX2_waitFor_10 rfl (lv_at hl 2 rfl) ?_
  refine lv_isub hC.1 hC.2.1 dX2_waitFor_11 ?_
  refine runP (rV (B := fun U H => PW G (stW G q v) H) (As := [.int x1, .int ((fX5_at 7 (v 2) 2) - x2)]) (rest := []) hC mwX2_timeDownTo (c_X2_timeDownTo l G q v x1 ((fX5_at 7 (v 2) 2) - x2)) iwX2_timeDownTo wd_449 ⟨rfl, rfl⟩ ⟨Nat.le_of_ble_eq_true rfl, Nat.le_of_ble_eq_true rfl⟩ (stb_h (fun H => PW G (stW G q v) H)) hKN hP (va_recv hKN.k hP (ci := 2) (q0 := 0) rfl rfl) rfl hl.1 rfl (Nat.le_of_ble_eq_true rfl) dX2_waitFor_12 ⟨Nat.zero_le _, Nat.zero_le _⟩) ?_
  have e_1 : fX2_waitFor v x1 x2 = fX2_timeDownTo v x1 ((fX5_at 7 (v 2) 2) - x2) := by exact rfl
  have hg : fX2_waitFor v x1 x2 = fX2_timeDownTo v x1 ((fX5_at 7 (v 2) 2) - x2) := hg.trans (congrArg (fun z => z) e_1)
  exact eP_i hC (congrArg Value.int hg) dX2_waitFor_15
