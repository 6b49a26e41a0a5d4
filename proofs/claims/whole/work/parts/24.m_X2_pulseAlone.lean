theorem dX2_pulseAlone_0 : decode cX2_pulseAlone 0 = .ok (.aload_n 0, 1) := by decide +kernel
theorem dX2_pulseAlone_1 : decode cX2_pulseAlone 1 = .ok (.iconst 0, 1) := by decide +kernel
theorem dX2_pulseAlone_2 : decode cX2_pulseAlone 2 = .ok (.iload_n 1, 1) := by decide +kernel
theorem dX2_pulseAlone_3 : decode cX2_pulseAlone 3 = .ok (.iload_n 2, 1) := by decide +kernel
theorem dX2_pulseAlone_4 : decode cX2_pulseAlone 4 = .ok (.invokevirtual 120, 3) := by decide +kernel
theorem dX2_pulseAlone_7 : decode cX2_pulseAlone 7 = .ok (.ireturn, 1) := by decide +kernel
set_option maxHeartbeats 1000000 in
set_option maxRecDepth 100000 in
theorem c_X2_pulseAlone (l : Launch) (G : GT) (q : Nat → Nat) (v : SV) (x1 : Int32) (x2 : Int32) : Met l yX2_pulseAlone (Cond.code yX2_pulseAlone cX2_pulseAlone 3 (some .int) :: bigW) ({ frames := 2, cells := 0, slots := 0, locals := 48 }) (BP G [.ref (q 0), .int x1, .int x2] (fun U H => PW G (stW G q v) H)) (QP (.int (fX2_pulseAlone v x1 x2))) 0 0 (fun _ => False) := by
  refine met_of (by decide) (Nat.le_of_ble_eq_true rfl) ?_
  intro p e s m below meth c ls hC hKN hB0 hl
  have hP := hB0
  have hl : lv_has ls 3 [(0, .ref (q 0)), (1, .int x1), (2, .int x2)] := hl
  have hg : fX2_pulseAlone v x1 x2 = fX2_pulseAlone v x1 x2 := rfl
  refine lv_aload_n hC.1 hC.2.1 dX2_pulseAlone_0 rfl (lv_at hl 0 rfl) ?_
  refine lv_iconst (v := 0) hC.1 hC.2.1 dX2_pulseAlone_1 (by decide) ?_
  refine lv_iload_n hC.1 hC.2.1 dX2_pulseAlone_2 rfl (lv_at hl 1 rfl) ?_
  refine lv_iload_n hC.1 hC.2.1 dX2_pulseAlone_3 rfl (lv_at hl 2 rfl) ?_
  refine runP (rV (B := fun U H => PW G (stW G q v) H) (As := [.int 0, .int x1, .int x2]) (rest := []) hC mwX2_pulseIn (c_X2_pulseIn l G q v 0 x1 x2) iwX2_pulseIn wd_439 ⟨rfl, rfl⟩ ⟨Nat.le_of_ble_eq_true rfl, Nat.le_of_ble_eq_true rfl⟩ (stb_h (fun H => PW G (stW G q v) H)) hKN hP (va_recv hKN.k hP (ci := 2) (q0 := 0) rfl rfl) rfl hl.1 rfl (Nat.le_of_ble_eq_true rfl) dX2_pulseAlone_4 ⟨Nat.zero_le _, Nat.zero_le _⟩) ?_
  have e_1 : fX2_pulseAlone v x1 x2 = fX2_pulseIn v 0 x1 x2 := by exact rfl
  have hg : fX2_pulseAlone v x1 x2 = fX2_pulseIn v 0 x1 x2 := hg.trans (congrArg (fun z => z) e_1)
  exact eP_i hC (congrArg Value.int hg) dX2_pulseAlone_7
