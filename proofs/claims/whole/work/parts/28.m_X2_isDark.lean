theorem dX2_isDark_0 : decode cX2_isDark 0 = .ok (.iload_n 1, 1) := by decide +kernel
theorem dX2_isDark_1 : decode cX2_isDark 1 = .ok (.getstatic 140, 3) := by decide +kernel
theorem dX2_isDark_4 : decode cX2_isDark 4 = .ok (.aload_n 0, 1) := by decide +kernel
theorem dX2_isDark_5 : decode cX2_isDark 5 = .ok (.getfield 49, 3) := by decide +kernel
theorem dX2_isDark_8 : decode cX2_isDark 8 = .ok (.invokestatic 59, 3) := by decide +kernel
theorem dX2_isDark_11 : decode cX2_isDark 11 = .ok (.if_icmp .lt 7, 3) := by decide +kernel
theorem dX2_isDark_14 : decode cX2_isDark 14 = .ok (.iconst 1, 1) := by decide +kernel
theorem dX2_isDark_15 : decode cX2_isDark 15 = .ok (.goto 4, 3) := by decide +kernel
theorem dX2_isDark_18 : decode cX2_isDark 18 = .ok (.iconst 0, 1) := by decide +kernel
theorem dX2_isDark_19 : decode cX2_isDark 19 = .ok (.ireturn, 1) := by decide +kernel
set_option maxHeartbeats 1000000 in
set_option maxRecDepth 100000 in
theorem c_X2_isDark (l : Launch) (G : GT) (q : Nat → Nat) (v : SV) (x1 : Int32) : Met l yX2_isDark (Cond.code yX2_isDark cX2_isDark 2 (some .boolean) :: bigW) ({ frames := 1, cells := 0, slots := 0, locals := 21 }) (BP G [.ref (q 0), .int x1] (fun U H => PW G (stW G q v) H)) (QP (.int (fX2_isDark v x1))) 0 0 (fun _ => False) := by
  refine met_of (by decide) (Nat.le_of_ble_eq_true rfl) ?_
  intro p e s m below meth c ls hC hKN hB0 hl
  have hP := hB0
  have hl : lv_has ls 2 [(0, .ref (q 0)), (1, .int x1)] := hl
  have hg : fX2_isDark v x1 = fX2_isDark v x1 := rfl
  refine lv_iload_n hC.1 hC.2.1 dX2_isDark_0 rfl (lv_at hl 1 rfl) ?_
  refine gsN hC (hKN.2.2.1 4 (by decide)).1 (nf_25 hKN) dX2_isDark_1 ?_
  refine lv_aload_n hC.1 hC.2.1 dX2_isDark_4 rfl (lv_at hl 0 rfl) ?_
  refine gf (v := .int (v 8 10)) hC fwX2 hKN hP 0 rfl rfl 7 (by decide) rfl wd_125 rfl dX2_isDark_5 ?_
  refine runP (rSN (B := fun U H => RD (gA G 4) 3 st4 U H) (As := [.ref (gA G 4), .int (v 8 10)]) (rest := [.int x1]) hC mwX5_at (c_X5_at l G (gA G 4) 3 st4 (v 8 10)) wd_249 (nm_5 hKN) ⟨rfl, rfl⟩ ⟨Nat.le_of_ble_eq_true rfl, Nat.le_of_ble_eq_true rfl⟩ (stb_RD _ _ _) hKN (hKN.rd 4 (by decide)) rfl hl.1 rfl (Nat.le_of_ble_eq_true rfl) dX2_isDark_8 ⟨Nat.zero_le _, Nat.zero_le _⟩) ?_
  refine lv_icmp_lt (tgt := 18) hC.1 hC.2.1 dX2_isDark_11 (by decide) (fun k11 => ?_) (fun k11 => ?_)
  · refine lv_iconst (v := 0) hC.1 hC.2.1 dX2_isDark_18 (by decide) ?_
    have e_1 : fX2_isDark v x1 = 0 := by exact Eq.trans (if_pos k11) rfl
    have hg : fX2_isDark v x1 = 0 := hg.trans (congrArg (fun z => z) e_1)
    exact eP_z hC (congrArg Value.int hg) rfl dX2_isDark_19
  · refine lv_iconst (v := 1) hC.1 hC.2.1 dX2_isDark_14 (by decide) ?_
    refine lv_goto (tgt := 19) hC.1 hC.2.1 dX2_isDark_15 (by decide) ?_
    have e_2 : fX2_isDark v x1 = 1 := by exact Eq.trans (if_neg k11) rfl
    have hg : fX2_isDark v x1 = 1 := hg.trans (congrArg (fun z => z) e_2)
    exact eP_z hC (congrArg Value.int hg) rfl dX2_isDark_19
