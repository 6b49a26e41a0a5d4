theorem dX2_dotsAtOnce_0 : decode cX2_dotsAtOnce 0 = .ok (.aload_n 0, 1) := by decide +kernel
theorem dX2_dotsAtOnce_1 : decode cX2_dotsAtOnce 1 = .ok (.getfield 21, 3) := by decide +kernel
theorem dX2_dotsAtOnce_4 : decode cX2_dotsAtOnce 4 = .ok (.iconst 3, 1) := by decide +kernel
theorem dX2_dotsAtOnce_5 : decode cX2_dotsAtOnce 5 = .ok (.invokestatic 59, 3) := by decide +kernel
theorem dX2_dotsAtOnce_8 : decode cX2_dotsAtOnce 8 = .ok (.istore_n 1, 1) := by decide +kernel
theorem dX2_dotsAtOnce_9 : decode cX2_dotsAtOnce 9 = .ok (.iload_n 1, 1) := by decide +kernel
theorem dX2_dotsAtOnce_10 : decode cX2_dotsAtOnce 10 = .ok (.iconst 1, 1) := by decide +kernel
theorem dX2_dotsAtOnce_11 : decode cX2_dotsAtOnce 11 = .ok (.if_icmp .ge 7, 3) := by decide +kernel
theorem dX2_dotsAtOnce_14 : decode cX2_dotsAtOnce 14 = .ok (.iconst 1, 1) := by decide +kernel
theorem dX2_dotsAtOnce_15 : decode cX2_dotsAtOnce 15 = .ok (.goto 17, 3) := by decide +kernel
theorem dX2_dotsAtOnce_18 : decode cX2_dotsAtOnce 18 = .ok (.iconst 1, 1) := by decide +kernel
theorem dX2_dotsAtOnce_19 : decode cX2_dotsAtOnce 19 = .ok (.aload_n 0, 1) := by decide +kernel
theorem dX2_dotsAtOnce_20 : decode cX2_dotsAtOnce 20 = .ok (.getfield 21, 3) := by decide +kernel
theorem dX2_dotsAtOnce_23 : decode cX2_dotsAtOnce 23 = .ok (.iconst 4, 1) := by decide +kernel
theorem dX2_dotsAtOnce_24 : decode cX2_dotsAtOnce 24 = .ok (.invokestatic 59, 3) := by decide +kernel
theorem dX2_dotsAtOnce_27 : decode cX2_dotsAtOnce 27 = .ok (.iload_n 1, 1) := by decide +kernel
theorem dX2_dotsAtOnce_28 : decode cX2_dotsAtOnce 28 = .ok (.idiv, 1) := by decide +kernel
theorem dX2_dotsAtOnce_29 : decode cX2_dotsAtOnce 29 = .ok (.invokestatic 114, 3) := by decide +kernel
theorem dX2_dotsAtOnce_32 : decode cX2_dotsAtOnce 32 = .ok (.ireturn, 1) := by decide +kernel
set_option maxHeartbeats 1000000 in
set_option maxRecDepth 100000 in
theorem c_X2_dotsAtOnce (l : Launch) (G : GT) (q : Nat → Nat) (v : SV) : Met l yX2_dotsAtOnce (Cond.code yX2_dotsAtOnce cX2_dotsAtOnce 2 (some .int) :: bigW) ({ frames := 1, cells := 0, slots := 0, locals := 24 }) (BP G [.ref (q 0)] (fun U H => PW G (stW G q v) H)) (QP (.int (fX2_dotsAtOnce v))) 0 0 (fun _ => False) := by
  refine met_of (by decide) (Nat.le_of_ble_eq_true rfl) ?_
  intro p e s m below meth c ls hC hKN hB0 hl
  have hP := hB0
  have hl : lv_has ls 2 [(0, .ref (q 0))] := hl
  have hg : fX2_dotsAtOnce v = fX2_dotsAtOnce v := rfl
  refine lv_aload_n hC.1 hC.2.1 dX2_dotsAtOnce_0 rfl (lv_at hl 0 rfl) ?_
  refine gf (v := .ref (q 3)) hC fwX2 hKN hP 0 rfl rfl 2 (by decide) rfl wd_118 rfl dX2_dotsAtOnce_1 ?_
  refine lv_iconst (v := 3) hC.1 hC.2.1 dX2_dotsAtOnce_4 (by decide) ?_
  refine runP (rSN (B := fun U H => RD (q 3) 7 (v 2) U H) (As := [.ref (q 3), .int 3]) (rest := []) hC mwX5_at (c_X5_at l G (q 3) 7 (v 2) 3) wd_249 (nm_5 hKN) ⟨rfl, rfl⟩ ⟨Nat.le_of_ble_eq_true rfl, Nat.le_of_ble_eq_true rfl⟩ (stb_RD _ _ _) hKN (RD.ofP hKN hP 3 rfl) rfl hl.1 rfl (Nat.le_of_ble_eq_true rfl) dX2_dotsAtOnce_5 ⟨Nat.zero_le _, Nat.zero_le _⟩) ?_
  refine lv_istore_n (lv' := [(1, .int (fX5_at 7 (v 2) 3)), (0, .ref (q 0))]) hC.1 hC.2.1 dX2_dotsAtOnce_8 rfl hl (by decide) rfl (fun ls hl => ?_)
  refine lv_iload_n hC.1 hC.2.1 dX2_dotsAtOnce_9 rfl (lv_at hl 0 rfl) ?_
  refine lv_iconst (v := 1) hC.1 hC.2.1 dX2_dotsAtOnce_10 (by decide) ?_
  refine lv_icmp_ge (tgt := 18) hC.1 hC.2.1 dX2_dotsAtOnce_11 (by decide) (fun k11 => ?_) (fun k11 => ?_)
  · refine lv_iconst (v := 1) hC.1 hC.2.1 dX2_dotsAtOnce_18 (by decide) ?_
    refine lv_aload_n hC.1 hC.2.1 dX2_dotsAtOnce_19 rfl (lv_at hl 1 rfl) ?_
    refine gf (v := .ref (q 3)) hC fwX2 hKN hP 0 rfl rfl 2 (by decide) rfl wd_118 rfl dX2_dotsAtOnce_20 ?_
    refine lv_iconst (v := 4) hC.1 hC.2.1 dX2_dotsAtOnce_23 (by decide) ?_
    refine runP (rSN (B := fun U H => RD (q 3) 7 (v 2) U H) (As := [.ref (q 3), .int 4]) (rest := [.int 1]) hC mwX5_at (c_X5_at l G (q 3) 7 (v 2) 4) wd_249 (nm_5 hKN) ⟨rfl, rfl⟩ ⟨Nat.le_of_ble_eq_true rfl, Nat.le_of_ble_eq_true rfl⟩ (stb_RD _ _ _) hKN (RD.ofP hKN hP 3 rfl) rfl hl.1 rfl (Nat.le_of_ble_eq_true rfl) dX2_dotsAtOnce_24 ⟨Nat.zero_le _, Nat.zero_le _⟩) ?_
    refine lv_iload_n hC.1 hC.2.1 dX2_dotsAtOnce_27 rfl (lv_at hl 0 rfl) ?_
    refine lv_idiv hC.1 hC.2.1 dX2_dotsAtOnce_28 (fun h => by rw [h] at k11; exact absurd k11 (by decide)) ?_
    refine va_mmax hC.1 hC.2.1 (hC.2.2.2.1.trans hl.1.symm) hC.2.2.2.2.1 (hC.2.2.2.2.2.2.1 _ wd_412) (hC.2.2.2.2.2.2.1 _ wd_413) (hC.2.2.2.2.2.2.1 _ wd_3) (hC.2.2.2.2.2.2.1 _ wd_414) (Nat.le_of_ble_eq_true rfl) (Nat.le_of_ble_eq_true rfl) (Nat.zero_le _) (Nat.zero_le _) dX2_dotsAtOnce_29 ?_
    have e_1 : fX2_dotsAtOnce v = (if 1 < ((fX5_at 7 (v 2) 4) / (fX5_at 7 (v 2) 3)) then ((fX5_at 7 (v 2) 4) / (fX5_at 7 (v 2) 3)) else 1) := by exact Eq.trans (if_pos k11) rfl
    have hg : fX2_dotsAtOnce v = (if 1 < ((fX5_at 7 (v 2) 4) / (fX5_at 7 (v 2) 3)) then ((fX5_at 7 (v 2) 4) / (fX5_at 7 (v 2) 3)) else 1) := hg.trans (congrArg (fun z => z) e_1)
    exact eP_i hC (congrArg Value.int hg) dX2_dotsAtOnce_32
  · refine lv_iconst (v := 1) hC.1 hC.2.1 dX2_dotsAtOnce_14 (by decide) ?_
    refine lv_goto (tgt := 32) hC.1 hC.2.1 dX2_dotsAtOnce_15 (by decide) ?_
    have e_2 : fX2_dotsAtOnce v = 1 := by exact Eq.trans (if_neg k11) rfl
    have hg : fX2_dotsAtOnce v = 1 := hg.trans (congrArg (fun z => z) e_2)
    exact eP_i hC (congrArg Value.int hg) dX2_dotsAtOnce_32
