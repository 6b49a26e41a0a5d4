theorem dX5_at_0 : decode cX5_at 0 = .ok (.iload_n 1, 1) := by decide +kernel
theorem dX5_at_1 : decode cX5_at 1 = .ok (.ifCond .lt 15, 3) := by decide +kernel
theorem dX5_at_4 : decode cX5_at 4 = .ok (.iload_n 1, 1) := by decide +kernel
theorem dX5_at_5 : decode cX5_at 5 = .ok (.aload_n 0, 1) := by decide +kernel
theorem dX5_at_6 : decode cX5_at 6 = .ok (.arraylength, 1) := by decide +kernel
theorem dX5_at_7 : decode cX5_at 7 = .ok (.if_icmp .ge 9, 3) := by decide +kernel
theorem dX5_at_10 : decode cX5_at 10 = .ok (.aload_n 0, 1) := by decide +kernel
theorem dX5_at_11 : decode cX5_at 11 = .ok (.iload_n 1, 1) := by decide +kernel
theorem dX5_at_12 : decode cX5_at 12 = .ok (.iaload, 1) := by decide +kernel
theorem dX5_at_13 : decode cX5_at 13 = .ok (.goto 4, 3) := by decide +kernel
theorem dX5_at_16 : decode cX5_at 16 = .ok (.iconst 0, 1) := by decide +kernel
theorem dX5_at_17 : decode cX5_at 17 = .ok (.ireturn, 1) := by decide +kernel
set_option maxHeartbeats 1000000 in
set_option maxRecDepth 100000 in
theorem c_X5_at (l : Launch) (G : GT) (a1 : Nat) (n1 : Nat) (f1 : Nat → Int32) (x2 : Int32) : Met l yX5_at (Cond.code yX5_at cX5_at 2 (some .int) :: bigW) ({ frames := 0, cells := 0, slots := 0, locals := 0 }) (BP G [.ref a1, .int x2] (fun U H => RD a1 n1 f1 U H)) (QP (.int (fX5_at n1 f1 x2))) 0 0 (fun _ => False) := by
  refine met_of (by decide) (Nat.le_of_ble_eq_true rfl) ?_
  intro p e s m below meth c ls hC hKN hB0 hl
  have hR1 := hB0
  have hl : lv_has ls 2 [(0, .ref a1), (1, .int x2)] := hl
  have hg : fX5_at n1 f1 x2 = fX5_at n1 f1 x2 := rfl
  refine lv_iload_n hC.1 hC.2.1 dX5_at_0 rfl (lv_at hl 1 rfl) ?_
  refine lv_if_lt (tgt := 16) hC.1 hC.2.1 dX5_at_1 (by decide) (fun k1 => ?_) (fun k1 => ?_)
  · refine lv_iconst (v := 0) hC.1 hC.2.1 dX5_at_16 (by decide) ?_
    have e_1 : fX5_at n1 f1 x2 = 0 := by exact Eq.trans (if_pos k1) rfl
    have hg : fX5_at n1 f1 x2 = 0 := hg.trans (congrArg (fun z => z) e_1)
    exact eP_i hC (congrArg Value.int hg) dX5_at_17
  · refine lv_iload_n hC.1 hC.2.1 dX5_at_4 rfl (lv_at hl 1 rfl) ?_
    refine lv_aload_n hC.1 hC.2.1 dX5_at_5 rfl (lv_at hl 0 rfl) ?_
    refine rd_len hC hR1 dX5_at_6 ?_
    refine lv_icmp_ge (tgt := 16) hC.1 hC.2.1 dX5_at_7 (by decide) (fun k7 => ?_) (fun k7 => ?_)
    · refine lv_iconst (v := 0) hC.1 hC.2.1 dX5_at_16 (by decide) ?_
      have e_2 : fX5_at n1 f1 x2 = 0 := by exact Eq.trans (if_neg k1) (Eq.trans (if_pos k7) rfl)
      have hg : fX5_at n1 f1 x2 = 0 := hg.trans (congrArg (fun z => z) e_2)
      exact eP_i hC (congrArg Value.int hg) dX5_at_17
    · refine lv_aload_n hC.1 hC.2.1 dX5_at_10 rfl (lv_at hl 0 rfl) ?_
      refine lv_iload_n hC.1 hC.2.1 dX5_at_11 rfl (lv_at hl 1 rfl) ?_
      refine rd_ld hC hR1 (vp_path k1 k7) dX5_at_12 ?_
      refine lv_goto (tgt := 17) hC.1 hC.2.1 dX5_at_13 (by decide) ?_
      have e_3 : fX5_at n1 f1 x2 = f1 x2.toNatClampNeg := by exact Eq.trans (if_neg k1) (Eq.trans (if_neg k7) rfl)
      have hg : fX5_at n1 f1 x2 = f1 x2.toNatClampNeg := hg.trans (congrArg (fun z => z) e_3)
      exact eP_i hC (congrArg Value.int hg) dX5_at_17

theorem dX5_bitOf_0 : decode cX5_bitOf 0 = .ok (.iload_n 1, 1) := by decide +kernel
theorem dX5_bitOf_1 : decode cX5_bitOf 1 = .ok (.ifCond .lt 17, 3) := by decide +kernel
theorem dX5_bitOf_4 : decode cX5_bitOf 4 = .ok (.iload_n 1, 1) := by decide +kernel
theorem dX5_bitOf_5 : decode cX5_bitOf 5 = .ok (.bipush 24, 2) := by decide +kernel
theorem dX5_bitOf_7 : decode cX5_bitOf 7 = .ok (.if_icmp .ge 11, 3) := by decide +kernel
theorem dX5_bitOf_10 : decode cX5_bitOf 10 = .ok (.iload_n 0, 1) := by decide +kernel
theorem dX5_bitOf_11 : decode cX5_bitOf 11 = .ok (.iload_n 1, 1) := by decide +kernel
theorem dX5_bitOf_12 : decode cX5_bitOf 12 = .ok (.ishr, 1) := by decide +kernel
theorem dX5_bitOf_13 : decode cX5_bitOf 13 = .ok (.iconst 1, 1) := by decide +kernel
theorem dX5_bitOf_14 : decode cX5_bitOf 14 = .ok (.iand, 1) := by decide +kernel
theorem dX5_bitOf_15 : decode cX5_bitOf 15 = .ok (.goto 4, 3) := by decide +kernel
theorem dX5_bitOf_18 : decode cX5_bitOf 18 = .ok (.iconst 0, 1) := by decide +kernel
theorem dX5_bitOf_19 : decode cX5_bitOf 19 = .ok (.ireturn, 1) := by decide +kernel
set_option maxHeartbeats 1000000 in
set_option maxRecDepth 100000 in
theorem c_X5_bitOf (l : Launch) (G : GT) (x1 : Int32) (x2 : Int32) : Met l yX5_bitOf (Cond.code yX5_bitOf cX5_bitOf 2 (some .int) :: bigW) ({ frames := 0, cells := 0, slots := 0, locals := 0 }) (BP G [.int x1, .int x2] (fun U H => True)) (QP (.int (fX5_bitOf x1 x2))) 0 0 (fun _ => False) := by
  refine met_of (by decide) (Nat.le_of_ble_eq_true rfl) ?_
  intro p e s m below meth c ls hC hKN hB0 hl
  have hl : lv_has ls 2 [(0, .int x1), (1, .int x2)] := hl
  have hg : fX5_bitOf x1 x2 = fX5_bitOf x1 x2 := rfl
  refine lv_iload_n hC.1 hC.2.1 dX5_bitOf_0 rfl (lv_at hl 1 rfl) ?_
  refine lv_if_lt (tgt := 18) hC.1 hC.2.1 dX5_bitOf_1 (by decide) (fun k1 => ?_) (fun k1 => ?_)
  · refine lv_iconst (v := 0) hC.1 hC.2.1 dX5_bitOf_18 (by decide) ?_
    have e_1 : fX5_bitOf x1 x2 = 0 := by exact Eq.trans (if_pos k1) rfl
    have hg : fX5_bitOf x1 x2 = 0 := hg.trans (congrArg (fun z => z) e_1)
    exact eP_i hC (congrArg Value.int hg) dX5_bitOf_19
  · refine lv_iload_n hC.1 hC.2.1 dX5_bitOf_4 rfl (lv_at hl 1 rfl) ?_
    refine lv_bipush (v := 24) hC.1 hC.2.1 dX5_bitOf_5 (by decide +kernel) ?_
    refine lv_icmp_ge (tgt := 18) hC.1 hC.2.1 dX5_bitOf_7 (by decide) (fun k7 => ?_) (fun k7 => ?_)
    · refine lv_iconst (v := 0) hC.1 hC.2.1 dX5_bitOf_18 (by decide) ?_
      have e_2 : fX5_bitOf x1 x2 = 0 := by exact Eq.trans (if_neg k1) (Eq.trans (if_pos k7) rfl)
      have hg : fX5_bitOf x1 x2 = 0 := hg.trans (congrArg (fun z => z) e_2)
      exact eP_i hC (congrArg Value.int hg) dX5_bitOf_19
    · refine lv_iload_n hC.1 hC.2.1 dX5_bitOf_10 rfl (lv_at hl 0 rfl) ?_
      refine lv_iload_n hC.1 hC.2.1 dX5_bitOf_11 rfl (lv_at hl 1 rfl) ?_
      refine lv_ishr hC.1 hC.2.1 dX5_bitOf_12 ?_
      refine lv_iconst (v := 1) hC.1 hC.2.1 dX5_bitOf_13 (by decide) ?_
      refine lv_iand hC.1 hC.2.1 dX5_bitOf_14 ?_
      refine lv_goto (tgt := 19) hC.1 hC.2.1 dX5_bitOf_15 (by decide) ?_
      have e_3 : fX5_bitOf x1 x2 = (x1 >>> (x2 &&& 31)) &&& 1 := by exact Eq.trans (if_neg k1) (Eq.trans (if_neg k7) rfl)
      have hg : fX5_bitOf x1 x2 = (x1 >>> (x2 &&& 31)) &&& 1 := hg.trans (congrArg (fun z => z) e_3)
      exact eP_i hC (congrArg Value.int hg) dX5_bitOf_19

theorem dX5_isWithin_0 : decode cX5_isWithin 0 = .ok (.iload_n 0, 1) := by decide +kernel
theorem dX5_isWithin_1 : decode cX5_isWithin 1 = .ok (.iload_n 1, 1) := by decide +kernel
theorem dX5_isWithin_2 : decode cX5_isWithin 2 = .ok (.if_icmp .lt 12, 3) := by decide +kernel
theorem dX5_isWithin_5 : decode cX5_isWithin 5 = .ok (.iload_n 0, 1) := by decide +kernel
theorem dX5_isWithin_6 : decode cX5_isWithin 6 = .ok (.iload_n 2, 1) := by decide +kernel
theorem dX5_isWithin_7 : decode cX5_isWithin 7 = .ok (.if_icmp .gt 7, 3) := by decide +kernel
theorem dX5_isWithin_10 : decode cX5_isWithin 10 = .ok (.iconst 1, 1) := by decide +kernel
theorem dX5_isWithin_11 : decode cX5_isWithin 11 = .ok (.goto 4, 3) := by decide +kernel
theorem dX5_isWithin_14 : decode cX5_isWithin 14 = .ok (.iconst 0, 1) := by decide +kernel
theorem dX5_isWithin_15 : decode cX5_isWithin 15 = .ok (.ireturn, 1) := by decide +kernel
set_option maxHeartbeats 1000000 in
set_option maxRecDepth 100000 in
theorem c_X5_isWithin (l : Launch) (G : GT) (x1 : Int32) (x2 : Int32) (x3 : Int32) : Met l yX5_isWithin (Cond.code yX5_isWithin cX5_isWithin 3 (some .boolean) :: bigW) ({ frames := 0, cells := 0, slots := 0, locals := 0 }) (BP G [.int x1, .int x2, .int x3] (fun U H => True)) (QP (.int (fX5_isWithin x1 x2 x3))) 0 0 (fun _ => False) := by
  refine met_of (by decide) (Nat.le_of_ble_eq_true rfl) ?_
  intro p e s m below meth c ls hC hKN hB0 hl
  have hl : lv_has ls 3 [(0, .int x1), (1, .int x2), (2, .int x3)] := hl
  have hg : fX5_isWithin x1 x2 x3 = fX5_isWithin x1 x2 x3 := rfl
  refine lv_iload_n hC.1 hC.2.1 dX5_isWithin_0 rfl (lv_at hl 0 rfl) ?_
  refine lv_iload_n hC.1 hC.2.1 dX5_isWithin_1 rfl (lv_at hl 1 rfl) ?_
  refine lv_icmp_lt (tgt := 14) hC.1 hC.2.1 dX5_isWithin_2 (by decide) (fun k2 => ?_) (fun k2 => ?_)
  · refine lv_iconst (v := 0) hC.1 hC.2.1 dX5_isWithin_14 (by decide) ?_
    have e_1 : fX5_isWithin x1 x2 x3 = 0 := by exact Eq.trans (if_pos k2) rfl
    have hg : fX5_isWithin x1 x2 x3 = 0 := hg.trans (congrArg (fun z => z) e_1)
    exact eP_z hC (congrArg Value.int hg) rfl dX5_isWithin_15
  · refine lv_iload_n hC.1 hC.2.1 dX5_isWithin_5 rfl (lv_at hl 0 rfl) ?_
    refine lv_iload_n hC.1 hC.2.1 dX5_isWithin_6 rfl (lv_at hl 2 rfl) ?_
    refine lv_icmp_gt (tgt := 14) hC.1 hC.2.1 dX5_isWithin_7 (by decide) (fun k7 => ?_) (fun k7 => ?_)
    · refine lv_iconst (v := 0) hC.1 hC.2.1 dX5_isWithin_14 (by decide) ?_
      have e_2 : fX5_isWithin x1 x2 x3 = 0 := by exact Eq.trans (if_neg k2) (Eq.trans (if_pos k7) rfl)
      have hg : fX5_isWithin x1 x2 x3 = 0 := hg.trans (congrArg (fun z => z) e_2)
      exact eP_z hC (congrArg Value.int hg) rfl dX5_isWithin_15
    · refine lv_iconst (v := 1) hC.1 hC.2.1 dX5_isWithin_10 (by decide) ?_
      refine lv_goto (tgt := 15) hC.1 hC.2.1 dX5_isWithin_11 (by decide) ?_
      have e_3 : fX5_isWithin x1 x2 x3 = 1 := by exact Eq.trans (if_neg k2) (Eq.trans (if_neg k7) rfl)
      have hg : fX5_isWithin x1 x2 x3 = 1 := hg.trans (congrArg (fun z => z) e_3)
      exact eP_z hC (congrArg Value.int hg) rfl dX5_isWithin_15

theorem dX5_isLine_0 : decode cX5_isLine 0 = .ok (.iload_n 0, 1) := by decide +kernel
theorem dX5_isLine_1 : decode cX5_isLine 1 = .ok (.iconst 0, 1) := by decide +kernel
theorem dX5_isLine_2 : decode cX5_isLine 2 = .ok (.ldc_w 302, 3) := by decide +kernel
theorem dX5_isLine_5 : decode cX5_isLine 5 = .ok (.invokestatic 66, 3) := by decide +kernel
theorem dX5_isLine_8 : decode cX5_isLine 8 = .ok (.ireturn, 1) := by decide +kernel
set_option maxHeartbeats 1000000 in
set_option maxRecDepth 100000 in
theorem c_X5_isLine (l : Launch) (G : GT) (x1 : Int32) : Met l yX5_isLine (Cond.code yX5_isLine cX5_isLine 1 (some .boolean) :: bigW) ({ frames := 1, cells := 0, slots := 0, locals := 22 }) (BP G [.int x1] (fun U H => True)) (QP (.int (fX5_isLine x1))) 0 0 (fun _ => False) := by
  refine met_of (by decide) (Nat.le_of_ble_eq_true rfl) ?_
  intro p e s m below meth c ls hC hKN hB0 hl
  have hl : lv_has ls 1 [(0, .int x1)] := hl
  have hg : fX5_isLine x1 = fX5_isLine x1 := rfl
  refine lv_iload_n hC.1 hC.2.1 dX5_isLine_0 rfl (lv_at hl 0 rfl) ?_
  refine lv_iconst (v := 0) hC.1 hC.2.1 dX5_isLine_1 (by decide) ?_
  refine lv_ldcw (v := 16777215) hC.1 hC.2.1 hC.2.2.2.2.1 (hC.2.2.2.2.2.2.1 _ wd_481) dX5_isLine_2 ?_
  refine runP (rS (B := fun U H => True) (As := [.int x1, .int 0, .int 16777215]) (rest := []) hC mwX5_isWithin (c_X5_isWithin l G x1 0 16777215) wd_343 wd_608 ⟨rfl, rfl⟩ ⟨Nat.le_of_ble_eq_true rfl, Nat.le_of_ble_eq_true rfl⟩ (fun _ _ _ _ h => h) hKN trivial rfl hl.1 rfl (Nat.le_of_ble_eq_true rfl) dX5_isLine_5 ⟨Nat.zero_le _, Nat.zero_le _⟩) ?_
  have e_1 : fX5_isLine x1 = fX5_isWithin x1 0 16777215 := by exact rfl
  have hg : fX5_isLine x1 = fX5_isWithin x1 0 16777215 := hg.trans (congrArg (fun z => z) e_1)
  exact eP_z hC (congrArg Value.int hg) (nb01 (isWithin_01 _ _ _)) dX5_isLine_8

theorem dX5_isDot_0 : decode cX5_isDot 0 = .ok (.iload_n 0, 1) := by decide +kernel
theorem dX5_isDot_1 : decode cX5_isDot 1 = .ok (.iconst 0, 1) := by decide +kernel
theorem dX5_isDot_2 : decode cX5_isDot 2 = .ok (.bipush 23, 2) := by decide +kernel
theorem dX5_isDot_4 : decode cX5_isDot 4 = .ok (.invokestatic 66, 3) := by decide +kernel
theorem dX5_isDot_7 : decode cX5_isDot 7 = .ok (.ireturn, 1) := by decide +kernel
set_option maxHeartbeats 1000000 in
set_option maxRecDepth 100000 in
theorem c_X5_isDot (l : Launch) (G : GT) (x1 : Int32) : Met l yX5_isDot (Cond.code yX5_isDot cX5_isDot 1 (some .boolean) :: bigW) ({ frames := 1, cells := 0, slots := 0, locals := 22 }) (BP G [.int x1] (fun U H => True)) (QP (.int (fX5_isDot x1))) 0 0 (fun _ => False) := by
  refine met_of (by decide) (Nat.le_of_ble_eq_true rfl) ?_
  intro p e s m below meth c ls hC hKN hB0 hl
  have hl : lv_has ls 1 [(0, .int x1)] := hl
  have hg : fX5_isDot x1 = fX5_isDot x1 := rfl
  refine lv_iload_n hC.1 hC.2.1 dX5_isDot_0 rfl (lv_at hl 0 rfl) ?_
  refine lv_iconst (v := 0) hC.1 hC.2.1 dX5_isDot_1 (by decide) ?_
  refine lv_bipush (v := 23) hC.1 hC.2.1 dX5_isDot_2 (by decide +kernel) ?_
  refine runP (rS (B := fun U H => True) (As := [.int x1, .int 0, .int 23]) (rest := []) hC mwX5_isWithin (c_X5_isWithin l G x1 0 23) wd_343 wd_608 ⟨rfl, rfl⟩ ⟨Nat.le_of_ble_eq_true rfl, Nat.le_of_ble_eq_true rfl⟩ (fun _ _ _ _ h => h) hKN trivial rfl hl.1 rfl (Nat.le_of_ble_eq_true rfl) dX5_isDot_4 ⟨Nat.zero_le _, Nat.zero_le _⟩) ?_
  have e_1 : fX5_isDot x1 = fX5_isWithin x1 0 23 := by exact rfl
  have hg : fX5_isDot x1 = fX5_isWithin x1 0 23 := hg.trans (congrArg (fun z => z) e_1)
  exact eP_z hC (congrArg Value.int hg) (nb01 (isWithin_01 _ _ _)) dX5_isDot_7

theorem dX2_cooled_0 : decode cX2_cooled 0 = .ok (.iload_n 1, 1) := by decide +kernel
theorem dX2_cooled_1 : decode cX2_cooled 1 = .ok (.iconst 1, 1) := by decide +kernel
theorem dX2_cooled_2 : decode cX2_cooled 2 = .ok (.if_icmp .ge 7, 3) := by decide +kernel
theorem dX2_cooled_5 : decode cX2_cooled 5 = .ok (.iconst 0, 1) := by decide +kernel
theorem dX2_cooled_6 : decode cX2_cooled 6 = .ok (.goto 10, 3) := by decide +kernel
theorem dX2_cooled_9 : decode cX2_cooled 9 = .ok (.iload_n 0, 1) := by decide +kernel
theorem dX2_cooled_10 : decode cX2_cooled 10 = .ok (.iload_n 0, 1) := by decide +kernel
theorem dX2_cooled_11 : decode cX2_cooled 11 = .ok (.iload_n 1, 1) := by decide +kernel
theorem dX2_cooled_12 : decode cX2_cooled 12 = .ok (.idiv, 1) := by decide +kernel
theorem dX2_cooled_13 : decode cX2_cooled 13 = .ok (.isub, 1) := by decide +kernel
theorem dX2_cooled_14 : decode cX2_cooled 14 = .ok (.iconst 1, 1) := by decide +kernel
theorem dX2_cooled_15 : decode cX2_cooled 15 = .ok (.isub, 1) := by decide +kernel
theorem dX2_cooled_16 : decode cX2_cooled 16 = .ok (.istore_n 2, 1) := by decide +kernel
theorem dX2_cooled_17 : decode cX2_cooled 17 = .ok (.iload_n 2, 1) := by decide +kernel
theorem dX2_cooled_18 : decode cX2_cooled 18 = .ok (.ifCond .ge 7, 3) := by decide +kernel
theorem dX2_cooled_21 : decode cX2_cooled 21 = .ok (.iconst 0, 1) := by decide +kernel
theorem dX2_cooled_22 : decode cX2_cooled 22 = .ok (.goto 4, 3) := by decide +kernel
theorem dX2_cooled_25 : decode cX2_cooled 25 = .ok (.iload_n 2, 1) := by decide +kernel
theorem dX2_cooled_26 : decode cX2_cooled 26 = .ok (.ireturn, 1) := by decide +kernel
set_option maxHeartbeats 1000000 in
set_option maxRecDepth 100000 in
theorem c_X2_cooled (l : Launch) (G : GT) (x1 : Int32) (x2 : Int32) : Met l yX2_cooled (Cond.code yX2_cooled cX2_cooled 3 (some .int) :: bigW) ({ frames := 0, cells := 0, slots := 0, locals := 0 }) (BP G [.int x1, .int x2] (fun U H => True)) (QP (.int (fX2_cooled x1 x2))) 0 0 (fun _ => False) := by
  refine met_of (by decide) (Nat.le_of_ble_eq_true rfl) ?_
  intro p e s m below meth c ls hC hKN hB0 hl
  have hl : lv_has ls 3 [(0, .int x1), (1, .int x2)] := hl
  have hg : fX2_cooled x1 x2 = fX2_cooled x1 x2 := rfl
  refine lv_iload_n hC.1 hC.2.1 dX2_cooled_0 rfl (lv_at hl 1 rfl) ?_
  refine lv_iconst (v := 1) hC.1 hC.2.1 dX2_cooled_1 (by decide) ?_
  refine lv_icmp_ge (tgt := 9) hC.1 hC.2.1 dX2_cooled_2 (by decide) (fun k2 => ?_) (fun k2 => ?_)
  · refine lv_iload_n hC.1 hC.2.1 dX2_cooled_9 rfl (lv_at hl 0 rfl) ?_
    refine lv_iload_n hC.1 hC.2.1 dX2_cooled_10 rfl (lv_at hl 0 rfl) ?_
    refine lv_iload_n hC.1 hC.2.1 dX2_cooled_11 rfl (lv_at hl 1 rfl) ?_
    refine lv_idiv hC.1 hC.2.1 dX2_cooled_12 (fun h => by rw [h] at k2; exact absurd k2 (by decide)) ?_
    refine lv_isub hC.1 hC.2.1 dX2_cooled_13 ?_
    refine lv_iconst (v := 1) hC.1 hC.2.1 dX2_cooled_14 (by decide) ?_
    refine lv_isub hC.1 hC.2.1 dX2_cooled_15 ?_
    refine lv_istore_n (lv' := [(2, .int ((x1 - (x1 / x2)) - 1)), (0, .int x1), (1, .int x2)]) hC.1 hC.2.1 dX2_cooled_16 rfl hl (by decide) rfl (fun ls hl => ?_)
    refine lv_iload_n hC.1 hC.2.1 dX2_cooled_17 rfl (lv_at hl 0 rfl) ?_
    refine lv_if_ge (tgt := 25) hC.1 hC.2.1 dX2_cooled_18 (by decide) (fun k18 => ?_) (fun k18 => ?_)
    · refine lv_iload_n hC.1 hC.2.1 dX2_cooled_25 rfl (lv_at hl 0 rfl) ?_
      have e_1 : fX2_cooled x1 x2 = (x1 - (x1 / x2)) - 1 := by exact Eq.trans (if_pos k2) (Eq.trans (if_pos k18) rfl)
      have hg : fX2_cooled x1 x2 = (x1 - (x1 / x2)) - 1 := hg.trans (congrArg (fun z => z) e_1)
      exact eP_i hC (congrArg Value.int hg) dX2_cooled_26
    · refine lv_iconst (v := 0) hC.1 hC.2.1 dX2_cooled_21 (by decide) ?_
      refine lv_goto (tgt := 26) hC.1 hC.2.1 dX2_cooled_22 (by decide) ?_
      have e_2 : fX2_cooled x1 x2 = 0 := by exact Eq.trans (if_pos k2) (Eq.trans (if_neg k18) rfl)
      have hg : fX2_cooled x1 x2 = 0 := hg.trans (congrArg (fun z => z) e_2)
      exact eP_i hC (congrArg Value.int hg) dX2_cooled_26
  · refine lv_iconst (v := 0) hC.1 hC.2.1 dX2_cooled_5 (by decide) ?_
    refine lv_goto (tgt := 16) hC.1 hC.2.1 dX2_cooled_6 (by decide) ?_
    refine lv_istore_n (lv' := [(2, .int 0), (0, .int x1), (1, .int x2)]) hC.1 hC.2.1 dX2_cooled_16 rfl hl (by decide) rfl (fun ls hl => ?_)
    refine lv_iload_n hC.1 hC.2.1 dX2_cooled_17 rfl (lv_at hl 0 rfl) ?_
    refine lv_if_ge (tgt := 25) hC.1 hC.2.1 dX2_cooled_18 (by decide) (fun k18 => ?_) (fun k18 => ?_)
    · refine lv_iload_n hC.1 hC.2.1 dX2_cooled_25 rfl (lv_at hl 0 rfl) ?_
      have e_3 : fX2_cooled x1 x2 = 0 := by exact Eq.trans (if_neg k2) rfl
      have hg : fX2_cooled x1 x2 = 0 := hg.trans (congrArg (fun z => z) e_3)
      exact eP_i hC (congrArg Value.int hg) dX2_cooled_26
    · exact absurd (by decide) k18
