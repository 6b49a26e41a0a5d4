def fX5_at (n1 : Nat) (f1 : Nat → Int32) (x2 : Int32) : Int32 := if x2 < 0 then (0) else (if (nI n1) ≤ x2 then (0) else (f1 x2.toNatClampNeg))
def fX5_bitOf (x1 : Int32) (x2 : Int32) : Int32 := if x2 < 0 then (0) else (if 24 ≤ x2 then (0) else ((x1 >>> (x2 &&& 31)) &&& 1))
def fX5_isWithin (x1 : Int32) (x2 : Int32) (x3 : Int32) : Int32 := if x1 < x2 then (0) else (if x3 < x1 then (0) else (1))
theorem dX5_at_0 : decode cX5_at 0 = .ok (.iload_n 1, 1) := by decide +kernel
theorem dX5_at_1 : decode cX5_at 1 = .ok (.ifCond .lt 15, 3) := by decide +kernel
theorem dX5_at_4 : decode cX5_at 4 = .ok (.iload_n 1, 1) := by decide +kernel
theorem dX5_at_5 : decode cX5_at 5 = .ok (.aload_n 0, 1) := by decide +kernel
theorem dX5_at_6 : decode cX5_at 6 = .ok (.arraylength, 1) := by decide +kernel
theorem dX5_at_7 : decode cX5_at 7 = .ok (.if_icmp .ge 9, 3) := by decide +kernel
theorem dX5_at_10 : decode cX5_at 10 = .ok (.aload_n 0, 1) := by decide +kernel
theorem dX5_at_11 : decode cX5_at 11 = .ok (.iload_n 1, 1) := by decide +kernel
theorem dX5_at_12 : decode cX5_at 12 = .ok (.iaload, 1) := by decide +kernel
theorem dX5_at_13 : decode cX5_at 13 = .ok (.goto 4, 3) := by decide +kernel
theorem dX5_at_16 : decode cX5_at 16 = .ok (.iconst 0, 1) := by decide +kernel
theorem dX5_at_17 : decode cX5_at 17 = .ok (.ireturn, 1) := by decide +kernel
set_option maxHeartbeats 1000000 in
set_option maxRecDepth 100000 in
theorem c_X5_at (l : Launch) (G : GT) (a1 : Nat) (n1 : Nat) (f1 : Nat → Int32) (x2 : Int32) : Met l yX5_at (Cond.code yX5_at cX5_at 2 (some .int) :: bigW) ({ frames := 0, cells := 0, slots := 0, locals := 0 }) (BP G [.ref a1, .int x2] (fun U H => RD a1 n1 f1 U H)) (QP (.int (fX5_at n1 f1 x2))) 0 0 (fun _ => False) := by
  refine met_of (by decide) (Nat.le_of_ble_eq_true rfl) ?_
  intro p e s m below meth c ls hC hKN hB0 hl
  have hR1 := hB0
  have hl : lv_has ls 2 [(0, .ref a1), (1, .int x2)] := hl
  have hg : fX5_at n1 f1 x2 = fX5_at n1 f1 x2 := rfl
  refine lv_iload_n hC.1 hC.2.1 dX5_at_0 rfl (lv_at hl 1 rfl) ?_
  refine lv_if_lt (tgt := 16) hC.1 hC.2.1 dX5_at_1 (by decide) (fun k1 => ?_) (fun k1 => ?_)
  · refine lv_iconst (v := 0) hC.1 hC.2.1 dX5_at_16 (by decide) ?_
    have e_1 : fX5_at n1 f1 x2 = 0 := by exact Eq.trans (if_pos k1) rfl
    have hg : fX5_at n1 f1 x2 = 0 := hg.trans (congrArg (fun z => z) e_1)
    exact eP_i hC (congrArg Value.int hg) dX5_at_17
  · refine lv_iload_n hC.1 hC.2.1 dX5_at_4 rfl (lv_at hl 1 rfl) ?_
    refine lv_aload_n hC.1 hC.2.1 dX5_at_5 rfl (lv_at hl 0 rfl) ?_
    refine rd_len hC hR1 dX5_at_6 ?_
    refine lv_icmp_ge (tgt := 16) hC.1 hC.2.1 dX5_at_7 (by decide) (fun k7 => ?_) (fun k7 => ?_)
    · refine lv_iconst (v := 0) hC.1 hC.2.1 dX5_at_16 (by decide) ?_
      have e_2 : fX5_at n1 f1 x2 = 0 := by exact Eq.trans (if_neg k1) (Eq.trans (if_pos k7) rfl)
      have hg : fX5_at n1 f1 x2 = 0 := hg.trans (congrArg (fun z => z) e_2)
      exact eP_i hC (congrArg Value.int hg) dX5_at_17
    · refine lv_aload_n hC.1 hC.2.1 dX5_at_10 rfl (lv_at hl 0 rfl) ?_
      refine lv_iload_n hC.1 hC.2.1 dX5_at_11 rfl (lv_at hl 1 rfl) ?_
      refine rd_ld hC hR1 (vp_path k1 k7) dX5_at_12 ?_
      refine lv_goto (tgt := 17) hC.1 hC.2.1 dX5_at_13 (by decide) ?_
      have e_3 : fX5_at n1 f1 x2 = f1 x2.toNatClampNeg := by exact Eq.trans (if_neg k1) (Eq.trans (if_neg k7) rfl)
      have hg : fX5_at n1 f1 x2 = f1 x2.toNatClampNeg := hg.trans (congrArg (fun z => z) e_3)
      exact eP_i hC (congrArg Value.int hg) dX5_at_17

theorem dX5_bitOf_0 : decode cX5_bitOf 0 = .ok (.iload_n 1, 1) := by decide +kernel
theorem dX5_bitOf_1 : decode cX5_bitOf 1 = .ok (.ifCond .lt 17, 3) := by decide +kernel
theorem dX5_bitOf_4 : decode cX5_bitOf 4 = .ok (.iload_n 1, 1) := by decide +kernel
theorem dX5_bitOf_5 : decode cX5_bitOf 5 = .ok (.bipush 24, 2) := by decide +kernel
theorem dX5_bitOf_7 : decode cX5_bitOf 7 = .ok (.if_icmp .ge 11, 3) := by decide +kernel
theorem dX5_bitOf_10 : decode cX5_bitOf 10 = .ok (.iload_n 0, 1) := by decide +kernel
theorem dX5_bitOf_11 : decode cX5_bitOf 11 = .ok (.iload_n 1, 1) := by decide +kernel
theorem dX5_bitOf_12 : decode cX5_bitOf 12 = .ok (.ishr, 1) := by decide +kernel
theorem dX5_bitOf_13 : decode cX5_bitOf 13 = .ok (.iconst 1, 1) := by decide +kernel
theorem dX5_bitOf_14 : decode cX5_bitOf 14 = .ok (.iand, 1) := by decide +kernel
theorem dX5_bitOf_15 : decode cX5_bitOf 15 = .ok (.goto 4, 3) := by decide +kernel
theorem dX5_bitOf_18 : decode cX5_bitOf 18 = .ok (.iconst 0, 1) := by decide +kernel
theorem dX5_bitOf_19 : decode cX5_bitOf 19 = .ok (.ireturn, 1) := by decide +kernel
set_option maxHeartbeats 1000000 in
set_option maxRecDepth 100000 in
theorem c_X5_bitOf (l : Launch) (G : GT) (x1 : Int32) (x2 : Int32) : Met l yX5_bitOf (Cond.code yX5_bitOf cX5_bitOf 2 (some .int) :: bigW) ({ frames := 0, cells := 0, slots := 0, locals := 0 }) (BP G [.int x1, .int x2] (fun U H => True)) (QP (.int (fX5_bitOf x1 x2))) 0 0 (fun _ => False) := by
  refine met_of (by decide) (Nat.le_of_ble_eq_true rfl) ?_
  intro p e s m below meth c ls hC hKN hB0 hl
  have hl : lv_has ls 2 [(0, .int x1), (1, .int x2)] := hl
  have hg : fX5_bitOf x1 x2 = fX5_bitOf x1 x2 := rfl
  refine lv_iload_n hC.1 hC.2.1 dX5_bitOf_0 rfl (lv_at hl 1 rfl) ?_
  refine lv_if_lt (tgt := 18) hC.1 hC.2.1 dX5_bitOf_1 (by decide) (fun k1 => ?_) (fun k1 => ?_)
  · refine lv_iconst (v := 0) hC.1 hC.2.1 dX5_bitOf_18 (by decide) ?_
    have e_1 : fX5_bitOf x1 x2 = 0 := by exact Eq.trans (if_pos k1) rfl
    have hg : fX5_bitOf x1 x2 = 0 := hg.trans (congrArg (fun z => z) e_1)
    exact eP_i hC (congrArg Value.int hg) dX5_bitOf_19
  · refine lv_iload_n hC.1 hC.2.1 dX5_bitOf_4 rfl (lv_at hl 1 rfl) ?_
    refine lv_bipush (v := 24) hC.1 hC.2.1 dX5_bitOf_5 (by decide +kernel) ?_
    refine lv_icmp_ge (tgt := 18) hC.1 hC.2.1 dX5_bitOf_7 (by decide) (fun k7 => ?_) (fun k7 => ?_)
    · refine lv_iconst (v := 0) hC.1 hC.2.1 dX5_bitOf_18 (by decide) ?_
      have e_2 : fX5_bitOf x1 x2 = 0 := by exact Eq.trans (if_neg k1) (Eq.trans (if_pos k7) rfl)
      have hg : fX5_bitOf x1 x2 = 0 := hg.trans (congrArg (fun z => z) e_2)
      exact eP_i hC (congrArg Value.int hg) dX5_bitOf_19
    · refine lv_iload_n hC.1 hC.2.1 dX5_bitOf_10 rfl (lv_at hl 0 rfl) ?_
      refine lv_iload_n hC.1 hC.2.1 dX5_bitOf_11 rfl (lv_at hl 1 rfl) ?_
      refine lv_ishr hC.1 hC.2.1 dX5_bitOf_12 ?_
      refine lv_iconst (v := 1) hC.1 hC.2.1 dX5_bitOf_13 (by decide) ?_
      refine lv_iand hC.1 hC.2.1 dX5_bitOf_14 ?_
      refine lv_goto (tgt := 19) hC.1 hC.2.1 dX5_bitOf_15 (by decide) ?_
      have e_3 : fX5_bitOf x1 x2 = (x1 >>> (x2 &&& 31)) &&& 1 := by exact Eq.trans (if_neg k1) (Eq.trans (if_neg k7) rfl)
      have hg : fX5_bitOf x1 x2 = (x1 >>> (x2 &&& 31)) &&& 1 := hg.trans (congrArg (fun z => z) e_3)
      exact eP_i hC (congrArg Value.int hg) dX5_bitOf_19

theorem dX5_isWithin_0 : decode cX5_isWithin 0 = .ok (.iload_n 0, 1) := by decide +kernel
theorem dX5_isWithin_1 : decode cX5_isWithin 1 = .ok (.iload_n 1, 1) := by decide +kernel
theorem dX5_isWithin_2 : decode cX5_isWithin 2 = .ok (.if_icmp .lt 12, 3) := by decide +kernel
theorem dX5_isWithin_5 : decode cX5_isWithin 5 = .ok (.iload_n 0, 1) := by decide +kernel
theorem dX5_isWithin_6 : decode cX5_isWithin 6 = .ok (.iload_n 2, 1) := by decide +kernel
theorem dX5_isWithin_7 : decode cX5_isWithin 7 = .ok (.if_icmp .gt 7, 3) := by decide +kernel
theorem dX5_isWithin_10 : decode cX5_isWithin 10 = .ok (.iconst 1, 1) := by decide +kernel
theorem dX5_isWithin_11 : decode cX5_isWithin 11 = .ok (.goto 4, 3) := by decide +kernel
theorem dX5_isWithin_14 : decode cX5_isWithin 14 = .ok (.iconst 0, 1) := by decide +kernel
theorem dX5_isWithin_15 : decode cX5_isWithin 15 = .ok (.ireturn, 1) := by decide +kernel
set_option maxHeartbeats 1000000 in
set_option maxRecDepth 100000 in
theorem c_X5_isWithin (l : Launch) (G : GT) (x1 : Int32) (x2 : Int32) (x3 : Int32) : Met l yX5_isWithin (Cond.code yX5_isWithin cX5_isWithin 3 (some .boolean) :: bigW) ({ frames := 0, cells := 0, slots := 0, locals := 0 }) (BP G [.int x1, .int x2, .int x3] (fun U H => True)) (QP (.int (fX5_isWithin x1 x2 x3))) 0 0 (fun _ => False) := by
  refine met_of (by decide) (Nat.le_of_ble_eq_true rfl) ?_
  intro p e s m below meth c ls hC hKN hB0 hl
  have hl : lv_has ls 3 [(0, .int x1), (1, .int x2), (2, .int x3)] := hl
  have hg : fX5_isWithin x1 x2 x3 = fX5_isWithin x1 x2 x3 := rfl
  refine lv_iload_n hC.1 hC.2.1 dX5_isWithin_0 rfl (lv_at hl 0 rfl) ?_
  refine lv_iload_n hC.1 hC.2.1 dX5_isWithin_1 rfl (lv_at hl 1 rfl) ?_
  refine lv_icmp_lt (tgt := 14) hC.1 hC.2.1 dX5_isWithin_2 (by decide) (fun k2 => ?_) (fun k2 => ?_)
  · refine lv_iconst (v := 0) hC.1 hC.2.1 dX5_isWithin_14 (by decide) ?_
    have e_1 : fX5_isWithin x1 x2 x3 = 0 := by exact Eq.trans (if_pos k2) rfl
    have hg : fX5_isWithin x1 x2 x3 = 0 := hg.trans (congrArg (fun z => z) e_1)
    exact eP_z hC (congrArg Value.int hg) rfl dX5_isWithin_15
  · refine lv_iload_n hC.1 hC.2.1 dX5_isWithin_5 rfl (lv_at hl 0 rfl) ?_
    refine lv_iload_n hC.1 hC.2.1 dX5_isWithin_6 rfl (lv_at hl 2 rfl) ?_
    refine lv_icmp_gt (tgt := 14) hC.1 hC.2.1 dX5_isWithin_7 (by decide) (fun k7 => ?_) (fun k7 => ?_)
    · refine lv_iconst (v := 0) hC.1 hC.2.1 dX5_isWithin_14 (by decide) ?_
      have e_2 : fX5_isWithin x1 x2 x3 = 0 := by exact Eq.trans (if_neg k2) (Eq.trans (if_pos k7) rfl)
      have hg : fX5_isWithin x1 x2 x3 = 0 := hg.trans (congrArg (fun z => z) e_2)
      exact eP_z hC (congrArg Value.int hg) rfl dX5_isWithin_15
    · refine lv_iconst (v := 1) hC.1 hC.2.1 dX5_isWithin_10 (by decide) ?_
      refine lv_goto (tgt := 15) hC.1 hC.2.1 dX5_isWithin_11 (by decide) ?_
      have e_3 : fX5_isWithin x1 x2 x3 = 1 := by exact Eq.trans (if_neg k2) (Eq.trans (if_neg k7) rfl)
      have hg : fX5_isWithin x1 x2 x3 = 1 := hg.trans (congrArg (fun z => z) e_3)
      exact eP_z hC (congrArg Value.int hg) rfl dX5_isWithin_15
