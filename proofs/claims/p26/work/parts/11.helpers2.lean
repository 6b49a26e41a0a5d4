def fX5_isLine (x1 : Int32) : Int32 := fX5_isWithin x1 0 16777215
def fX5_isDot (x1 : Int32) : Int32 := fX5_isWithin x1 0 23
def fX2_cooled (x1 : Int32) (x2 : Int32) : Int32 := if 1 ≤ x2 then (if 0 ≤ ((x1 - (x1 / x2)) - 1) then ((x1 - (x1 / x2)) - 1) else (0)) else (0)
theorem isWithin_01 (x a b : Int32) : fX5_isWithin x a b = 0 ∨ fX5_isWithin x a b = 1 := by
  unfold fX5_isWithin
  split
  · exact Or.inl rfl
  · split
    · exact Or.inl rfl
    · exact Or.inr rfl
theorem dX5_isLine_0 : decode cX5_isLine 0 = .ok (.iload_n 0, 1) := by decide +kernel
theorem dX5_isLine_1 : decode cX5_isLine 1 = .ok (.iconst 0, 1) := by decide +kernel
theorem dX5_isLine_2 : decode cX5_isLine 2 = .ok (.ldc_w 302, 3) := by decide +kernel
theorem dX5_isLine_5 : decode cX5_isLine 5 = .ok (.invokestatic 66, 3) := by decide +kernel
theorem dX5_isLine_8 : decode cX5_isLine 8 = .ok (.ireturn, 1) := by decide +kernel
set_option maxHeartbeats 1000000 in
set_option maxRecDepth 100000 in
theorem c_X5_isLine (l : Launch) (G : GT) (x1 : Int32) : Met l yX5_isLine (Cond.code yX5_isLine cX5_isLine 1 (some .boolean) :: bigW) ({ frames := 1, cells := 0, slots := 0, locals := 22 }) (BP G [.int x1] (fun U H => True)) (QP (.int (fX5_isLine x1))) 0 0 (fun _ => False) := by
  refine met_of (by decide) (Nat.le_of_ble_eq_true rfl) ?_
  intro p e s m below meth c ls hC hKN hB0 hl
  have hl : lv_has ls 1 [(0, .int x1)] := hl
  have hg : fX5_isLine x1 = fX5_isLine x1 := rfl
  refine lv_iload_n hC.1 hC.2.1 dX5_isLine_0 rfl (lv_at hl 0 rfl) ?_
  refine lv_iconst (v := 0) hC.1 hC.2.1 dX5_isLine_1 (by decide) ?_
  refine lv_ldcw (v := 16777215) hC.1 hC.2.1 hC.2.2.2.2.1 (hC.2.2.2.2.2.2.1 _ wd_452) dX5_isLine_2 ?_
  refine runP (rS (B := fun U H => True) (As := [.int x1, .int 0, .int 16777215]) (rest := []) hC mwX5_isWithin (c_X5_isWithin l G x1 0 16777215) wd_239 wd_238 ⟨rfl, rfl⟩ ⟨Nat.le_of_ble_eq_true rfl, Nat.le_of_ble_eq_true rfl⟩ (fun _ _ _ _ h => h) hKN trivial rfl hl.1 rfl (Nat.le_of_ble_eq_true rfl) dX5_isLine_5 ⟨Nat.zero_le _, Nat.zero_le _⟩) ?_
  have e_1 : fX5_isLine x1 = fX5_isWithin x1 0 16777215 := by exact rfl
  have hg : fX5_isLine x1 = fX5_isWithin x1 0 16777215 := hg.trans (congrArg (fun z => z) e_1)
  exact eP_z hC (congrArg Value.int hg) (nb01 (isWithin_01 _ _ _)) dX5_isLine_8

theorem dX5_isDot_0 : decode cX5_isDot 0 = .ok (.iload_n 0, 1) := by decide +kernel
theorem dX5_isDot_1 : decode cX5_isDot 1 = .ok (.iconst 0, 1) := by decide +kernel
theorem dX5_isDot_2 : decode cX5_isDot 2 = .ok (.bipush 23, 2) := by decide +kernel
theorem dX5_isDot_4 : decode cX5_isDot 4 = .ok (.invokestatic 66, 3) := by decide +kernel
theorem dX5_isDot_7 : decode cX5_isDot 7 = .ok (.ireturn, 1) := by decide +kernel
set_option maxHeartbeats 1000000 in
set_option maxRecDepth 100000 in
theorem c_X5_isDot (l : Launch) (G : GT) (x1 : Int32) : Met l yX5_isDot (Cond.code yX5_isDot cX5_isDot 1 (some .boolean) :: bigW) ({ frames := 1, cells := 0, slots := 0, locals := 22 }) (BP G [.int x1] (fun U H => True)) (QP (.int (fX5_isDot x1))) 0 0 (fun _ => False) := by
  refine met_of (by decide) (Nat.le_of_ble_eq_true rfl) ?_
  intro p e s m below meth c ls hC hKN hB0 hl
  have hl : lv_has ls 1 [(0, .int x1)] := hl
  have hg : fX5_isDot x1 = fX5_isDot x1 := rfl
  refine lv_iload_n hC.1 hC.2.1 dX5_isDot_0 rfl (lv_at hl 0 rfl) ?_
  refine lv_iconst (v := 0) hC.1 hC.2.1 dX5_isDot_1 (by decide) ?_
  refine lv_bipush (v := 23) hC.1 hC.2.1 dX5_isDot_2 (by decide +kernel) ?_
  refine runP (rS (B := fun U H => True) (As := [.int x1, .int 0, .int 23]) (rest := []) hC mwX5_isWithin (c_X5_isWithin l G x1 0 23) wd_239 wd_238 ⟨rfl, rfl⟩ ⟨Nat.le_of_ble_eq_true rfl, Nat.le_of_ble_eq_true rfl⟩ (fun _ _ _ _ h => h) hKN trivial rfl hl.1 rfl (Nat.le_of_ble_eq_true rfl) dX5_isDot_4 ⟨Nat.zero_le _, Nat.zero_le _⟩) ?_
  have e_1 : fX5_isDot x1 = fX5_isWithin x1 0 23 := by exact rfl
  have hg : fX5_isDot x1 = fX5_isWithin x1 0 23 := hg.trans (congrArg (fun z => z) e_1)
  exact eP_z hC (congrArg Value.int hg) (nb01 (isWithin_01 _ _ _)) dX5_isDot_7

theorem dX2_cooled_0 : decode cX2_cooled 0 = .ok (.iload_n 1, 1) := by decide +kernel
theorem dX2_cooled_1 : decode cX2_cooled 1 = .ok (.iconst 1, 1) := by decide +kernel
theorem dX2_cooled_2 : decode cX2_cooled 2 = .ok (.if_icmp .ge 7, 3) := by decide +kernel
theorem dX2_cooled_5 : decode cX2_cooled 5 = .ok (.iconst 0, 1) := by decide +kernel
theorem dX2_cooled_6 : decode cX2_cooled 6 = .ok (.goto 10, 3) := by decide +kernel
theorem dX2_cooled_9 : decode cX2_cooled 9 = .ok (.iload_n 0, 1) := by decide +kernel
theorem dX2_cooled_10 : decode cX2_cooled 10 = .ok (.iload_n 0, 1) := by decide +kernel
theorem dX2_cooled_11 : decode cX2_cooled 11 = .ok (.iload_n 1, 1) := by decide +kernel
theorem dX2_cooled_12 : decode cX2_cooled 12 = .ok (.idiv, 1) := by decide +kernel
theorem dX2_cooled_13 : decode cX2_cooled 13 = .ok (.isub, 1) := by decide +kernel
theorem dX2_cooled_14 : decode cX2_cooled 14 = .ok (.iconst 1, 1) := by decide +kernel
theorem dX2_cooled_15 : decode cX2_cooled 15 = .ok (.isub, 1) := by decide +kernel
theorem dX2_cooled_16 : decode cX2_cooled 16 = .ok (.istore_n 2, 1) := by decide +kernel
theorem dX2_cooled_17 : decode cX2_cooled 17 = .ok (.iload_n 2, 1) := by decide +kernel
theorem dX2_cooled_18 : decode cX2_cooled 18 = .ok (.ifCond .ge 7, 3) := by decide +kernel
theorem dX2_cooled_21 : decode cX2_cooled 21 = .ok (.iconst 0, 1) := by decide +kernel
theorem dX2_cooled_22 : decode cX2_cooled 22 = .ok (.goto 4, 3) := by decide +kernel
theorem dX2_cooled_25 : decode cX2_cooled 25 = .ok (.iload_n 2, 1) := by decide +kernel
theorem dX2_cooled_26 : decode cX2_cooled 26 = .ok (.ireturn, 1) := by decide +kernel
set_option maxHeartbeats 1000000 in
set_option maxRecDepth 100000 in
theorem c_X2_cooled (l : Launch) (G : GT) (x1 : Int32) (x2 : Int32) : Met l yX2_cooled (Cond.code yX2_cooled cX2_cooled 3 (some .int) :: bigW) ({ frames := 0, cells := 0, slots := 0, locals := 0 }) (BP G [.int x1, .int x2] (fun U H => True)) (QP (.int (fX2_cooled x1 x2))) 0 0 (fun _ => False) := by
  refine met_of (by decide) (Nat.le_of_ble_eq_true rfl) ?_
  intro p e s m below meth c ls hC hKN hB0 hl
  have hl : lv_has ls 3 [(0, .int x1), (1, .int x2)] := hl
  have hg : fX2_cooled x1 x2 = fX2_cooled x1 x2 := rfl
  refine lv_iload_n hC.1 hC.2.1 dX2_cooled_0 rfl (lv_at hl 1 rfl) ?_
  refine lv_iconst (v := 1) hC.1 hC.2.1 dX2_cooled_1 (by decide) ?_
  refine lv_icmp_ge (tgt := 9) hC.1 hC.2.1 dX2_cooled_2 (by decide) (fun k2 => ?_) (fun k2 => ?_)
  · refine lv_iload_n hC.1 hC.2.1 dX2_cooled_9 rfl (lv_at hl 0 rfl) ?_
    refine lv_iload_n hC.1 hC.2.1 dX2_cooled_10 rfl (lv_at hl 0 rfl) ?_
    refine lv_iload_n hC.1 hC.2.1 dX2_cooled_11 rfl (lv_at hl 1 rfl) ?_
    refine lv_idiv hC.1 hC.2.1 dX2_cooled_12 (fun h => by rw [h] at k2; exact absurd k2 (by decide)) ?_
    refine lv_isub hC.1 hC.2.1 dX2_cooled_13 ?_
    refine lv_iconst (v := 1) hC.1 hC.2.1 dX2_cooled_14 (by decide) ?_
    refine lv_isub hC.1 hC.2.1 dX2_cooled_15 ?_
    refine lv_istore_n (lv' := [(2, .int ((x1 - (x1 / x2)) - 1)), (0, .int x1), (1, .int x2)]) hC.1 hC.2.1 dX2_cooled_16 rfl hl (by decide) rfl (fun ls hl => ?_)
    refine lv_iload_n hC.1 hC.2.1 dX2_cooled_17 rfl (lv_at hl 0 rfl) ?_
    refine lv_if_ge (tgt := 25) hC.1 hC.2.1 dX2_cooled_18 (by decide) (fun k18 => ?_) (fun k18 => ?_)
    · refine lv_iload_n hC.1 hC.2.1 dX2_cooled_25 rfl (lv_at hl 0 rfl) ?_
      have e_1 : fX2_cooled x1 x2 = (x1 - (x1 / x2)) - 1 := by exact Eq.trans (if_pos k2) (Eq.trans (if_pos k18) rfl)
      have hg : fX2_cooled x1 x2 = (x1 - (x1 / x2)) - 1 := hg.trans (congrArg (fun z => z) e_1)
      exact eP_i hC (congrArg Value.int hg) dX2_cooled_26
    · refine lv_iconst (v := 0) hC.1 hC.2.1 dX2_cooled_21 (by decide) ?_
      refine lv_goto (tgt := 26) hC.1 hC.2.1 dX2_cooled_22 (by decide) ?_
      have e_2 : fX2_cooled x1 x2 = 0 := by exact Eq.trans (if_pos k2) (Eq.trans (if_neg k18) rfl)
      have hg : fX2_cooled x1 x2 = 0 := hg.trans (congrArg (fun z => z) e_2)
      exact eP_i hC (congrArg Value.int hg) dX2_cooled_26
  · refine lv_iconst (v := 0) hC.1 hC.2.1 dX2_cooled_5 (by decide) ?_
    refine lv_goto (tgt := 16) hC.1 hC.2.1 dX2_cooled_6 (by decide) ?_
    refine lv_istore_n (lv' := [(2, .int 0), (0, .int x1), (1, .int x2)]) hC.1 hC.2.1 dX2_cooled_16 rfl hl (by decide) rfl (fun ls hl => ?_)
    refine lv_iload_n hC.1 hC.2.1 dX2_cooled_17 rfl (lv_at hl 0 rfl) ?_
    refine lv_if_ge (tgt := 25) hC.1 hC.2.1 dX2_cooled_18 (by decide) (fun k18 => ?_) (fun k18 => ?_)
    · refine lv_iload_n hC.1 hC.2.1 dX2_cooled_25 rfl (lv_at hl 0 rfl) ?_
      have e_3 : fX2_cooled x1 x2 = 0 := by exact Eq.trans (if_neg k2) rfl
      have hg : fX2_cooled x1 x2 = 0 := hg.trans (congrArg (fun z => z) e_3)
      exact eP_i hC (congrArg Value.int hg) dX2_cooled_26
    · exact absurd (by decide) k18
