def fX5_told (x : HV) (x1 : Int32) (x2 : Int32) : Int32 := fX3_sign (x 0) x1 x2
def fX5_dot (x : HV) (x1 : Int32) (x2 : Int32) : Int32 := fX2_numberOfDot (x 0) x1 x2
def fX5_kept (x : HV) (x1 : Int32) (x2 : Int32) : Int32 := fX3_numberOfLine (x 0) x1 x2
def fX5_count (x : HV) (x1 : Int32) : Int32 := fX5_counted x x1
def fX5_ifPrinted (x : HV) (x1 : Int32) (x2 : Int32) : HV × Int32 := let r_2 := fX5_tryLine x x1 (fX2_setting (x 0) 5)
  (r_2, fX5_tried r_2 x2)
def fX5_betterWay (x : HV) (x1 : Int32) : HV × Int32 := let r_2 := fX5_fasterWay x x1
  (r_2.1, r_2.2)
def fX5_coolIn (x : HV) (x1 : Int32) : Int32 := fX2_timeUntilCool (x 0) x1
def fX5_darkFrom (x : HV) (x1 : Int32) : Int32 := fX2_leastDarkSetting (x 0) x1
theorem dX5_told_0 : decode cX5_told 0 = .ok (.iload_n 1, 1) := by decide +kernel
theorem dX5_told_1 : decode cX5_told 1 = .ok (.iconst 0, 1) := by decide +kernel
theorem dX5_told_2 : decode cX5_told 2 = .ok (.bipush 11, 2) := by decide +kernel
theorem dX5_told_4 : decode cX5_told 4 = .ok (.invokestatic 66, 3) := by decide +kernel
theorem dX5_told_7 : decode cX5_told 7 = .ok (.ifCond .eq 7, 3) := by decide +kernel
theorem dX5_told_10 : decode cX5_told 10 = .ok (.iload_n 2, 1) := by decide +kernel
theorem dX5_told_11 : decode cX5_told 11 = .ok (.ifCond .ge 13, 3) := by decide +kernel
theorem dX5_told_14 : decode cX5_told 14 = .ok (.new 52, 3) := by decide +kernel
theorem dX5_told_17 : decode cX5_told 17 = .ok (.dup, 1) := by decide +kernel
theorem dX5_told_18 : decode cX5_told 18 = .ok (.ldc 173, 2) := by decide +kernel
theorem dX5_told_20 : decode cX5_told 20 = .ok (.invokespecial 56, 3) := by decide +kernel
theorem dX5_told_23 : decode cX5_told 23 = .ok (.athrow, 1) := by decide +kernel
theorem dX5_told_24 : decode cX5_told 24 = .ok (.aload_n 0, 1) := by decide +kernel
theorem dX5_told_25 : decode cX5_told 25 = .ok (.getfield 10, 3) := by decide +kernel
theorem dX5_told_28 : decode cX5_told 28 = .ok (.getfield 97, 3) := by decide +kernel
theorem dX5_told_31 : decode cX5_told 31 = .ok (.iload_n 1, 1) := by decide +kernel
theorem dX5_told_32 : decode cX5_told 32 = .ok (.iload_n 2, 1) := by decide +kernel
theorem dX5_told_33 : decode cX5_told 33 = .ok (.invokevirtual 175, 3) := by decide +kernel
theorem dX5_told_36 : decode cX5_told 36 = .ok (.ireturn, 1) := by decide +kernel
set_option maxHeartbeats 1000000 in
set_option maxRecDepth 100000 in
theorem c_X5_told (l : Launch) (G : GT) (a : Nat → Nat) (b : Nat → Nat) (x : HV) (x1 : Int32) (x2 : Int32) (h1 : ¬ fX5_isWithin x1 0 11 = 0) (h2 : 0 ≤ x2) : Met l yX5_told (Cond.code yX5_told cX5_told 3 (some .int) :: bigW) ({ frames := 3, cells := 0, slots := 0, locals := 67 }) (BP G [.ref (a 0), .int x1, .int x2] (fun U H => PW G (hdW G a b x) H)) (QP (.int (fX5_told x x1 x2))) 0 0 (fun _ => False) := by
  refine met_of (by decide) (Nat.le_of_ble_eq_true rfl) ?_
  intro p e s m below meth c ls hC hKN hB0 hl
  have hP := hB0
  have hl : lv_has ls 3 [(0, .ref (a 0)), (1, .int x1), (2, .int x2)] := hl
  have hg : fX5_told x x1 x2 = fX5_told x x1 x2 := rfl
  refine lv_iload_n hC.1 hC.2.1 dX5_told_0 rfl (lv_at hl 1 rfl) ?_
  refine lv_iconst (v := 0) hC.1 hC.2.1 dX5_told_1 (by decide) ?_
  refine lv_bipush (v := 11) hC.1 hC.2.1 dX5_told_2 (by decide +kernel) ?_
  refine runP (rS (B := fun U H => True) (As := [.int x1, .int 0, .int 11]) (rest := []) hC mwX5_isWithin (c_X5_isWithin l G x1 0 11) wd_239 wd_238 ⟨rfl, rfl⟩ ⟨Nat.le_of_ble_eq_true rfl, Nat.le_of_ble_eq_true rfl⟩ (fun _ _ _ _ h => h) hKN trivial rfl hl.1 rfl (Nat.le_of_ble_eq_true rfl) dX5_told_4 ⟨Nat.zero_le _, Nat.zero_le _⟩) ?_
  refine lv_if_eq (tgt := 14) hC.1 hC.2.1 dX5_told_7 (by decide) (fun k7 => ?_) (fun k7 => ?_)
  · exact absurd k7 h1
  · refine lv_iload_n hC.1 hC.2.1 dX5_told_10 rfl (lv_at hl 2 rfl) ?_
    refine lv_if_ge (tgt := 24) hC.1 hC.2.1 dX5_told_11 (by decide) (fun k11 => ?_) (fun k11 => ?_)
    · refine lv_aload_n hC.1 hC.2.1 dX5_told_24 rfl (lv_at hl 0 rfl) ?_
      refine gf (v := .ref (a 5)) hC fwX5 hKN hP 0 rfl rfl 0 (by decide) rfl wd_189 rfl dX5_told_25 ?_
      refine gfN (v := .ref (sA a 0 4)) hC fwX2 hKN hP 5 rfl rfl 3 (by decide) rfl (nf_15 hKN) rfl dX5_told_28 ?_
      refine lv_iload_n hC.1 hC.2.1 dX5_told_31 rfl (lv_at hl 1 rfl) ?_
      refine lv_iload_n hC.1 hC.2.1 dX5_told_32 rfl (lv_at hl 2 rfl) ?_
      refine runP (rV (B := fun U H => PW G (stW G (sA a 0) (x 0)) H) (As := [.int x1, .int x2]) (rest := []) hC mwX3_sign (c_X3_sign l G (sA a 0) (x 0) x1 x2) iwX3_sign wd_414 ⟨rfl, rfl⟩ ⟨Nat.le_of_ble_eq_true rfl, Nat.le_of_ble_eq_true rfl⟩ (stb_h (fun H => PW G (stW G (sA a 0) (x 0)) H)) hKN (hd_st0 (x := x) hP) (va_recv hKN.k (hd_st0 (x := x) hP) (ci := 3) (q0 := 4) rfl rfl) rfl hl.1 rfl (Nat.le_of_ble_eq_true rfl) dX5_told_33 ⟨Nat.zero_le _, Nat.zero_le _⟩) ?_
      have e_1 : fX5_told x x1 x2 = fX3_sign (x 0) x1 x2 := by delta fX5_told; exact rfl
      have hg : fX5_told x x1 x2 = fX3_sign (x 0) x1 x2 := by have e2 := congrArg (fun z => z) e_1; exact hg.trans e2
      exact eP_i hC (congrArg Value.int hg) dX5_told_36
    · exact absurd h2 k11

theorem dX5_dot_0 : decode cX5_dot 0 = .ok (.iload_n 1, 1) := by decide +kernel
theorem dX5_dot_1 : decode cX5_dot 1 = .ok (.invokestatic 191, 3) := by decide +kernel
theorem dX5_dot_4 : decode cX5_dot 4 = .ok (.ifCond .ne 13, 3) := by decide +kernel
theorem dX5_dot_7 : decode cX5_dot 7 = .ok (.new 109, 3) := by decide +kernel
theorem dX5_dot_10 : decode cX5_dot 10 = .ok (.dup, 1) := by decide +kernel
theorem dX5_dot_11 : decode cX5_dot 11 = .ok (.ldc 194, 2) := by decide +kernel
theorem dX5_dot_13 : decode cX5_dot 13 = .ok (.invokespecial 113, 3) := by decide +kernel
theorem dX5_dot_16 : decode cX5_dot 16 = .ok (.athrow, 1) := by decide +kernel
theorem dX5_dot_17 : decode cX5_dot 17 = .ok (.iload_n 2, 1) := by decide +kernel
theorem dX5_dot_18 : decode cX5_dot 18 = .ok (.iconst 0, 1) := by decide +kernel
theorem dX5_dot_19 : decode cX5_dot 19 = .ok (.bipush 6, 2) := by decide +kernel
theorem dX5_dot_21 : decode cX5_dot 21 = .ok (.invokestatic 66, 3) := by decide +kernel
theorem dX5_dot_24 : decode cX5_dot 24 = .ok (.ifCond .ne 13, 3) := by decide +kernel
theorem dX5_dot_27 : decode cX5_dot 27 = .ok (.new 52, 3) := by decide +kernel
theorem dX5_dot_30 : decode cX5_dot 30 = .ok (.dup, 1) := by decide +kernel
theorem dX5_dot_31 : decode cX5_dot 31 = .ok (.ldc 196, 2) := by decide +kernel
theorem dX5_dot_33 : decode cX5_dot 33 = .ok (.invokespecial 56, 3) := by decide +kernel
theorem dX5_dot_36 : decode cX5_dot 36 = .ok (.athrow, 1) := by decide +kernel
theorem dX5_dot_37 : decode cX5_dot 37 = .ok (.aload_n 0, 1) := by decide +kernel
theorem dX5_dot_38 : decode cX5_dot 38 = .ok (.getfield 10, 3) := by decide +kernel
theorem dX5_dot_41 : decode cX5_dot 41 = .ok (.iload_n 1, 1) := by decide +kernel
theorem dX5_dot_42 : decode cX5_dot 42 = .ok (.iload_n 2, 1) := by decide +kernel
theorem dX5_dot_43 : decode cX5_dot 43 = .ok (.invokevirtual 198, 3) := by decide +kernel
theorem dX5_dot_46 : decode cX5_dot 46 = .ok (.ireturn, 1) := by decide +kernel
set_option maxHeartbeats 1000000 in
set_option maxRecDepth 100000 in
theorem c_X5_dot (l : Launch) (G : GT) (a : Nat → Nat) (b : Nat → Nat) (x : HV) (x1 : Int32) (x2 : Int32) (h1 : ¬ fX5_isDot x1 = 0) (h2 : ¬ fX5_isWithin x2 0 6 = 0) : Met l yX5_dot (Cond.code yX5_dot cX5_dot 3 (some .int) :: bigW) ({ frames := 4, cells := 0, slots := 0, locals := 92 }) (BP G [.ref (a 0), .int x1, .int x2] (fun U H => PW G (hdW G a b x) H)) (QP (.int (fX5_dot x x1 x2))) 0 0 (fun _ => False) := by
  refine met_of (by decide) (Nat.le_of_ble_eq_true rfl) ?_
  intro p e s m below meth c ls hC hKN hB0 hl
  have hP := hB0
  have hl : lv_has ls 3 [(0, .ref (a 0)), (1, .int x1), (2, .int x2)] := hl
  have hg : fX5_dot x x1 x2 = fX5_dot x x1 x2 := rfl
  refine lv_iload_n hC.1 hC.2.1 dX5_dot_0 rfl (lv_at hl 1 rfl) ?_
  refine runP (rS (B := fun U H => True) (As := [.int x1]) (rest := []) hC mwX5_isDot (c_X5_isDot l G x1) wd_236 wd_235 ⟨rfl, rfl⟩ ⟨Nat.le_of_ble_eq_true rfl, Nat.le_of_ble_eq_true rfl⟩ (fun _ _ _ _ h => h) hKN trivial rfl hl.1 rfl (Nat.le_of_ble_eq_true rfl) dX5_dot_1 ⟨Nat.zero_le _, Nat.zero_le _⟩) ?_
  refine lv_if_ne (tgt := 17) hC.1 hC.2.1 dX5_dot_4 (by decide) (fun k4 => ?_) (fun k4 => ?_)
  · refine lv_iload_n hC.1 hC.2.1 dX5_dot_17 rfl (lv_at hl 2 rfl) ?_
    refine lv_iconst (v := 0) hC.1 hC.2.1 dX5_dot_18 (by decide) ?_
    refine lv_bipush (v := 6) hC.1 hC.2.1 dX5_dot_19 (by decide +kernel) ?_
    refine runP (rS (B := fun U H => True) (As := [.int x2, .int 0, .int 6]) (rest := []) hC mwX5_isWithin (c_X5_isWithin l G x2 0 6) wd_239 wd_238 ⟨rfl, rfl⟩ ⟨Nat.le_of_ble_eq_true rfl, Nat.le_of_ble_eq_true rfl⟩ (fun _ _ _ _ h => h) hKN trivial rfl hl.1 rfl (Nat.le_of_ble_eq_true rfl) dX5_dot_21 ⟨Nat.zero_le _, Nat.zero_le _⟩) ?_
    refine lv_if_ne (tgt := 37) hC.1 hC.2.1 dX5_dot_24 (by decide) (fun k24 => ?_) (fun k24 => ?_)
    · refine lv_aload_n hC.1 hC.2.1 dX5_dot_37 rfl (lv_at hl 0 rfl) ?_
      refine gf (v := .ref (a 5)) hC fwX5 hKN hP 0 rfl rfl 0 (by decide) rfl wd_189 rfl dX5_dot_38 ?_
      refine lv_iload_n hC.1 hC.2.1 dX5_dot_41 rfl (lv_at hl 1 rfl) ?_
      refine lv_iload_n hC.1 hC.2.1 dX5_dot_42 rfl (lv_at hl 2 rfl) ?_
      refine runP (rV (B := fun U H => PW G (stW G (sA a 0) (x 0)) H) (As := [.int x1, .int x2]) (rest := []) hC mwX2_numberOfDot (c_X2_numberOfDot l G (sA a 0) (x 0) x1 x2) iwX2_numberOfDot wd_323 ⟨rfl, rfl⟩ ⟨Nat.le_of_ble_eq_true rfl, Nat.le_of_ble_eq_true rfl⟩ (stb_h (fun H => PW G (stW G (sA a 0) (x 0)) H)) hKN (hd_st0 (x := x) hP) (va_recv hKN.k (hd_st0 (x := x) hP) (ci := 2) (q0 := 0) rfl rfl) rfl hl.1 rfl (Nat.le_of_ble_eq_true rfl) dX5_dot_43 ⟨Nat.zero_le _, Nat.zero_le _⟩) ?_
      have e_1 : fX5_dot x x1 x2 = fX2_numberOfDot (x 0) x1 x2 := by delta fX5_dot; exact rfl
      have hg : fX5_dot x x1 x2 = fX2_numberOfDot (x 0) x1 x2 := by have e2 := congrArg (fun z => z) e_1; exact hg.trans e2
      exact eP_i hC (congrArg Value.int hg) dX5_dot_46
    · exact absurd k24 h2
  · exact absurd k4 h1

theorem dX5_kept_0 : decode cX5_kept 0 = .ok (.iload_n 1, 1) := by decide +kernel
theorem dX5_kept_1 : decode cX5_kept 1 = .ok (.iconst 0, 1) := by decide +kernel
theorem dX5_kept_2 : decode cX5_kept 2 = .ok (.bipush 11, 2) := by decide +kernel
theorem dX5_kept_4 : decode cX5_kept 4 = .ok (.invokestatic 66, 3) := by decide +kernel
theorem dX5_kept_7 : decode cX5_kept 7 = .ok (.ifCond .eq 12, 3) := by decide +kernel
theorem dX5_kept_10 : decode cX5_kept 10 = .ok (.iload_n 2, 1) := by decide +kernel
theorem dX5_kept_11 : decode cX5_kept 11 = .ok (.iconst 0, 1) := by decide +kernel
theorem dX5_kept_12 : decode cX5_kept 12 = .ok (.iconst 2, 1) := by decide +kernel
theorem dX5_kept_13 : decode cX5_kept 13 = .ok (.invokestatic 66, 3) := by decide +kernel
theorem dX5_kept_16 : decode cX5_kept 16 = .ok (.ifCond .ne 13, 3) := by decide +kernel
theorem dX5_kept_19 : decode cX5_kept 19 = .ok (.new 52, 3) := by decide +kernel
theorem dX5_kept_22 : decode cX5_kept 22 = .ok (.dup, 1) := by decide +kernel
theorem dX5_kept_23 : decode cX5_kept 23 = .ok (.ldc 201, 2) := by decide +kernel
theorem dX5_kept_25 : decode cX5_kept 25 = .ok (.invokespecial 56, 3) := by decide +kernel
theorem dX5_kept_28 : decode cX5_kept 28 = .ok (.athrow, 1) := by decide +kernel
theorem dX5_kept_29 : decode cX5_kept 29 = .ok (.aload_n 0, 1) := by decide +kernel
theorem dX5_kept_30 : decode cX5_kept 30 = .ok (.getfield 10, 3) := by decide +kernel
theorem dX5_kept_33 : decode cX5_kept 33 = .ok (.getfield 97, 3) := by decide +kernel
theorem dX5_kept_36 : decode cX5_kept 36 = .ok (.iload_n 1, 1) := by decide +kernel
theorem dX5_kept_37 : decode cX5_kept 37 = .ok (.iload_n 2, 1) := by decide +kernel
theorem dX5_kept_38 : decode cX5_kept 38 = .ok (.invokevirtual 203, 3) := by decide +kernel
theorem dX5_kept_41 : decode cX5_kept 41 = .ok (.ireturn, 1) := by decide +kernel
set_option maxHeartbeats 1000000 in
set_option maxRecDepth 100000 in
theorem c_X5_kept (l : Launch) (G : GT) (a : Nat → Nat) (b : Nat → Nat) (x : HV) (x1 : Int32) (x2 : Int32) (h1 : ¬ fX5_isWithin x1 0 11 = 0) (h2 : ¬ fX5_isWithin x2 0 2 = 0) : Met l yX5_kept (Cond.code yX5_kept cX5_kept 3 (some .int) :: bigW) ({ frames := 2, cells := 0, slots := 0, locals := 43 }) (BP G [.ref (a 0), .int x1, .int x2] (fun U H => PW G (hdW G a b x) H)) (QP (.int (fX5_kept x x1 x2))) 0 0 (fun _ => False) := by
  refine met_of (by decide) (Nat.le_of_ble_eq_true rfl) ?_
  intro p e s m below meth c ls hC hKN hB0 hl
  have hP := hB0
  have hl : lv_has ls 3 [(0, .ref (a 0)), (1, .int x1), (2, .int x2)] := hl
  have hg : fX5_kept x x1 x2 = fX5_kept x x1 x2 := rfl
  refine lv_iload_n hC.1 hC.2.1 dX5_kept_0 rfl (lv_at hl 1 rfl) ?_
  refine lv_iconst (v := 0) hC.1 hC.2.1 dX5_kept_1 (by decide) ?_
  refine lv_bipush (v := 11) hC.1 hC.2.1 dX5_kept_2 (by decide +kernel) ?_
  refine runP (rS (B := fun U H => True) (As := [.int x1, .int 0, .int 11]) (rest := []) hC mwX5_isWithin (c_X5_isWithin l G x1 0 11) wd_239 wd_238 ⟨rfl, rfl⟩ ⟨Nat.le_of_ble_eq_true rfl, Nat.le_of_ble_eq_true rfl⟩ (fun _ _ _ _ h => h) hKN trivial rfl hl.1 rfl (Nat.le_of_ble_eq_true rfl) dX5_kept_4 ⟨Nat.zero_le _, Nat.zero_le _⟩) ?_
  refine lv_if_eq (tgt := 19) hC.1 hC.2.1 dX5_kept_7 (by decide) (fun k7 => ?_) (fun k7 => ?_)
  · exact absurd k7 h1
  · refine lv_iload_n hC.1 hC.2.1 dX5_kept_10 rfl (lv_at hl 2 rfl) ?_
    refine lv_iconst (v := 0) hC.1 hC.2.1 dX5_kept_11 (by decide) ?_
    refine lv_iconst (v := 2) hC.1 hC.2.1 dX5_kept_12 (by decide) ?_
    refine runP (rS (B := fun U H => True) (As := [.int x2, .int 0, .int 2]) (rest := []) hC mwX5_isWithin (c_X5_isWithin l G x2 0 2) wd_239 wd_238 ⟨rfl, rfl⟩ ⟨Nat.le_of_ble_eq_true rfl, Nat.le_of_ble_eq_true rfl⟩ (fun _ _ _ _ h => h) hKN trivial rfl hl.1 rfl (Nat.le_of_ble_eq_true rfl) dX5_kept_13 ⟨Nat.zero_le _, Nat.zero_le _⟩) ?_
    refine lv_if_ne (tgt := 29) hC.1 hC.2.1 dX5_kept_16 (by decide) (fun k16 => ?_) (fun k16 => ?_)
    · refine lv_aload_n hC.1 hC.2.1 dX5_kept_29 rfl (lv_at hl 0 rfl) ?_
      refine gf (v := .ref (a 5)) hC fwX5 hKN hP 0 rfl rfl 0 (by decide) rfl wd_189 rfl dX5_kept_30 ?_
      refine gfN (v := .ref (sA a 0 4)) hC fwX2 hKN hP 5 rfl rfl 3 (by decide) rfl (nf_15 hKN) rfl dX5_kept_33 ?_
      refine lv_iload_n hC.1 hC.2.1 dX5_kept_36 rfl (lv_at hl 1 rfl) ?_
      refine lv_iload_n hC.1 hC.2.1 dX5_kept_37 rfl (lv_at hl 2 rfl) ?_
      refine runP (rV (B := fun U H => PW G (stW G (sA a 0) (x 0)) H) (As := [.int x1, .int x2]) (rest := []) hC mwX3_numberOfLine (c_X3_numberOfLine l G (sA a 0) (x 0) x1 x2) iwX3_numberOfLine wd_404 ⟨rfl, rfl⟩ ⟨Nat.le_of_ble_eq_true rfl, Nat.le_of_ble_eq_true rfl⟩ (stb_h (fun H => PW G (stW G (sA a 0) (x 0)) H)) hKN (hd_st0 (x := x) hP) (va_recv hKN.k (hd_st0 (x := x) hP) (ci := 3) (q0 := 4) rfl rfl) rfl hl.1 rfl (Nat.le_of_ble_eq_true rfl) dX5_kept_38 ⟨Nat.zero_le _, Nat.zero_le _⟩) ?_
      have e_1 : fX5_kept x x1 x2 = fX3_numberOfLine (x 0) x1 x2 := by delta fX5_kept; exact rfl
      have hg : fX5_kept x x1 x2 = fX3_numberOfLine (x 0) x1 x2 := by have e2 := congrArg (fun z => z) e_1; exact hg.trans e2
      exact eP_i hC (congrArg Value.int hg) dX5_kept_41
    · exact absurd k16 h2

theorem dX5_count_0 : decode cX5_count 0 = .ok (.iload_n 1, 1) := by decide +kernel
theorem dX5_count_1 : decode cX5_count 1 = .ok (.iconst 0, 1) := by decide +kernel
theorem dX5_count_2 : decode cX5_count 2 = .ok (.bipush 18, 2) := by decide +kernel
theorem dX5_count_4 : decode cX5_count 4 = .ok (.invokestatic 66, 3) := by decide +kernel
theorem dX5_count_7 : decode cX5_count 7 = .ok (.ifCond .ne 13, 3) := by decide +kernel
theorem dX5_count_10 : decode cX5_count 10 = .ok (.new 52, 3) := by decide +kernel
theorem dX5_count_13 : decode cX5_count 13 = .ok (.dup, 1) := by decide +kernel
theorem dX5_count_14 : decode cX5_count 14 = .ok (.ldc 196, 2) := by decide +kernel
theorem dX5_count_16 : decode cX5_count 16 = .ok (.invokespecial 56, 3) := by decide +kernel
theorem dX5_count_19 : decode cX5_count 19 = .ok (.athrow, 1) := by decide +kernel
theorem dX5_count_20 : decode cX5_count 20 = .ok (.aload_n 0, 1) := by decide +kernel
theorem dX5_count_21 : decode cX5_count 21 = .ok (.iload_n 1, 1) := by decide +kernel
theorem dX5_count_22 : decode cX5_count 22 = .ok (.invokevirtual 206, 3) := by decide +kernel
theorem dX5_count_25 : decode cX5_count 25 = .ok (.ireturn, 1) := by decide +kernel
set_option maxHeartbeats 1000000 in
set_option maxRecDepth 100000 in
theorem c_X5_count (l : Launch) (G : GT) (a : Nat → Nat) (b : Nat → Nat) (x : HV) (x1 : Int32) (h1 : ¬ fX5_isWithin x1 0 18 = 0) : Met l yX5_count (Cond.code yX5_count cX5_count 2 (some .int) :: bigW) ({ frames := 3, cells := 0, slots := 0, locals := 68 }) (BP G [.ref (a 0), .int x1] (fun U H => PW G (hdW G a b x) H)) (QP (.int (fX5_count x x1))) 0 0 (fun _ => False) := by
  refine met_of (by decide) (Nat.le_of_ble_eq_true rfl) ?_
  intro p e s m below meth c ls hC hKN hB0 hl
  have hP := hB0
  have hl : lv_has ls 2 [(0, .ref (a 0)), (1, .int x1)] := hl
  have hg : fX5_count x x1 = fX5_count x x1 := rfl
  refine lv_iload_n hC.1 hC.2.1 dX5_count_0 rfl (lv_at hl 1 rfl) ?_
  refine lv_iconst (v := 0) hC.1 hC.2.1 dX5_count_1 (by decide) ?_
  refine lv_bipush (v := 18) hC.1 hC.2.1 dX5_count_2 (by decide +kernel) ?_
  refine runP (rS (B := fun U H => True) (As := [.int x1, .int 0, .int 18]) (rest := []) hC mwX5_isWithin (c_X5_isWithin l G x1 0 18) wd_239 wd_238 ⟨rfl, rfl⟩ ⟨Nat.le_of_ble_eq_true rfl, Nat.le_of_ble_eq_true rfl⟩ (fun _ _ _ _ h => h) hKN trivial rfl hl.1 rfl (Nat.le_of_ble_eq_true rfl) dX5_count_4 ⟨Nat.zero_le _, Nat.zero_le _⟩) ?_
  refine lv_if_ne (tgt := 20) hC.1 hC.2.1 dX5_count_7 (by decide) (fun k7 => ?_) (fun k7 => ?_)
  · refine lv_aload_n hC.1 hC.2.1 dX5_count_20 rfl (lv_at hl 0 rfl) ?_
    refine lv_iload_n hC.1 hC.2.1 dX5_count_21 rfl (lv_at hl 1 rfl) ?_
    refine runP (rV (B := fun U H => PW G (hdW G a b x) H) (As := [.int x1]) (rest := []) hC mwX5_counted (c_X5_counted l G a b x x1) iwX5_counted wd_362 ⟨rfl, rfl⟩ ⟨Nat.le_of_ble_eq_true rfl, Nat.le_of_ble_eq_true rfl⟩ (stb_h (fun H => PW G (hdW G a b x) H)) hKN hP (va_recv hKN.k hP (ci := 5) (q0 := 0) rfl rfl) rfl hl.1 rfl (Nat.le_of_ble_eq_true rfl) dX5_count_22 ⟨Nat.zero_le _, Nat.zero_le _⟩) ?_
    have e_1 : fX5_count x x1 = fX5_counted x x1 := by delta fX5_count; exact rfl
    have hg : fX5_count x x1 = fX5_counted x x1 := by have e2 := congrArg (fun z => z) e_1; exact hg.trans e2
    exact eP_i hC (congrArg Value.int hg) dX5_count_25
  · exact absurd k7 h1

theorem dX5_ifPrinted_0 : decode cX5_ifPrinted 0 = .ok (.iload_n 1, 1) := by decide +kernel
theorem dX5_ifPrinted_1 : decode cX5_ifPrinted 1 = .ok (.invokestatic 48, 3) := by decide +kernel
theorem dX5_ifPrinted_4 : decode cX5_ifPrinted 4 = .ok (.ifCond .eq 12, 3) := by decide +kernel
theorem dX5_ifPrinted_7 : decode cX5_ifPrinted 7 = .ok (.iload_n 2, 1) := by decide +kernel
theorem dX5_ifPrinted_8 : decode cX5_ifPrinted 8 = .ok (.iconst 0, 1) := by decide +kernel
theorem dX5_ifPrinted_9 : decode cX5_ifPrinted 9 = .ok (.iconst 4, 1) := by decide +kernel
theorem dX5_ifPrinted_10 : decode cX5_ifPrinted 10 = .ok (.invokestatic 66, 3) := by decide +kernel
theorem dX5_ifPrinted_13 : decode cX5_ifPrinted 13 = .ok (.ifCond .ne 13, 3) := by decide +kernel
theorem dX5_ifPrinted_16 : decode cX5_ifPrinted 16 = .ok (.new 52, 3) := by decide +kernel
theorem dX5_ifPrinted_19 : decode cX5_ifPrinted 19 = .ok (.dup, 1) := by decide +kernel
theorem dX5_ifPrinted_20 : decode cX5_ifPrinted 20 = .ok (.ldc 209, 2) := by decide +kernel
theorem dX5_ifPrinted_22 : decode cX5_ifPrinted 22 = .ok (.invokespecial 56, 3) := by decide +kernel
theorem dX5_ifPrinted_25 : decode cX5_ifPrinted 25 = .ok (.athrow, 1) := by decide +kernel
theorem dX5_ifPrinted_26 : decode cX5_ifPrinted 26 = .ok (.aload_n 0, 1) := by decide +kernel
theorem dX5_ifPrinted_27 : decode cX5_ifPrinted 27 = .ok (.iload_n 1, 1) := by decide +kernel
theorem dX5_ifPrinted_28 : decode cX5_ifPrinted 28 = .ok (.aload_n 0, 1) := by decide +kernel
theorem dX5_ifPrinted_29 : decode cX5_ifPrinted 29 = .ok (.getfield 10, 3) := by decide +kernel
theorem dX5_ifPrinted_32 : decode cX5_ifPrinted 32 = .ok (.iconst 5, 1) := by decide +kernel
theorem dX5_ifPrinted_33 : decode cX5_ifPrinted 33 = .ok (.invokevirtual 127, 3) := by decide +kernel
theorem dX5_ifPrinted_36 : decode cX5_ifPrinted 36 = .ok (.invokevirtual 211, 3) := by decide +kernel
theorem dX5_ifPrinted_39 : decode cX5_ifPrinted 39 = .ok (.aload_n 0, 1) := by decide +kernel
theorem dX5_ifPrinted_40 : decode cX5_ifPrinted 40 = .ok (.iload_n 2, 1) := by decide +kernel
theorem dX5_ifPrinted_41 : decode cX5_ifPrinted 41 = .ok (.invokevirtual 214, 3) := by decide +kernel
theorem dX5_ifPrinted_44 : decode cX5_ifPrinted 44 = .ok (.ireturn, 1) := by decide +kernel
set_option maxHeartbeats 1000000 in
set_option maxRecDepth 100000 in
theorem c_X5_ifPrinted (l : Launch) (G : GT) (a : Nat → Nat) (b : Nat → Nat) (x : HV) (x1 : Int32) (x2 : Int32) (hq : hdD G a b) (h1 : ¬ fX5_isLine x1 = 0) (h2 : ¬ fX5_isWithin x2 0 4 = 0) : Met l yX5_ifPrinted (Cond.code yX5_ifPrinted cX5_ifPrinted 3 (some .int) :: bigW) ({ frames := 5, cells := 0, slots := 0, locals := 121 }) (BP G [.ref (a 0), .int x1, .int x2] (fun U H => PW G (hdW G a b x) H)) (QE (some (.int (fX5_ifPrinted x x1 x2).2)) (fun H => PW G (hdW G a b (fX5_ifPrinted x x1 x2).1) H) (hdA a b)) 0 0 (hdA a b) := by
  refine met_of (by decide) (Nat.le_of_ble_eq_true rfl) ?_
  intro p e s m below meth c ls hC hKN hB0 hl
  have hP := hB0
  have hl : lv_has ls 3 [(0, .ref (a 0)), (1, .int x1), (2, .int x2)] := hl
  have hS : va_S (hdA a b) s.heap s.heap [] := va_S.rf
  have hAL : ∀ z, (hdA a b) z → gL G ≤ z := hdD_low hq
  have hg : fX5_ifPrinted x x1 x2 = fX5_ifPrinted x x1 x2 := rfl
  refine lv_iload_n hC.1 hC.2.1 dX5_ifPrinted_0 rfl (lv_at hl 1 rfl) ?_
  refine runP (rS (B := fun U H => True) (As := [.int x1]) (rest := []) hC mwX5_isLine (c_X5_isLine l G x1) wd_450 wd_449 ⟨rfl, rfl⟩ ⟨Nat.le_of_ble_eq_true rfl, Nat.le_of_ble_eq_true rfl⟩ (fun _ _ _ _ h => h) hKN trivial rfl hl.1 rfl (Nat.le_of_ble_eq_true rfl) dX5_ifPrinted_1 ⟨Nat.zero_le _, Nat.zero_le _⟩) ?_
  refine lv_if_eq (tgt := 16) hC.1 hC.2.1 dX5_ifPrinted_4 (by decide) (fun k4 => ?_) (fun k4 => ?_)
  · exact absurd k4 h1
  · refine lv_iload_n hC.1 hC.2.1 dX5_ifPrinted_7 rfl (lv_at hl 2 rfl) ?_
    refine lv_iconst (v := 0) hC.1 hC.2.1 dX5_ifPrinted_8 (by decide) ?_
    refine lv_iconst (v := 4) hC.1 hC.2.1 dX5_ifPrinted_9 (by decide) ?_
    refine runP (rS (B := fun U H => True) (As := [.int x2, .int 0, .int 4]) (rest := []) hC mwX5_isWithin (c_X5_isWithin l G x2 0 4) wd_239 wd_238 ⟨rfl, rfl⟩ ⟨Nat.le_of_ble_eq_true rfl, Nat.le_of_ble_eq_true rfl⟩ (fun _ _ _ _ h => h) hKN trivial rfl hl.1 rfl (Nat.le_of_ble_eq_true rfl) dX5_ifPrinted_10 ⟨Nat.zero_le _, Nat.zero_le _⟩) ?_
    refine lv_if_ne (tgt := 26) hC.1 hC.2.1 dX5_ifPrinted_13 (by decide) (fun k13 => ?_) (fun k13 => ?_)
    · refine lv_aload_n hC.1 hC.2.1 dX5_ifPrinted_26 rfl (lv_at hl 0 rfl) ?_
      refine lv_iload_n hC.1 hC.2.1 dX5_ifPrinted_27 rfl (lv_at hl 1 rfl) ?_
      refine lv_aload_n hC.1 hC.2.1 dX5_ifPrinted_28 rfl (lv_at hl 0 rfl) ?_
      refine gf (v := .ref (a 5)) hC fwX5 hKN hP 0 rfl rfl 0 (by decide) rfl wd_189 rfl dX5_ifPrinted_29 ?_
      refine lv_iconst (v := 5) hC.1 hC.2.1 dX5_ifPrinted_32 (by decide) ?_
      refine runP (rV (B := fun U H => PW G (stW G (sA a 0) (x 0)) H) (As := [.int 5]) (rest := [.int x1, .ref (a 0)]) hC mwX2_setting (c_X2_setting l G (sA a 0) (x 0) 5) iwX2_setting wd_374 ⟨rfl, rfl⟩ ⟨Nat.le_of_ble_eq_true rfl, Nat.le_of_ble_eq_true rfl⟩ (stb_h (fun H => PW G (stW G (sA a 0) (x 0)) H)) hKN (hd_st0 (x := x) hP) (va_recv hKN.k (hd_st0 (x := x) hP) (ci := 2) (q0 := 0) rfl rfl) rfl hl.1 rfl (Nat.le_of_ble_eq_true rfl) dX5_ifPrinted_33 ⟨Nat.zero_le _, Nat.zero_le _⟩) ?_
      refine runE (rV (B := fun U H => PW G (hdW G a b x) H) (As := [.int x1, .int (fX2_setting (x 0) 5)]) (rest := []) hC mwX5_tryLine (c_X5_tryLine l G a b x x1 (fX2_setting (x 0) 5) hq) iwX5_tryLine wd_454 ⟨rfl, rfl⟩ ⟨Nat.le_of_ble_eq_true rfl, Nat.le_of_ble_eq_true rfl⟩ (stb_h (fun H => PW G (hdW G a b x) H)) hKN hP (va_recv hKN.k hP (ci := 5) (q0 := 0) rfl rfl) rfl hl.1 rfl (Nat.le_of_ble_eq_true rfl) dX5_ifPrinted_36 ⟨Nat.zero_le _, Nat.zero_le _⟩) hS (fun _ h => h) (fun _ h => h) (fun H locs hq_1 _ _ hS => ?_)
      have hP : PW G (hdW G a b (fX5_tryLine x x1 (fX2_setting (x 0) 5))) H := hq_1
      obtain ⟨r_2, er_2⟩ : ∃ z, z = fX5_tryLine x x1 (fX2_setting (x 0) 5) := ⟨_, rfl⟩
      rw [← er_2] at hP
      refine lv_aload_n hC.1 hC.2.1 dX5_ifPrinted_39 rfl (lv_at hl 0 rfl) ?_
      refine lv_iload_n hC.1 hC.2.1 dX5_ifPrinted_40 rfl (lv_at hl 2 rfl) ?_
      refine runP (rV (B := fun U H => PW G (hdW G a b r_2) H) (As := [.int x2]) (rest := []) hC mwX5_tried (c_X5_tried l G a b r_2 x2) iwX5_tried wd_545 ⟨rfl, rfl⟩ ⟨Nat.le_of_ble_eq_true rfl, Nat.le_of_ble_eq_true rfl⟩ (stb_h (fun H => PW G (hdW G a b r_2) H)) (hKN.go hAL hS) hP (va_recv (hKN.go hAL hS).k hP (ci := 5) (q0 := 0) rfl rfl) rfl hl.1 rfl (Nat.le_of_ble_eq_true rfl) dX5_ifPrinted_41 ⟨Nat.zero_le _, Nat.zero_le _⟩) ?_
      have e_3 : fX5_ifPrinted x x1 x2 = (r_2, fX5_tried r_2 x2) := by
        delta fX5_ifPrinted
        try dsimp only
        rw [← er_2]
      have hg : fX5_ifPrinted x x1 x2 = (r_2, fX5_tried r_2 x2) := by have e2 := congrArg (fun z => z) e_3; exact hg.trans e2
      exact eE_i hC (by rw [hg]) (by show PW G (hdW G a b (fX5_ifPrinted x x1 x2).1) H; rw [hg]; exact hP) hS dX5_ifPrinted_44
    · exact absurd k13 h2

theorem dX5_betterWay_0 : decode cX5_betterWay 0 = .ok (.iload_n 1, 1) := by decide +kernel
theorem dX5_betterWay_1 : decode cX5_betterWay 1 = .ok (.invokestatic 48, 3) := by decide +kernel
theorem dX5_betterWay_4 : decode cX5_betterWay 4 = .ok (.ifCond .ne 13, 3) := by decide +kernel
theorem dX5_betterWay_7 : decode cX5_betterWay 7 = .ok (.new 52, 3) := by decide +kernel
theorem dX5_betterWay_10 : decode cX5_betterWay 10 = .ok (.dup, 1) := by decide +kernel
theorem dX5_betterWay_11 : decode cX5_betterWay 11 = .ok (.ldc 54, 2) := by decide +kernel
theorem dX5_betterWay_13 : decode cX5_betterWay 13 = .ok (.invokespecial 56, 3) := by decide +kernel
theorem dX5_betterWay_16 : decode cX5_betterWay 16 = .ok (.athrow, 1) := by decide +kernel
theorem dX5_betterWay_17 : decode cX5_betterWay 17 = .ok (.aload_n 0, 1) := by decide +kernel
theorem dX5_betterWay_18 : decode cX5_betterWay 18 = .ok (.iload_n 1, 1) := by decide +kernel
theorem dX5_betterWay_19 : decode cX5_betterWay 19 = .ok (.invokevirtual 217, 3) := by decide +kernel
theorem dX5_betterWay_22 : decode cX5_betterWay 22 = .ok (.ireturn, 1) := by decide +kernel
set_option maxHeartbeats 1000000 in
set_option maxRecDepth 100000 in
theorem c_X5_betterWay (l : Launch) (G : GT) (a : Nat → Nat) (b : Nat → Nat) (x : HV) (x1 : Int32) (hq : hdD G a b) (h1 : ¬ fX5_isLine x1 = 0) : Met l yX5_betterWay (Cond.code yX5_betterWay cX5_betterWay 2 (some .int) :: bigW) ({ frames := 6, cells := 0, slots := 0, locals := 143 }) (BP G [.ref (a 0), .int x1] (fun U H => PW G (hdW G a b x) H)) (QE (some (.int (fX5_betterWay x x1).2)) (fun H => PW G (hdW G a b (fX5_betterWay x x1).1) H) (hdA a b)) 0 0 (hdA a b) := by
  refine met_of (by decide) (Nat.le_of_ble_eq_true rfl) ?_
  intro p e s m below meth c ls hC hKN hB0 hl
  have hP := hB0
  have hl : lv_has ls 2 [(0, .ref (a 0)), (1, .int x1)] := hl
  have hS : va_S (hdA a b) s.heap s.heap [] := va_S.rf
  have hAL : ∀ z, (hdA a b) z → gL G ≤ z := hdD_low hq
  have hg : fX5_betterWay x x1 = fX5_betterWay x x1 := rfl
  refine lv_iload_n hC.1 hC.2.1 dX5_betterWay_0 rfl (lv_at hl 1 rfl) ?_
  refine runP (rS (B := fun U H => True) (As := [.int x1]) (rest := []) hC mwX5_isLine (c_X5_isLine l G x1) wd_450 wd_449 ⟨rfl, rfl⟩ ⟨Nat.le_of_ble_eq_true rfl, Nat.le_of_ble_eq_true rfl⟩ (fun _ _ _ _ h => h) hKN trivial rfl hl.1 rfl (Nat.le_of_ble_eq_true rfl) dX5_betterWay_1 ⟨Nat.zero_le _, Nat.zero_le _⟩) ?_
  refine lv_if_ne (tgt := 17) hC.1 hC.2.1 dX5_betterWay_4 (by decide) (fun k4 => ?_) (fun k4 => ?_)
  · refine lv_aload_n hC.1 hC.2.1 dX5_betterWay_17 rfl (lv_at hl 0 rfl) ?_
    refine lv_iload_n hC.1 hC.2.1 dX5_betterWay_18 rfl (lv_at hl 1 rfl) ?_
    refine runE (rV (B := fun U H => PW G (hdW G a b x) H) (As := [.int x1]) (rest := []) hC mwX5_fasterWay (c_X5_fasterWay l G a b x x1 hq) iwX5_fasterWay wd_554 ⟨rfl, rfl⟩ ⟨Nat.le_of_ble_eq_true rfl, Nat.le_of_ble_eq_true rfl⟩ (stb_h (fun H => PW G (hdW G a b x) H)) hKN hP (va_recv hKN.k hP (ci := 5) (q0 := 0) rfl rfl) rfl hl.1 rfl (Nat.le_of_ble_eq_true rfl) dX5_betterWay_19 ⟨Nat.zero_le _, Nat.zero_le _⟩) hS (fun _ h => h) (fun _ h => h) (fun H locs hq_1 _ _ hS => ?_)
    have hP : PW G (hdW G a b ((fX5_fasterWay x x1).1)) H := hq_1
    obtain ⟨r_2, er_2⟩ : ∃ z, z = fX5_fasterWay x x1 := ⟨_, rfl⟩
    rw [← er_2] at hP
    show W p l e ({ frames := 6, cells := 0, slots := 0, locals := 143 }) s m ([.ref (a 0), .int x1] : List Value).toArray below meth c H locs (0 + 0) (0 + 0) _ (F0 m (19 + 3) ls [.int ((fX5_fasterWay x x1).2)])
    rw [← er_2]
    have e_3 : fX5_betterWay x x1 = (r_2.1, r_2.2) := by
      delta fX5_betterWay
      try dsimp only
      rw [← er_2]
    have hg : fX5_betterWay x x1 = (r_2.1, r_2.2) := by have e2 := congrArg (fun z => z) e_3; exact hg.trans e2
    exact eE_i hC (by rw [hg]) (by show PW G (hdW G a b (fX5_betterWay x x1).1) H; rw [hg]; exact hP) hS dX5_betterWay_22
  · exact absurd k4 h1

theorem dX5_coolIn_0 : decode cX5_coolIn 0 = .ok (.iload_n 1, 1) := by decide +kernel
theorem dX5_coolIn_1 : decode cX5_coolIn 1 = .ok (.iconst 0, 1) := by decide +kernel
theorem dX5_coolIn_2 : decode cX5_coolIn 2 = .ok (.sipush 900, 3) := by decide +kernel
theorem dX5_coolIn_5 : decode cX5_coolIn 5 = .ok (.invokestatic 66, 3) := by decide +kernel
theorem dX5_coolIn_8 : decode cX5_coolIn 8 = .ok (.ifCond .ne 13, 3) := by decide +kernel
theorem dX5_coolIn_11 : decode cX5_coolIn 11 = .ok (.new 52, 3) := by decide +kernel
theorem dX5_coolIn_14 : decode cX5_coolIn 14 = .ok (.dup, 1) := by decide +kernel
theorem dX5_coolIn_15 : decode cX5_coolIn 15 = .ok (.ldc 220, 2) := by decide +kernel
theorem dX5_coolIn_17 : decode cX5_coolIn 17 = .ok (.invokespecial 56, 3) := by decide +kernel
theorem dX5_coolIn_20 : decode cX5_coolIn 20 = .ok (.athrow, 1) := by decide +kernel
theorem dX5_coolIn_21 : decode cX5_coolIn 21 = .ok (.aload_n 0, 1) := by decide +kernel
theorem dX5_coolIn_22 : decode cX5_coolIn 22 = .ok (.getfield 10, 3) := by decide +kernel
theorem dX5_coolIn_25 : decode cX5_coolIn 25 = .ok (.iload_n 1, 1) := by decide +kernel
theorem dX5_coolIn_26 : decode cX5_coolIn 26 = .ok (.invokevirtual 222, 3) := by decide +kernel
theorem dX5_coolIn_29 : decode cX5_coolIn 29 = .ok (.ireturn, 1) := by decide +kernel
set_option maxHeartbeats 1000000 in
set_option maxRecDepth 100000 in
theorem c_X5_coolIn (l : Launch) (G : GT) (a : Nat → Nat) (b : Nat → Nat) (x : HV) (x1 : Int32) (h1 : ¬ fX5_isWithin x1 0 900 = 0) : Met l yX5_coolIn (Cond.code yX5_coolIn cX5_coolIn 2 (some .int) :: bigW) ({ frames := 3, cells := 0, slots := 0, locals := 68 }) (BP G [.ref (a 0), .int x1] (fun U H => PW G (hdW G a b x) H)) (QP (.int (fX5_coolIn x x1))) 0 0 (fun _ => False) := by
  refine met_of (by decide) (Nat.le_of_ble_eq_true rfl) ?_
  intro p e s m below meth c ls hC hKN hB0 hl
  have hP := hB0
  have hl : lv_has ls 2 [(0, .ref (a 0)), (1, .int x1)] := hl
  have hg : fX5_coolIn x x1 = fX5_coolIn x x1 := rfl
  refine lv_iload_n hC.1 hC.2.1 dX5_coolIn_0 rfl (lv_at hl 1 rfl) ?_
  refine lv_iconst (v := 0) hC.1 hC.2.1 dX5_coolIn_1 (by decide) ?_
  refine lv_sipush (v := 900) hC.1 hC.2.1 dX5_coolIn_2 (by decide +kernel) ?_
  refine runP (rS (B := fun U H => True) (As := [.int x1, .int 0, .int 900]) (rest := []) hC mwX5_isWithin (c_X5_isWithin l G x1 0 900) wd_239 wd_238 ⟨rfl, rfl⟩ ⟨Nat.le_of_ble_eq_true rfl, Nat.le_of_ble_eq_true rfl⟩ (fun _ _ _ _ h => h) hKN trivial rfl hl.1 rfl (Nat.le_of_ble_eq_true rfl) dX5_coolIn_5 ⟨Nat.zero_le _, Nat.zero_le _⟩) ?_
  refine lv_if_ne (tgt := 21) hC.1 hC.2.1 dX5_coolIn_8 (by decide) (fun k8 => ?_) (fun k8 => ?_)
  · refine lv_aload_n hC.1 hC.2.1 dX5_coolIn_21 rfl (lv_at hl 0 rfl) ?_
    refine gf (v := .ref (a 5)) hC fwX5 hKN hP 0 rfl rfl 0 (by decide) rfl wd_189 rfl dX5_coolIn_22 ?_
    refine lv_iload_n hC.1 hC.2.1 dX5_coolIn_25 rfl (lv_at hl 1 rfl) ?_
    refine runP (rV (B := fun U H => PW G (stW G (sA a 0) (x 0)) H) (As := [.int x1]) (rest := []) hC mwX2_timeUntilCool (c_X2_timeUntilCool l G (sA a 0) (x 0) x1) iwX2_timeUntilCool wd_566 ⟨rfl, rfl⟩ ⟨Nat.le_of_ble_eq_true rfl, Nat.le_of_ble_eq_true rfl⟩ (stb_h (fun H => PW G (stW G (sA a 0) (x 0)) H)) hKN (hd_st0 (x := x) hP) (va_recv hKN.k (hd_st0 (x := x) hP) (ci := 2) (q0 := 0) rfl rfl) rfl hl.1 rfl (Nat.le_of_ble_eq_true rfl) dX5_coolIn_26 ⟨Nat.zero_le _, Nat.zero_le _⟩) ?_
    have e_1 : fX5_coolIn x x1 = fX2_timeUntilCool (x 0) x1 := by delta fX5_coolIn; exact rfl
    have hg : fX5_coolIn x x1 = fX2_timeUntilCool (x 0) x1 := by have e2 := congrArg (fun z => z) e_1; exact hg.trans e2
    exact eP_i hC (congrArg Value.int hg) dX5_coolIn_29
  · exact absurd k8 h1

theorem dX5_darkFrom_0 : decode cX5_darkFrom 0 = .ok (.iload_n 1, 1) := by decide +kernel
theorem dX5_darkFrom_1 : decode cX5_darkFrom 1 = .ok (.invokestatic 191, 3) := by decide +kernel
theorem dX5_darkFrom_4 : decode cX5_darkFrom 4 = .ok (.ifCond .ne 13, 3) := by decide +kernel
theorem dX5_darkFrom_7 : decode cX5_darkFrom 7 = .ok (.new 109, 3) := by decide +kernel
theorem dX5_darkFrom_10 : decode cX5_darkFrom 10 = .ok (.dup, 1) := by decide +kernel
theorem dX5_darkFrom_11 : decode cX5_darkFrom 11 = .ok (.ldc 194, 2) := by decide +kernel
theorem dX5_darkFrom_13 : decode cX5_darkFrom 13 = .ok (.invokespecial 113, 3) := by decide +kernel
theorem dX5_darkFrom_16 : decode cX5_darkFrom 16 = .ok (.athrow, 1) := by decide +kernel
theorem dX5_darkFrom_17 : decode cX5_darkFrom 17 = .ok (.aload_n 0, 1) := by decide +kernel
theorem dX5_darkFrom_18 : decode cX5_darkFrom 18 = .ok (.getfield 10, 3) := by decide +kernel
theorem dX5_darkFrom_21 : decode cX5_darkFrom 21 = .ok (.iload_n 1, 1) := by decide +kernel
theorem dX5_darkFrom_22 : decode cX5_darkFrom 22 = .ok (.invokevirtual 225, 3) := by decide +kernel
theorem dX5_darkFrom_25 : decode cX5_darkFrom 25 = .ok (.ireturn, 1) := by decide +kernel
set_option maxHeartbeats 1000000 in
set_option maxRecDepth 100000 in
theorem c_X5_darkFrom (l : Launch) (G : GT) (a : Nat → Nat) (b : Nat → Nat) (x : HV) (x1 : Int32) (h1 : ¬ fX5_isDot x1 = 0) : Met l yX5_darkFrom (Cond.code yX5_darkFrom cX5_darkFrom 2 (some .int) :: bigW) ({ frames := 4, cells := 0, slots := 0, locals := 95 }) (BP G [.ref (a 0), .int x1] (fun U H => PW G (hdW G a b x) H)) (QP (.int (fX5_darkFrom x x1))) 0 0 (fun _ => False) := by
  refine met_of (by decide) (Nat.le_of_ble_eq_true rfl) ?_
  intro p e s m below meth c ls hC hKN hB0 hl
  have hP := hB0
  have hl : lv_has ls 2 [(0, .ref (a 0)), (1, .int x1)] := hl
  have hg : fX5_darkFrom x x1 = fX5_darkFrom x x1 := rfl
  refine lv_iload_n hC.1 hC.2.1 dX5_darkFrom_0 rfl (lv_at hl 1 rfl) ?_
  refine runP (rS (B := fun U H => True) (As := [.int x1]) (rest := []) hC mwX5_isDot (c_X5_isDot l G x1) wd_236 wd_235 ⟨rfl, rfl⟩ ⟨Nat.le_of_ble_eq_true rfl, Nat.le_of_ble_eq_true rfl⟩ (fun _ _ _ _ h => h) hKN trivial rfl hl.1 rfl (Nat.le_of_ble_eq_true rfl) dX5_darkFrom_1 ⟨Nat.zero_le _, Nat.zero_le _⟩) ?_
  refine lv_if_ne (tgt := 17) hC.1 hC.2.1 dX5_darkFrom_4 (by decide) (fun k4 => ?_) (fun k4 => ?_)
  · refine lv_aload_n hC.1 hC.2.1 dX5_darkFrom_17 rfl (lv_at hl 0 rfl) ?_
    refine gf (v := .ref (a 5)) hC fwX5 hKN hP 0 rfl rfl 0 (by decide) rfl wd_189 rfl dX5_darkFrom_18 ?_
    refine lv_iload_n hC.1 hC.2.1 dX5_darkFrom_21 rfl (lv_at hl 1 rfl) ?_
    refine runP (rV (B := fun U H => PW G (stW G (sA a 0) (x 0)) H) (As := [.int x1]) (rest := []) hC mwX2_leastDarkSetting (c_X2_leastDarkSetting l G (sA a 0) (x 0) x1) iwX2_leastDarkSetting wd_575 ⟨rfl, rfl⟩ ⟨Nat.le_of_ble_eq_true rfl, Nat.le_of_ble_eq_true rfl⟩ (stb_h (fun H => PW G (stW G (sA a 0) (x 0)) H)) hKN (hd_st0 (x := x) hP) (va_recv hKN.k (hd_st0 (x := x) hP) (ci := 2) (q0 := 0) rfl rfl) rfl hl.1 rfl (Nat.le_of_ble_eq_true rfl) dX5_darkFrom_22 ⟨Nat.zero_le _, Nat.zero_le _⟩) ?_
    have e_1 : fX5_darkFrom x x1 = fX2_leastDarkSetting (x 0) x1 := by delta fX5_darkFrom; exact rfl
    have hg : fX5_darkFrom x x1 = fX2_leastDarkSetting (x 0) x1 := by have e2 := congrArg (fun z => z) e_1; exact hg.trans e2
    exact eP_i hC (congrArg Value.int hg) dX5_darkFrom_25
  · exact absurd k4 h1
