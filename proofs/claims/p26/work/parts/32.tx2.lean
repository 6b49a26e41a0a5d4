def fX5_line (x : HV) (x1 : Int32) : HV × Int32 := let r_2 := fX5_saveState x
  let r_4 := fX2_printLine (r_2 0) x1
  (mkH r_4.1 (r_2 1) (r_2 2) (r_2 3) (r_2 4) (r_2 5) (r_2 6) (r_2 7) (r_2 8) (r_2 9 0) (r_2 9 1) (r_2 9 2 0) (r_2 9 2 1) (r_2 9 2 2) , r_4.2)
def fX5_lines (x : HV) (x1 : Int32) (x2 : Int32) : HV × Int32 := let r_2 := fX5_saveState x
  let r_4 := fX2_printLines (r_2 0) x1 x2
  (mkH r_4 (r_2 1) (r_2 2) (r_2 3) (r_2 4) (r_2 5) (r_2 6) (r_2 7) (r_2 8) (r_2 9 0) (r_2 9 1) (r_2 9 2 0) (r_2 9 2 1) (r_2 9 2 2) , (r_4 8 6) - ((r_2 0) 8 6))
def fX5_rest (x : HV) (x1 : Int32) : HV × Int32 := let r_2 := fX5_saveState x
  let r_4 := fX2_passTime (r_2 0) x1
  (mkH r_4 (r_2 1) (r_2 2) (r_2 3) (r_2 4) (r_2 5) (r_2 6) (r_2 7) (r_2 8) (r_2 9 0) (r_2 9 1) (r_2 9 2 0) (r_2 9 2 1) (r_2 9 2 2) , fX2_hottestDot r_4)
def fX5_paper (x : HV) (x1 : Int32) : HV × Int32 := let r_2 := fX5_saveState x
  let r_4 := fX2_changePaper (r_2 0) x1
  (mkH r_4 (r_2 1) (r_2 2) (r_2 3) (r_2 4) (r_2 5) (r_2 6) (r_2 7) (r_2 8) (r_2 9 0) (r_2 9 1) (r_2 9 2 0) (r_2 9 2 1) (r_2 9 2 2) , (r_2 0) 8 0)
def fX5_set (x : HV) (x1 : Int32) (x2 : Int32) : HV × Int32 := let r_2 := fX5_saveState x
  let r_4 := fX2_changeSetting (r_2 0) x1 x2
  (mkH r_4 (r_2 1) (r_2 2) (r_2 3) (r_2 4) (r_2 5) (r_2 6) (r_2 7) (r_2 8) (r_2 9 0) (r_2 9 1) (r_2 9 2 0) (r_2 9 2 1) (r_2 9 2 2) , fX2_setting (r_2 0) x1)
theorem undo_5 {x w : Int32} (h : le_n x 6) (k : 1 ≤ x) (e : w = x - 1) : le_n w 5 := by
  obtain ⟨h1, h2⟩ := h
  have hx : x = nI x.toNatClampNeg := lq ⟨h1, h2⟩
  generalize x.toNatClampNeg = n at *
  subst hx
  have e2 := e.symm
  subst e2
  match n, h2 with
  | 0, _ => exact absurd k (by decide)
  | 1, _ => exact ⟨by decide, by decide⟩
  | 2, _ => exact ⟨by decide, by decide⟩
  | 3, _ => exact ⟨by decide, by decide⟩
  | 4, _ => exact ⟨by decide, by decide⟩
  | 5, _ => exact ⟨by decide, by decide⟩
  | 6, _ => exact ⟨by decide, by decide⟩
  | n + 7, h => exact absurd h (by omega)
theorem dX5_line_0 : decode cX5_line 0 = .ok (.iload_n 1, 1) := by decide +kernel
theorem dX5_line_1 : decode cX5_line 1 = .ok (.invokestatic 48, 3) := by decide +kernel
theorem dX5_line_4 : decode cX5_line 4 = .ok (.ifCond .ne 13, 3) := by decide +kernel
theorem dX5_line_7 : decode cX5_line 7 = .ok (.new 52, 3) := by decide +kernel
theorem dX5_line_10 : decode cX5_line 10 = .ok (.dup, 1) := by decide +kernel
theorem dX5_line_11 : decode cX5_line 11 = .ok (.ldc 54, 2) := by decide +kernel
theorem dX5_line_13 : decode cX5_line 13 = .ok (.invokespecial 56, 3) := by decide +kernel
theorem dX5_line_16 : decode cX5_line 16 = .ok (.athrow, 1) := by decide +kernel
theorem dX5_line_17 : decode cX5_line 17 = .ok (.aload_n 0, 1) := by decide +kernel
theorem dX5_line_18 : decode cX5_line 18 = .ok (.invokevirtual 59, 3) := by decide +kernel
theorem dX5_line_21 : decode cX5_line 21 = .ok (.aload_n 0, 1) := by decide +kernel
theorem dX5_line_22 : decode cX5_line 22 = .ok (.getfield 10, 3) := by decide +kernel
theorem dX5_line_25 : decode cX5_line 25 = .ok (.iload_n 1, 1) := by decide +kernel
theorem dX5_line_26 : decode cX5_line 26 = .ok (.invokevirtual 62, 3) := by decide +kernel
theorem dX5_line_29 : decode cX5_line 29 = .ok (.ireturn, 1) := by decide +kernel
set_option maxHeartbeats 1000000 in
set_option maxRecDepth 100000 in
theorem c_X5_line (l : Launch) (G : GT) (a : Nat → Nat) (b0 : Nat → Nat) (x : HV) (x1 : Int32) (hq : hdD G a b0) (hI : le_n (x 9 2 0) 6) (h1 : ¬ fX5_isLine x1 = 0) : Met l yX5_line (Cond.code yX5_line cX5_line 2 (some .int) :: bigW) ({ frames := 5, cells := 0, slots := 0, locals := 114 }) (BP G [.ref (a 0), .int x1] (fun U H => PW G (hdW G a b0 x) H)) (QE (some (.int (fX5_line x x1).2)) (fun H => ∃ b', hdR G a b0 b' ∧ PW G (hdW G a b' (fX5_line x x1).1) H) (hdA a b0)) 0 0 (hdA a b0) := by
  refine met_of (by decide) (Nat.le_of_ble_eq_true rfl) ?_
  intro p e s m below meth c ls hC hKN hB0 hl
  have hP := hB0
  have hl : lv_has ls 2 [(0, .ref (a 0)), (1, .int x1)] := hl
  have hS : va_S (hdA a b0) s.heap s.heap [] := va_S.rf
  have hAL : ∀ z, (hdA a b0) z → gL G ≤ z := hdD_low hq
  obtain ⟨b, hbe⟩ : ∃ b, b = b0 := ⟨_, rfl⟩
  rw [← hbe] at hP
  have hq0 := hq
  rw [← hbe] at hq
  have hAb : ∀ z, hdA a b z → hdA a b0 z := by rw [hbe]; exact fun _ h => h
  have hg : fX5_line x x1 = fX5_line x x1 := rfl
  refine lv_iload_n hC.1 hC.2.1 dX5_line_0 rfl (lv_at hl 1 rfl) ?_
  refine runP (rS (B := fun U H => True) (As := [.int x1]) (rest := []) hC mwX5_isLine (c_X5_isLine l G x1) wd_450 wd_449 ⟨rfl, rfl⟩ ⟨Nat.le_of_ble_eq_true rfl, Nat.le_of_ble_eq_true rfl⟩ (fun _ _ _ _ h => h) hKN trivial rfl hl.1 rfl (Nat.le_of_ble_eq_true rfl) dX5_line_1 ⟨Nat.zero_le _, Nat.zero_le _⟩) ?_
  refine lv_if_ne (tgt := 17) hC.1 hC.2.1 dX5_line_4 (by decide) (fun k4 => ?_) (fun k4 => ?_)
  · refine lv_aload_n hC.1 hC.2.1 dX5_line_17 rfl (lv_at hl 0 rfl) ?_
    refine runE (rV (B := fun U H => PW G (hdW G a b x) H) (As := []) (rest := []) hC mwX5_saveState (c_X5_saveState l G a b x hq hI) iwX5_saveState wd_602 ⟨rfl, rfl⟩ ⟨Nat.le_of_ble_eq_true rfl, Nat.le_of_ble_eq_true rfl⟩ (stb_h (fun H => PW G (hdW G a b x) H)) hKN hP (va_recv hKN.k hP (ci := 5) (q0 := 0) rfl rfl) rfl hl.1 rfl (Nat.le_of_ble_eq_true rfl) dX5_line_18 ⟨Nat.zero_le _, Nat.zero_le _⟩) hS (fun _ h => hAb _ h) (fun _ h => hAb _ h) (fun H locs hq_1 _ _ hS => ?_)
    obtain ⟨b, ⟨hq, hR⟩, hP⟩ := hq_1
    have hAb := fun z h => hAb z (hR z h)
    obtain ⟨r_2, er_2⟩ : ∃ z, z = fX5_saveState x := ⟨_, rfl⟩
    rw [← er_2] at hP
    have hI : True := trivial
    refine lv_aload_n hC.1 hC.2.1 dX5_line_21 rfl (lv_at hl 0 rfl) ?_
    refine gf (v := .ref (a 5)) hC fwX5 (hKN.go hAL hS) hP 0 rfl rfl 0 (by decide) rfl wd_189 rfl dX5_line_22 ?_
    refine lv_iload_n hC.1 hC.2.1 dX5_line_25 rfl (lv_at hl 1 rfl) ?_
    refine runE (rV (B := fun U H => PW G (stW G (sA a 0) (r_2 0)) H) (As := [.int x1]) (rest := []) hC mwX2_printLine (c_X2_printLine l G (sA a 0) (r_2 0) x1 (hdD_st hq 0 (by decide))) iwX2_printLine wd_479 ⟨rfl, rfl⟩ ⟨Nat.le_of_ble_eq_true rfl, Nat.le_of_ble_eq_true rfl⟩ (stb_h (fun H => PW G (stW G (sA a 0) (r_2 0)) H)) (hKN.go hAL hS) (hd_st0 (x := r_2) hP) (va_recv (hKN.go hAL hS).k (hd_st0 (x := r_2) hP) (ci := 2) (q0 := 0) rfl rfl) rfl hl.1 rfl (Nat.le_of_ble_eq_true rfl) dX5_line_26 ⟨Nat.zero_le _, Nat.zero_le _⟩) hS (fun _ h => hAb _ (hdA_st (by decide) h)) (fun _ h => hAb _ (hdA_st (by decide) h)) (fun H locs hq_3 _ hk_5 hS => ?_)
    have hP : PW G (hdW G a b (mkH ((fX2_printLine (r_2 0) x1).1) (r_2 1) (r_2 2) (r_2 3) (r_2 4) (r_2 5) (r_2 6) (r_2 7) (r_2 8) (r_2 9 0) (r_2 9 1) (r_2 9 2 0) (r_2 9 2 1) (r_2 9 2 2))) H := hd_set0 (x := r_2) hq hP hq_3 hk_5
    obtain ⟨r_4, er_4⟩ : ∃ z, z = fX2_printLine (r_2 0) x1 := ⟨_, rfl⟩
    rw [← er_4] at hP
    show W p l e ({ frames := 5, cells := 0, slots := 0, locals := 114 }) s m ([.ref (a 0), .int x1] : List Value).toArray below meth c H locs (0 + 0) (0 + 0) _ (F0 m (26 + 3) ls [.int ((fX2_printLine (r_2 0) x1).2)])
    rw [← er_4]
    have hI : True := trivial
    have e_6 : fX5_line x x1 = (mkH r_4.1 (r_2 1) (r_2 2) (r_2 3) (r_2 4) (r_2 5) (r_2 6) (r_2 7) (r_2 8) (r_2 9 0) (r_2 9 1) (r_2 9 2 0) (r_2 9 2 1) (r_2 9 2 2) , r_4.2) := by
      delta fX5_line
      try dsimp only
      rw [← er_2]
      rw [← er_4]
    have hg : fX5_line x x1 = (mkH r_4.1 (r_2 1) (r_2 2) (r_2 3) (r_2 4) (r_2 5) (r_2 6) (r_2 7) (r_2 8) (r_2 9 0) (r_2 9 1) (r_2 9 2 0) (r_2 9 2 1) (r_2 9 2 2) , r_4.2) := by have e2 := congrArg (fun z => z) e_6; exact hg.trans e2
    exact eE_i hC (by rw [hg]) ⟨b, ⟨hq, hAb⟩, by rw [hg]; exact hP⟩ hS dX5_line_29
  · exact absurd k4 h1

theorem dX5_lines_0 : decode cX5_lines 0 = .ok (.iload_n 1, 1) := by decide +kernel
theorem dX5_lines_1 : decode cX5_lines 1 = .ok (.invokestatic 48, 3) := by decide +kernel
theorem dX5_lines_4 : decode cX5_lines 4 = .ok (.ifCond .eq 13, 3) := by decide +kernel
theorem dX5_lines_7 : decode cX5_lines 7 = .ok (.iload_n 2, 1) := by decide +kernel
theorem dX5_lines_8 : decode cX5_lines 8 = .ok (.iconst 1, 1) := by decide +kernel
theorem dX5_lines_9 : decode cX5_lines 9 = .ok (.bipush 20, 2) := by decide +kernel
theorem dX5_lines_11 : decode cX5_lines 11 = .ok (.invokestatic 66, 3) := by decide +kernel
theorem dX5_lines_14 : decode cX5_lines 14 = .ok (.ifCond .ne 13, 3) := by decide +kernel
theorem dX5_lines_17 : decode cX5_lines 17 = .ok (.new 52, 3) := by decide +kernel
theorem dX5_lines_20 : decode cX5_lines 20 = .ok (.dup, 1) := by decide +kernel
theorem dX5_lines_21 : decode cX5_lines 21 = .ok (.ldc 70, 2) := by decide +kernel
theorem dX5_lines_23 : decode cX5_lines 23 = .ok (.invokespecial 56, 3) := by decide +kernel
theorem dX5_lines_26 : decode cX5_lines 26 = .ok (.athrow, 1) := by decide +kernel
theorem dX5_lines_27 : decode cX5_lines 27 = .ok (.aload_n 0, 1) := by decide +kernel
theorem dX5_lines_28 : decode cX5_lines 28 = .ok (.invokevirtual 59, 3) := by decide +kernel
theorem dX5_lines_31 : decode cX5_lines 31 = .ok (.aload_n 0, 1) := by decide +kernel
theorem dX5_lines_32 : decode cX5_lines 32 = .ok (.getfield 10, 3) := by decide +kernel
theorem dX5_lines_35 : decode cX5_lines 35 = .ok (.getfield 72, 3) := by decide +kernel
theorem dX5_lines_38 : decode cX5_lines 38 = .ok (.getfield 76, 3) := by decide +kernel
theorem dX5_lines_41 : decode cX5_lines 41 = .ok (.istore_n 3, 1) := by decide +kernel
theorem dX5_lines_42 : decode cX5_lines 42 = .ok (.aload_n 0, 1) := by decide +kernel
theorem dX5_lines_43 : decode cX5_lines 43 = .ok (.getfield 10, 3) := by decide +kernel
theorem dX5_lines_46 : decode cX5_lines 46 = .ok (.iload_n 1, 1) := by decide +kernel
theorem dX5_lines_47 : decode cX5_lines 47 = .ok (.iload_n 2, 1) := by decide +kernel
theorem dX5_lines_48 : decode cX5_lines 48 = .ok (.invokevirtual 81, 3) := by decide +kernel
theorem dX5_lines_51 : decode cX5_lines 51 = .ok (.aload_n 0, 1) := by decide +kernel
theorem dX5_lines_52 : decode cX5_lines 52 = .ok (.getfield 10, 3) := by decide +kernel
theorem dX5_lines_55 : decode cX5_lines 55 = .ok (.getfield 72, 3) := by decide +kernel
theorem dX5_lines_58 : decode cX5_lines 58 = .ok (.getfield 76, 3) := by decide +kernel
theorem dX5_lines_61 : decode cX5_lines 61 = .ok (.iload_n 3, 1) := by decide +kernel
theorem dX5_lines_62 : decode cX5_lines 62 = .ok (.isub, 1) := by decide +kernel
theorem dX5_lines_63 : decode cX5_lines 63 = .ok (.ireturn, 1) := by decide +kernel
set_option maxHeartbeats 1000000 in
set_option maxRecDepth 100000 in
theorem c_X5_lines (l : Launch) (G : GT) (a : Nat → Nat) (b0 : Nat → Nat) (x : HV) (x1 : Int32) (x2 : Int32) (hq : hdD G a b0) (hI : le_n (x 9 2 0) 6) (h1 : ¬ fX5_isLine x1 = 0) (h2 : ¬ fX5_isWithin x2 1 20 = 0) : Met l yX5_lines (Cond.code yX5_lines cX5_lines 4 (some .int) :: bigW) ({ frames := 5, cells := 0, slots := 0, locals := 122 }) (BP G [.ref (a 0), .int x1, .int x2] (fun U H => PW G (hdW G a b0 x) H)) (QE (some (.int (fX5_lines x x1 x2).2)) (fun H => ∃ b', hdR G a b0 b' ∧ PW G (hdW G a b' (fX5_lines x x1 x2).1) H) (hdA a b0)) 0 0 (hdA a b0) := by
  refine met_of (by decide) (Nat.le_of_ble_eq_true rfl) ?_
  intro p e s m below meth c ls hC hKN hB0 hl
  have hP := hB0
  have hl : lv_has ls 4 [(0, .ref (a 0)), (1, .int x1), (2, .int x2)] := hl
  have hS : va_S (hdA a b0) s.heap s.heap [] := va_S.rf
  have hAL : ∀ z, (hdA a b0) z → gL G ≤ z := hdD_low hq
  obtain ⟨b, hbe⟩ : ∃ b, b = b0 := ⟨_, rfl⟩
  rw [← hbe] at hP
  have hq0 := hq
  rw [← hbe] at hq
  have hAb : ∀ z, hdA a b z → hdA a b0 z := by rw [hbe]; exact fun _ h => h
  have hg : fX5_lines x x1 x2 = fX5_lines x x1 x2 := rfl
  refine lv_iload_n hC.1 hC.2.1 dX5_lines_0 rfl (lv_at hl 1 rfl) ?_
  refine runP (rS (B := fun U H => True) (As := [.int x1]) (rest := []) hC mwX5_isLine (c_X5_isLine l G x1) wd_450 wd_449 ⟨rfl, rfl⟩ ⟨Nat.le_of_ble_eq_true rfl, Nat.le_of_ble_eq_true rfl⟩ (fun _ _ _ _ h => h) hKN trivial rfl hl.1 rfl (Nat.le_of_ble_eq_true rfl) dX5_lines_1 ⟨Nat.zero_le _, Nat.zero_le _⟩) ?_
  refine lv_if_eq (tgt := 17) hC.1 hC.2.1 dX5_lines_4 (by decide) (fun k4 => ?_) (fun k4 => ?_)
  · exact absurd k4 h1
  · refine lv_iload_n hC.1 hC.2.1 dX5_lines_7 rfl (lv_at hl 2 rfl) ?_
    refine lv_iconst (v := 1) hC.1 hC.2.1 dX5_lines_8 (by decide) ?_
    refine lv_bipush (v := 20) hC.1 hC.2.1 dX5_lines_9 (by decide +kernel) ?_
    refine runP (rS (B := fun U H => True) (As := [.int x2, .int 1, .int 20]) (rest := []) hC mwX5_isWithin (c_X5_isWithin l G x2 1 20) wd_239 wd_238 ⟨rfl, rfl⟩ ⟨Nat.le_of_ble_eq_true rfl, Nat.le_of_ble_eq_true rfl⟩ (fun _ _ _ _ h => h) hKN trivial rfl hl.1 rfl (Nat.le_of_ble_eq_true rfl) dX5_lines_11 ⟨Nat.zero_le _, Nat.zero_le _⟩) ?_
    refine lv_if_ne (tgt := 27) hC.1 hC.2.1 dX5_lines_14 (by decide) (fun k14 => ?_) (fun k14 => ?_)
    · refine lv_aload_n hC.1 hC.2.1 dX5_lines_27 rfl (lv_at hl 0 rfl) ?_
      refine runE (rV (B := fun U H => PW G (hdW G a b x) H) (As := []) (rest := []) hC mwX5_saveState (c_X5_saveState l G a b x hq hI) iwX5_saveState wd_602 ⟨rfl, rfl⟩ ⟨Nat.le_of_ble_eq_true rfl, Nat.le_of_ble_eq_true rfl⟩ (stb_h (fun H => PW G (hdW G a b x) H)) hKN hP (va_recv hKN.k hP (ci := 5) (q0 := 0) rfl rfl) rfl hl.1 rfl (Nat.le_of_ble_eq_true rfl) dX5_lines_28 ⟨Nat.zero_le _, Nat.zero_le _⟩) hS (fun _ h => hAb _ h) (fun _ h => hAb _ h) (fun H locs hq_1 _ _ hS => ?_)
      obtain ⟨b, ⟨hq, hR⟩, hP⟩ := hq_1
      have hAb := fun z h => hAb z (hR z h)
      obtain ⟨r_2, er_2⟩ : ∃ z, z = fX5_saveState x := ⟨_, rfl⟩
      rw [← er_2] at hP
      have hI : True := trivial
      refine lv_aload_n hC.1 hC.2.1 dX5_lines_31 rfl (lv_at hl 0 rfl) ?_
      refine gf (v := .ref (a 5)) hC fwX5 (hKN.go hAL hS) hP 0 rfl rfl 0 (by decide) rfl wd_189 rfl dX5_lines_32 ?_
      refine gfN (v := .ref (sA a 0 8)) hC fwX2 (hKN.go hAL hS) hP 5 rfl rfl 4 (by decide) rfl (nf_16 (hKN.go hAL hS)) rfl dX5_lines_35 ?_
      refine gfN (v := .int ((r_2 0) 8 6)) hC fwX4 (hKN.go hAL hS) hP 13 rfl rfl 7 (by decide) rfl (nf_12 (hKN.go hAL hS)) rfl dX5_lines_38 ?_
      refine lv_istore_n (lv' := [(3, .int ((r_2 0) 8 6)), (0, .ref (a 0)), (1, .int x1), (2, .int x2)]) hC.1 hC.2.1 dX5_lines_41 rfl hl (by decide) rfl (fun ls hl => ?_)
      refine lv_aload_n hC.1 hC.2.1 dX5_lines_42 rfl (lv_at hl 1 rfl) ?_
      refine gf (v := .ref (a 5)) hC fwX5 (hKN.go hAL hS) hP 0 rfl rfl 0 (by decide) rfl wd_189 rfl dX5_lines_43 ?_
      refine lv_iload_n hC.1 hC.2.1 dX5_lines_46 rfl (lv_at hl 2 rfl) ?_
      refine lv_iload_n hC.1 hC.2.1 dX5_lines_47 rfl (lv_at hl 3 rfl) ?_
      refine runE (rV (B := fun U H => PW G (stW G (sA a 0) (r_2 0)) H) (As := [.int x1, .int x2]) (rest := []) hC mwX2_printLines (c_X2_printLines l G (sA a 0) (r_2 0) x1 x2 (hdD_st hq 0 (by decide))) iwX2_printLines wd_634 ⟨rfl, rfl⟩ ⟨Nat.le_of_ble_eq_true rfl, Nat.le_of_ble_eq_true rfl⟩ (stb_h (fun H => PW G (stW G (sA a 0) (r_2 0)) H)) (hKN.go hAL hS) (hd_st0 (x := r_2) hP) (va_recv (hKN.go hAL hS).k (hd_st0 (x := r_2) hP) (ci := 2) (q0 := 0) rfl rfl) rfl hl.1 rfl (Nat.le_of_ble_eq_true rfl) dX5_lines_48 ⟨Nat.zero_le _, Nat.zero_le _⟩) hS (fun _ h => hAb _ (hdA_st (by decide) h)) (fun _ h => hAb _ (hdA_st (by decide) h)) (fun H locs hq_3 _ hk_5 hS => ?_)
      have hP : PW G (hdW G a b (mkH (fX2_printLines (r_2 0) x1 x2) (r_2 1) (r_2 2) (r_2 3) (r_2 4) (r_2 5) (r_2 6) (r_2 7) (r_2 8) (r_2 9 0) (r_2 9 1) (r_2 9 2 0) (r_2 9 2 1) (r_2 9 2 2))) H := hd_set0 (x := r_2) hq hP hq_3 hk_5
      obtain ⟨r_4, er_4⟩ : ∃ z, z = fX2_printLines (r_2 0) x1 x2 := ⟨_, rfl⟩
      rw [← er_4] at hP
      have hI : True := trivial
      refine lv_aload_n hC.1 hC.2.1 dX5_lines_51 rfl (lv_at hl 1 rfl) ?_
      refine gf (v := .ref (a 5)) hC fwX5 (hKN.go hAL hS) hP 0 rfl rfl 0 (by decide) rfl wd_189 rfl dX5_lines_52 ?_
      refine gfN (v := .ref (sA a 0 8)) hC fwX2 (hKN.go hAL hS) hP 5 rfl rfl 4 (by decide) rfl (nf_16 (hKN.go hAL hS)) rfl dX5_lines_55 ?_
      refine gfN (v := .int (r_4 8 6)) hC fwX4 (hKN.go hAL hS) hP 13 rfl rfl 7 (by decide) rfl (nf_12 (hKN.go hAL hS)) rfl dX5_lines_58 ?_
      refine lv_iload_n hC.1 hC.2.1 dX5_lines_61 rfl (lv_at hl 0 rfl) ?_
      refine lv_isub hC.1 hC.2.1 dX5_lines_62 ?_
      have e_6 : fX5_lines x x1 x2 = (mkH r_4 (r_2 1) (r_2 2) (r_2 3) (r_2 4) (r_2 5) (r_2 6) (r_2 7) (r_2 8) (r_2 9 0) (r_2 9 1) (r_2 9 2 0) (r_2 9 2 1) (r_2 9 2 2) , (r_4 8 6) - ((r_2 0) 8 6)) := by
        delta fX5_lines
        try dsimp only
        rw [← er_2]
        rw [← er_4]
      have hg : fX5_lines x x1 x2 = (mkH r_4 (r_2 1) (r_2 2) (r_2 3) (r_2 4) (r_2 5) (r_2 6) (r_2 7) (r_2 8) (r_2 9 0) (r_2 9 1) (r_2 9 2 0) (r_2 9 2 1) (r_2 9 2 2) , (r_4 8 6) - ((r_2 0) 8 6)) := by have e2 := congrArg (fun z => z) e_6; exact hg.trans e2
      exact eE_i hC (by rw [hg]) ⟨b, ⟨hq, hAb⟩, by rw [hg]; exact hP⟩ hS dX5_lines_63
    · exact absurd k14 h2

theorem dX5_rest_0 : decode cX5_rest 0 = .ok (.iload_n 1, 1) := by decide +kernel
theorem dX5_rest_1 : decode cX5_rest 1 = .ok (.iconst 1, 1) := by decide +kernel
theorem dX5_rest_2 : decode cX5_rest 2 = .ok (.sipush 999, 3) := by decide +kernel
theorem dX5_rest_5 : decode cX5_rest 5 = .ok (.invokestatic 66, 3) := by decide +kernel
theorem dX5_rest_8 : decode cX5_rest 8 = .ok (.ifCond .ne 13, 3) := by decide +kernel
theorem dX5_rest_11 : decode cX5_rest 11 = .ok (.new 52, 3) := by decide +kernel
theorem dX5_rest_14 : decode cX5_rest 14 = .ok (.dup, 1) := by decide +kernel
theorem dX5_rest_15 : decode cX5_rest 15 = .ok (.ldc 85, 2) := by decide +kernel
theorem dX5_rest_17 : decode cX5_rest 17 = .ok (.invokespecial 56, 3) := by decide +kernel
theorem dX5_rest_20 : decode cX5_rest 20 = .ok (.athrow, 1) := by decide +kernel
theorem dX5_rest_21 : decode cX5_rest 21 = .ok (.aload_n 0, 1) := by decide +kernel
theorem dX5_rest_22 : decode cX5_rest 22 = .ok (.invokevirtual 59, 3) := by decide +kernel
theorem dX5_rest_25 : decode cX5_rest 25 = .ok (.aload_n 0, 1) := by decide +kernel
theorem dX5_rest_26 : decode cX5_rest 26 = .ok (.getfield 10, 3) := by decide +kernel
theorem dX5_rest_29 : decode cX5_rest 29 = .ok (.iload_n 1, 1) := by decide +kernel
theorem dX5_rest_30 : decode cX5_rest 30 = .ok (.invokevirtual 87, 3) := by decide +kernel
theorem dX5_rest_33 : decode cX5_rest 33 = .ok (.aload_n 0, 1) := by decide +kernel
theorem dX5_rest_34 : decode cX5_rest 34 = .ok (.getfield 10, 3) := by decide +kernel
theorem dX5_rest_37 : decode cX5_rest 37 = .ok (.invokevirtual 91, 3) := by decide +kernel
theorem dX5_rest_40 : decode cX5_rest 40 = .ok (.ireturn, 1) := by decide +kernel
set_option maxHeartbeats 1000000 in
set_option maxRecDepth 100000 in
theorem c_X5_rest (l : Launch) (G : GT) (a : Nat → Nat) (b0 : Nat → Nat) (x : HV) (x1 : Int32) (hq : hdD G a b0) (hI : le_n (x 9 2 0) 6) (h1 : ¬ fX5_isWithin x1 1 999 = 0) : Met l yX5_rest (Cond.code yX5_rest cX5_rest 2 (some .int) :: bigW) ({ frames := 5, cells := 0, slots := 0, locals := 114 }) (BP G [.ref (a 0), .int x1] (fun U H => PW G (hdW G a b0 x) H)) (QE (some (.int (fX5_rest x x1).2)) (fun H => ∃ b', hdR G a b0 b' ∧ PW G (hdW G a b' (fX5_rest x x1).1) H) (hdA a b0)) 0 0 (hdA a b0) := by
  refine met_of (by decide) (Nat.le_of_ble_eq_true rfl) ?_
  intro p e s m below meth c ls hC hKN hB0 hl
  have hP := hB0
  have hl : lv_has ls 2 [(0, .ref (a 0)), (1, .int x1)] := hl
  have hS : va_S (hdA a b0) s.heap s.heap [] := va_S.rf
  have hAL : ∀ z, (hdA a b0) z → gL G ≤ z := hdD_low hq
  obtain ⟨b, hbe⟩ : ∃ b, b = b0 := ⟨_, rfl⟩
  rw [← hbe] at hP
  have hq0 := hq
  rw [← hbe] at hq
  have hAb : ∀ z, hdA a b z → hdA a b0 z := by rw [hbe]; exact fun _ h => h
  have hg : fX5_rest x x1 = fX5_rest x x1 := rfl
  refine lv_iload_n hC.1 hC.2.1 dX5_rest_0 rfl (lv_at hl 1 rfl) ?_
  refine lv_iconst (v := 1) hC.1 hC.2.1 dX5_rest_1 (by decide) ?_
  refine lv_sipush (v := 999) hC.1 hC.2.1 dX5_rest_2 (by decide +kernel) ?_
  refine runP (rS (B := fun U H => True) (As := [.int x1, .int 1, .int 999]) (rest := []) hC mwX5_isWithin (c_X5_isWithin l G x1 1 999) wd_239 wd_238 ⟨rfl, rfl⟩ ⟨Nat.le_of_ble_eq_true rfl, Nat.le_of_ble_eq_true rfl⟩ (fun _ _ _ _ h => h) hKN trivial rfl hl.1 rfl (Nat.le_of_ble_eq_true rfl) dX5_rest_5 ⟨Nat.zero_le _, Nat.zero_le _⟩) ?_
  refine lv_if_ne (tgt := 21) hC.1 hC.2.1 dX5_rest_8 (by decide) (fun k8 => ?_) (fun k8 => ?_)
  · refine lv_aload_n hC.1 hC.2.1 dX5_rest_21 rfl (lv_at hl 0 rfl) ?_
    refine runE (rV (B := fun U H => PW G (hdW G a b x) H) (As := []) (rest := []) hC mwX5_saveState (c_X5_saveState l G a b x hq hI) iwX5_saveState wd_602 ⟨rfl, rfl⟩ ⟨Nat.le_of_ble_eq_true rfl, Nat.le_of_ble_eq_true rfl⟩ (stb_h (fun H => PW G (hdW G a b x) H)) hKN hP (va_recv hKN.k hP (ci := 5) (q0 := 0) rfl rfl) rfl hl.1 rfl (Nat.le_of_ble_eq_true rfl) dX5_rest_22 ⟨Nat.zero_le _, Nat.zero_le _⟩) hS (fun _ h => hAb _ h) (fun _ h => hAb _ h) (fun H locs hq_1 _ _ hS => ?_)
    obtain ⟨b, ⟨hq, hR⟩, hP⟩ := hq_1
    have hAb := fun z h => hAb z (hR z h)
    obtain ⟨r_2, er_2⟩ : ∃ z, z = fX5_saveState x := ⟨_, rfl⟩
    rw [← er_2] at hP
    have hI : True := trivial
    refine lv_aload_n hC.1 hC.2.1 dX5_rest_25 rfl (lv_at hl 0 rfl) ?_
    refine gf (v := .ref (a 5)) hC fwX5 (hKN.go hAL hS) hP 0 rfl rfl 0 (by decide) rfl wd_189 rfl dX5_rest_26 ?_
    refine lv_iload_n hC.1 hC.2.1 dX5_rest_29 rfl (lv_at hl 1 rfl) ?_
    refine runE (rV (B := fun U H => PW G (stW G (sA a 0) (r_2 0)) H) (As := [.int x1]) (rest := []) hC mwX2_passTime (c_X2_passTime l G (sA a 0) (r_2 0) x1 (hdD_st hq 0 (by decide))) iwX2_passTime wd_628 ⟨rfl, rfl⟩ ⟨Nat.le_of_ble_eq_true rfl, Nat.le_of_ble_eq_true rfl⟩ (stb_h (fun H => PW G (stW G (sA a 0) (r_2 0)) H)) (hKN.go hAL hS) (hd_st0 (x := r_2) hP) (va_recv (hKN.go hAL hS).k (hd_st0 (x := r_2) hP) (ci := 2) (q0 := 0) rfl rfl) rfl hl.1 rfl (Nat.le_of_ble_eq_true rfl) dX5_rest_30 ⟨Nat.zero_le _, Nat.zero_le _⟩) hS (fun _ h => hAb _ (hdA_st (by decide) h)) (fun _ h => hAb _ (hdA_st (by decide) h)) (fun H locs hq_3 _ hk_5 hS => ?_)
    have hP : PW G (hdW G a b (mkH (fX2_passTime (r_2 0) x1) (r_2 1) (r_2 2) (r_2 3) (r_2 4) (r_2 5) (r_2 6) (r_2 7) (r_2 8) (r_2 9 0) (r_2 9 1) (r_2 9 2 0) (r_2 9 2 1) (r_2 9 2 2))) H := hd_set0 (x := r_2) hq hP hq_3 hk_5
    obtain ⟨r_4, er_4⟩ : ∃ z, z = fX2_passTime (r_2 0) x1 := ⟨_, rfl⟩
    rw [← er_4] at hP
    have hI : True := trivial
    refine lv_aload_n hC.1 hC.2.1 dX5_rest_33 rfl (lv_at hl 0 rfl) ?_
    refine gf (v := .ref (a 5)) hC fwX5 (hKN.go hAL hS) hP 0 rfl rfl 0 (by decide) rfl wd_189 rfl dX5_rest_34 ?_
    refine runP (rV (B := fun U H => PW G (stW G (sA a 0) r_4) H) (As := []) (rest := []) hC mwX2_hottestDot (c_X2_hottestDot l G (sA a 0) r_4) iwX2_hottestDot wd_370 ⟨rfl, rfl⟩ ⟨Nat.le_of_ble_eq_true rfl, Nat.le_of_ble_eq_true rfl⟩ (stb_h (fun H => PW G (stW G (sA a 0) r_4) H)) (hKN.go hAL hS) (hd_st0 (x := mkH r_4 (r_2 1) (r_2 2) (r_2 3) (r_2 4) (r_2 5) (r_2 6) (r_2 7) (r_2 8) (r_2 9 0) (r_2 9 1) (r_2 9 2 0) (r_2 9 2 1) (r_2 9 2 2)) hP) (va_recv (hKN.go hAL hS).k (hd_st0 (x := mkH r_4 (r_2 1) (r_2 2) (r_2 3) (r_2 4) (r_2 5) (r_2 6) (r_2 7) (r_2 8) (r_2 9 0) (r_2 9 1) (r_2 9 2 0) (r_2 9 2 1) (r_2 9 2 2)) hP) (ci := 2) (q0 := 0) rfl rfl) rfl hl.1 rfl (Nat.le_of_ble_eq_true rfl) dX5_rest_37 ⟨Nat.zero_le _, Nat.zero_le _⟩) ?_
    have e_6 : fX5_rest x x1 = (mkH r_4 (r_2 1) (r_2 2) (r_2 3) (r_2 4) (r_2 5) (r_2 6) (r_2 7) (r_2 8) (r_2 9 0) (r_2 9 1) (r_2 9 2 0) (r_2 9 2 1) (r_2 9 2 2) , fX2_hottestDot r_4) := by
      delta fX5_rest
      try dsimp only
      rw [← er_2]
      rw [← er_4]
    have hg : fX5_rest x x1 = (mkH r_4 (r_2 1) (r_2 2) (r_2 3) (r_2 4) (r_2 5) (r_2 6) (r_2 7) (r_2 8) (r_2 9 0) (r_2 9 1) (r_2 9 2 0) (r_2 9 2 1) (r_2 9 2 2) , fX2_hottestDot r_4) := by have e2 := congrArg (fun z => z) e_6; exact hg.trans e2
    exact eE_i hC (by rw [hg]) ⟨b, ⟨hq, hAb⟩, by rw [hg]; exact hP⟩ hS dX5_rest_40
  · exact absurd k8 h1

theorem dX5_paper_0 : decode cX5_paper 0 = .ok (.iload_n 1, 1) := by decide +kernel
theorem dX5_paper_1 : decode cX5_paper 1 = .ok (.iconst 0, 1) := by decide +kernel
theorem dX5_paper_2 : decode cX5_paper 2 = .ok (.iconst 2, 1) := by decide +kernel
theorem dX5_paper_3 : decode cX5_paper 3 = .ok (.invokestatic 66, 3) := by decide +kernel
theorem dX5_paper_6 : decode cX5_paper 6 = .ok (.ifCond .ne 13, 3) := by decide +kernel
theorem dX5_paper_9 : decode cX5_paper 9 = .ok (.new 52, 3) := by decide +kernel
theorem dX5_paper_12 : decode cX5_paper 12 = .ok (.dup, 1) := by decide +kernel
theorem dX5_paper_13 : decode cX5_paper 13 = .ok (.ldc 95, 2) := by decide +kernel
theorem dX5_paper_15 : decode cX5_paper 15 = .ok (.invokespecial 56, 3) := by decide +kernel
theorem dX5_paper_18 : decode cX5_paper 18 = .ok (.athrow, 1) := by decide +kernel
theorem dX5_paper_19 : decode cX5_paper 19 = .ok (.aload_n 0, 1) := by decide +kernel
theorem dX5_paper_20 : decode cX5_paper 20 = .ok (.invokevirtual 59, 3) := by decide +kernel
theorem dX5_paper_23 : decode cX5_paper 23 = .ok (.aload_n 0, 1) := by decide +kernel
theorem dX5_paper_24 : decode cX5_paper 24 = .ok (.getfield 10, 3) := by decide +kernel
theorem dX5_paper_27 : decode cX5_paper 27 = .ok (.getfield 97, 3) := by decide +kernel
theorem dX5_paper_30 : decode cX5_paper 30 = .ok (.getfield 101, 3) := by decide +kernel
theorem dX5_paper_33 : decode cX5_paper 33 = .ok (.istore_n 2, 1) := by decide +kernel
theorem dX5_paper_34 : decode cX5_paper 34 = .ok (.aload_n 0, 1) := by decide +kernel
theorem dX5_paper_35 : decode cX5_paper 35 = .ok (.getfield 10, 3) := by decide +kernel
theorem dX5_paper_38 : decode cX5_paper 38 = .ok (.iload_n 1, 1) := by decide +kernel
theorem dX5_paper_39 : decode cX5_paper 39 = .ok (.invokevirtual 106, 3) := by decide +kernel
theorem dX5_paper_42 : decode cX5_paper 42 = .ok (.iload_n 2, 1) := by decide +kernel
theorem dX5_paper_43 : decode cX5_paper 43 = .ok (.ireturn, 1) := by decide +kernel
set_option maxHeartbeats 1000000 in
set_option maxRecDepth 100000 in
theorem c_X5_paper (l : Launch) (G : GT) (a : Nat → Nat) (b0 : Nat → Nat) (x : HV) (x1 : Int32) (hq : hdD G a b0) (hI : le_n (x 9 2 0) 6) (h1 : ¬ fX5_isWithin x1 0 2 = 0) : Met l yX5_paper (Cond.code yX5_paper cX5_paper 3 (some .int) :: bigW) ({ frames := 5, cells := 0, slots := 0, locals := 114 }) (BP G [.ref (a 0), .int x1] (fun U H => PW G (hdW G a b0 x) H)) (QE (some (.int (fX5_paper x x1).2)) (fun H => ∃ b', hdR G a b0 b' ∧ PW G (hdW G a b' (fX5_paper x x1).1) H) (hdA a b0)) 0 0 (hdA a b0) := by
  refine met_of (by decide) (Nat.le_of_ble_eq_true rfl) ?_
  intro p e s m below meth c ls hC hKN hB0 hl
  have hP := hB0
  have hl : lv_has ls 3 [(0, .ref (a 0)), (1, .int x1)] := hl
  have hS : va_S (hdA a b0) s.heap s.heap [] := va_S.rf
  have hAL : ∀ z, (hdA a b0) z → gL G ≤ z := hdD_low hq
  obtain ⟨b, hbe⟩ : ∃ b, b = b0 := ⟨_, rfl⟩
  rw [← hbe] at hP
  have hq0 := hq
  rw [← hbe] at hq
  have hAb : ∀ z, hdA a b z → hdA a b0 z := by rw [hbe]; exact fun _ h => h
  have hg : fX5_paper x x1 = fX5_paper x x1 := rfl
  refine lv_iload_n hC.1 hC.2.1 dX5_paper_0 rfl (lv_at hl 1 rfl) ?_
  refine lv_iconst (v := 0) hC.1 hC.2.1 dX5_paper_1 (by decide) ?_
  refine lv_iconst (v := 2) hC.1 hC.2.1 dX5_paper_2 (by decide) ?_
  refine runP (rS (B := fun U H => True) (As := [.int x1, .int 0, .int 2]) (rest := []) hC mwX5_isWithin (c_X5_isWithin l G x1 0 2) wd_239 wd_238 ⟨rfl, rfl⟩ ⟨Nat.le_of_ble_eq_true rfl, Nat.le_of_ble_eq_true rfl⟩ (fun _ _ _ _ h => h) hKN trivial rfl hl.1 rfl (Nat.le_of_ble_eq_true rfl) dX5_paper_3 ⟨Nat.zero_le _, Nat.zero_le _⟩) ?_
  refine lv_if_ne (tgt := 19) hC.1 hC.2.1 dX5_paper_6 (by decide) (fun k6 => ?_) (fun k6 => ?_)
  · refine lv_aload_n hC.1 hC.2.1 dX5_paper_19 rfl (lv_at hl 0 rfl) ?_
    refine runE (rV (B := fun U H => PW G (hdW G a b x) H) (As := []) (rest := []) hC mwX5_saveState (c_X5_saveState l G a b x hq hI) iwX5_saveState wd_602 ⟨rfl, rfl⟩ ⟨Nat.le_of_ble_eq_true rfl, Nat.le_of_ble_eq_true rfl⟩ (stb_h (fun H => PW G (hdW G a b x) H)) hKN hP (va_recv hKN.k hP (ci := 5) (q0 := 0) rfl rfl) rfl hl.1 rfl (Nat.le_of_ble_eq_true rfl) dX5_paper_20 ⟨Nat.zero_le _, Nat.zero_le _⟩) hS (fun _ h => hAb _ h) (fun _ h => hAb _ h) (fun H locs hq_1 _ _ hS => ?_)
    obtain ⟨b, ⟨hq, hR⟩, hP⟩ := hq_1
    have hAb := fun z h => hAb z (hR z h)
    obtain ⟨r_2, er_2⟩ : ∃ z, z = fX5_saveState x := ⟨_, rfl⟩
    rw [← er_2] at hP
    have hI : True := trivial
    refine lv_aload_n hC.1 hC.2.1 dX5_paper_23 rfl (lv_at hl 0 rfl) ?_
    refine gf (v := .ref (a 5)) hC fwX5 (hKN.go hAL hS) hP 0 rfl rfl 0 (by decide) rfl wd_189 rfl dX5_paper_24 ?_
    refine gfN (v := .ref (sA a 0 4)) hC fwX2 (hKN.go hAL hS) hP 5 rfl rfl 3 (by decide) rfl (nf_15 (hKN.go hAL hS)) rfl dX5_paper_27 ?_
    refine gfN (v := .int ((r_2 0) 8 0)) hC fwX3 (hKN.go hAL hS) hP 9 rfl rfl 3 (by decide) rfl (nf_2 (hKN.go hAL hS)) rfl dX5_paper_30 ?_
    refine lv_istore_n (lv' := [(2, .int ((r_2 0) 8 0)), (0, .ref (a 0)), (1, .int x1)]) hC.1 hC.2.1 dX5_paper_33 rfl hl (by decide) rfl (fun ls hl => ?_)
    refine lv_aload_n hC.1 hC.2.1 dX5_paper_34 rfl (lv_at hl 1 rfl) ?_
    refine gf (v := .ref (a 5)) hC fwX5 (hKN.go hAL hS) hP 0 rfl rfl 0 (by decide) rfl wd_189 rfl dX5_paper_35 ?_
    refine lv_iload_n hC.1 hC.2.1 dX5_paper_38 rfl (lv_at hl 2 rfl) ?_
    refine runE (rV (B := fun U H => PW G (stW G (sA a 0) (r_2 0)) H) (As := [.int x1]) (rest := []) hC mwX2_changePaper (c_X2_changePaper l G (sA a 0) (r_2 0) x1 (hdD_st hq 0 (by decide))) iwX2_changePaper wd_619 ⟨rfl, rfl⟩ ⟨Nat.le_of_ble_eq_true rfl, Nat.le_of_ble_eq_true rfl⟩ (stb_h (fun H => PW G (stW G (sA a 0) (r_2 0)) H)) (hKN.go hAL hS) (hd_st0 (x := r_2) hP) (va_recv (hKN.go hAL hS).k (hd_st0 (x := r_2) hP) (ci := 2) (q0 := 0) rfl rfl) rfl hl.1 rfl (Nat.le_of_ble_eq_true rfl) dX5_paper_39 ⟨Nat.zero_le _, Nat.zero_le _⟩) hS (fun _ h => hAb _ (hdA_st (by decide) h)) (fun _ h => hAb _ (hdA_st (by decide) h)) (fun H locs hq_3 _ hk_5 hS => ?_)
    have hP : PW G (hdW G a b (mkH (fX2_changePaper (r_2 0) x1) (r_2 1) (r_2 2) (r_2 3) (r_2 4) (r_2 5) (r_2 6) (r_2 7) (r_2 8) (r_2 9 0) (r_2 9 1) (r_2 9 2 0) (r_2 9 2 1) (r_2 9 2 2))) H := hd_set0 (x := r_2) hq hP hq_3 hk_5
    obtain ⟨r_4, er_4⟩ : ∃ z, z = fX2_changePaper (r_2 0) x1 := ⟨_, rfl⟩
    rw [← er_4] at hP
    have hI : True := trivial
    refine lv_iload_n hC.1 hC.2.1 dX5_paper_42 rfl (lv_at hl 0 rfl) ?_
    have e_6 : fX5_paper x x1 = (mkH r_4 (r_2 1) (r_2 2) (r_2 3) (r_2 4) (r_2 5) (r_2 6) (r_2 7) (r_2 8) (r_2 9 0) (r_2 9 1) (r_2 9 2 0) (r_2 9 2 1) (r_2 9 2 2) , (r_2 0) 8 0) := by
      delta fX5_paper
      try dsimp only
      rw [← er_2]
      rw [← er_4]
    have hg : fX5_paper x x1 = (mkH r_4 (r_2 1) (r_2 2) (r_2 3) (r_2 4) (r_2 5) (r_2 6) (r_2 7) (r_2 8) (r_2 9 0) (r_2 9 1) (r_2 9 2 0) (r_2 9 2 1) (r_2 9 2 2) , (r_2 0) 8 0) := by have e2 := congrArg (fun z => z) e_6; exact hg.trans e2
    exact eE_i hC (by rw [hg]) ⟨b, ⟨hq, hAb⟩, by rw [hg]; exact hP⟩ hS dX5_paper_43
  · exact absurd k6 h1

theorem dX5_set_0 : decode cX5_set 0 = .ok (.iload_n 1, 1) := by decide +kernel
theorem dX5_set_1 : decode cX5_set 1 = .ok (.iconst 0, 1) := by decide +kernel
theorem dX5_set_2 : decode cX5_set 2 = .ok (.bipush 6, 2) := by decide +kernel
theorem dX5_set_4 : decode cX5_set 4 = .ok (.invokestatic 66, 3) := by decide +kernel
theorem dX5_set_7 : decode cX5_set 7 = .ok (.ifCond .ne 13, 3) := by decide +kernel
theorem dX5_set_10 : decode cX5_set 10 = .ok (.new 109, 3) := by decide +kernel
theorem dX5_set_13 : decode cX5_set 13 = .ok (.dup, 1) := by decide +kernel
theorem dX5_set_14 : decode cX5_set 14 = .ok (.ldc 111, 2) := by decide +kernel
theorem dX5_set_16 : decode cX5_set 16 = .ok (.invokespecial 113, 3) := by decide +kernel
theorem dX5_set_19 : decode cX5_set 19 = .ok (.athrow, 1) := by decide +kernel
theorem dX5_set_20 : decode cX5_set 20 = .ok (.iload_n 2, 1) := by decide +kernel
theorem dX5_set_21 : decode cX5_set 21 = .ok (.getstatic 114, 3) := by decide +kernel
theorem dX5_set_24 : decode cX5_set 24 = .ok (.iload_n 1, 1) := by decide +kernel
theorem dX5_set_25 : decode cX5_set 25 = .ok (.invokestatic 118, 3) := by decide +kernel
theorem dX5_set_28 : decode cX5_set 28 = .ok (.getstatic 122, 3) := by decide +kernel
theorem dX5_set_31 : decode cX5_set 31 = .ok (.iload_n 1, 1) := by decide +kernel
theorem dX5_set_32 : decode cX5_set 32 = .ok (.invokestatic 118, 3) := by decide +kernel
theorem dX5_set_35 : decode cX5_set 35 = .ok (.invokestatic 66, 3) := by decide +kernel
theorem dX5_set_38 : decode cX5_set 38 = .ok (.ifCond .ne 13, 3) := by decide +kernel
theorem dX5_set_41 : decode cX5_set 41 = .ok (.new 52, 3) := by decide +kernel
theorem dX5_set_44 : decode cX5_set 44 = .ok (.dup, 1) := by decide +kernel
theorem dX5_set_45 : decode cX5_set 45 = .ok (.ldc 125, 2) := by decide +kernel
theorem dX5_set_47 : decode cX5_set 47 = .ok (.invokespecial 56, 3) := by decide +kernel
theorem dX5_set_50 : decode cX5_set 50 = .ok (.athrow, 1) := by decide +kernel
theorem dX5_set_51 : decode cX5_set 51 = .ok (.aload_n 0, 1) := by decide +kernel
theorem dX5_set_52 : decode cX5_set 52 = .ok (.invokevirtual 59, 3) := by decide +kernel
theorem dX5_set_55 : decode cX5_set 55 = .ok (.aload_n 0, 1) := by decide +kernel
theorem dX5_set_56 : decode cX5_set 56 = .ok (.getfield 10, 3) := by decide +kernel
theorem dX5_set_59 : decode cX5_set 59 = .ok (.iload_n 1, 1) := by decide +kernel
theorem dX5_set_60 : decode cX5_set 60 = .ok (.invokevirtual 127, 3) := by decide +kernel
theorem dX5_set_63 : decode cX5_set 63 = .ok (.istore_n 3, 1) := by decide +kernel
theorem dX5_set_64 : decode cX5_set 64 = .ok (.aload_n 0, 1) := by decide +kernel
theorem dX5_set_65 : decode cX5_set 65 = .ok (.getfield 10, 3) := by decide +kernel
theorem dX5_set_68 : decode cX5_set 68 = .ok (.iload_n 1, 1) := by decide +kernel
theorem dX5_set_69 : decode cX5_set 69 = .ok (.iload_n 2, 1) := by decide +kernel
theorem dX5_set_70 : decode cX5_set 70 = .ok (.invokevirtual 129, 3) := by decide +kernel
theorem dX5_set_73 : decode cX5_set 73 = .ok (.iload_n 3, 1) := by decide +kernel
theorem dX5_set_74 : decode cX5_set 74 = .ok (.ireturn, 1) := by decide +kernel
set_option maxHeartbeats 1000000 in
set_option maxRecDepth 100000 in
theorem c_X5_set (l : Launch) (G : GT) (a : Nat → Nat) (b0 : Nat → Nat) (x : HV) (x1 : Int32) (x2 : Int32) (hq : hdD G a b0) (hI : le_n (x 9 2 0) 6) (h1 : ¬ fX5_isWithin x1 0 6 = 0) (h2 : ¬ fX5_isWithin x2 (fX5_at 7 st1 x1) (fX5_at 7 st2 x1) = 0) : Met l yX5_set (Cond.code yX5_set cX5_set 4 (some .int) :: bigW) ({ frames := 5, cells := 0, slots := 0, locals := 114 }) (BP G [.ref (a 0), .int x1, .int x2] (fun U H => PW G (hdW G a b0 x) H)) (QE (some (.int (fX5_set x x1 x2).2)) (fun H => ∃ b', hdR G a b0 b' ∧ PW G (hdW G a b' (fX5_set x x1 x2).1) H) (hdA a b0)) 0 0 (hdA a b0) := by
  refine met_of (by decide) (Nat.le_of_ble_eq_true rfl) ?_
  intro p e s m below meth c ls hC hKN hB0 hl
  have hP := hB0
  have hl : lv_has ls 4 [(0, .ref (a 0)), (1, .int x1), (2, .int x2)] := hl
  have hS : va_S (hdA a b0) s.heap s.heap [] := va_S.rf
  have hAL : ∀ z, (hdA a b0) z → gL G ≤ z := hdD_low hq
  obtain ⟨b, hbe⟩ : ∃ b, b = b0 := ⟨_, rfl⟩
  rw [← hbe] at hP
  have hq0 := hq
  rw [← hbe] at hq
  have hAb : ∀ z, hdA a b z → hdA a b0 z := by rw [hbe]; exact fun _ h => h
  have hg : fX5_set x x1 x2 = fX5_set x x1 x2 := rfl
  refine lv_iload_n hC.1 hC.2.1 dX5_set_0 rfl (lv_at hl 1 rfl) ?_
  refine lv_iconst (v := 0) hC.1 hC.2.1 dX5_set_1 (by decide) ?_
  refine lv_bipush (v := 6) hC.1 hC.2.1 dX5_set_2 (by decide +kernel) ?_
  refine runP (rS (B := fun U H => True) (As := [.int x1, .int 0, .int 6]) (rest := []) hC mwX5_isWithin (c_X5_isWithin l G x1 0 6) wd_239 wd_238 ⟨rfl, rfl⟩ ⟨Nat.le_of_ble_eq_true rfl, Nat.le_of_ble_eq_true rfl⟩ (fun _ _ _ _ h => h) hKN trivial rfl hl.1 rfl (Nat.le_of_ble_eq_true rfl) dX5_set_4 ⟨Nat.zero_le _, Nat.zero_le _⟩) ?_
  refine lv_if_ne (tgt := 20) hC.1 hC.2.1 dX5_set_7 (by decide) (fun k7 => ?_) (fun k7 => ?_)
  · refine lv_iload_n hC.1 hC.2.1 dX5_set_20 rfl (lv_at hl 2 rfl) ?_
    refine gs hC (hKN.2.2.1 1 (by decide)).1 wd_598 dX5_set_21 ?_
    refine lv_iload_n hC.1 hC.2.1 dX5_set_24 rfl (lv_at hl 1 rfl) ?_
    refine runP (rS (B := fun U H => RD (gA G 1) 7 st1 U H) (As := [.ref (gA G 1), .int x1]) (rest := [.int x2]) hC mwX5_at (c_X5_at l G (gA G 1) 7 st1 x1) wd_328 wd_599 ⟨rfl, rfl⟩ ⟨Nat.le_of_ble_eq_true rfl, Nat.le_of_ble_eq_true rfl⟩ (stb_RD _ _ _) hKN (hKN.rd 1 (by decide)) rfl hl.1 rfl (Nat.le_of_ble_eq_true rfl) dX5_set_25 ⟨Nat.zero_le _, Nat.zero_le _⟩) ?_
    refine gs hC (hKN.2.2.1 2 (by decide)).1 wd_600 dX5_set_28 ?_
    refine lv_iload_n hC.1 hC.2.1 dX5_set_31 rfl (lv_at hl 1 rfl) ?_
    refine runP (rS (B := fun U H => RD (gA G 2) 7 st2 U H) (As := [.ref (gA G 2), .int x1]) (rest := [.int (fX5_at 7 st1 x1), .int x2]) hC mwX5_at (c_X5_at l G (gA G 2) 7 st2 x1) wd_328 wd_599 ⟨rfl, rfl⟩ ⟨Nat.le_of_ble_eq_true rfl, Nat.le_of_ble_eq_true rfl⟩ (stb_RD _ _ _) hKN (hKN.rd 2 (by decide)) rfl hl.1 rfl (Nat.le_of_ble_eq_true rfl) dX5_set_32 ⟨Nat.zero_le _, Nat.zero_le _⟩) ?_
    refine runP (rS (B := fun U H => True) (As := [.int x2, .int (fX5_at 7 st1 x1), .int (fX5_at 7 st2 x1)]) (rest := []) hC mwX5_isWithin (c_X5_isWithin l G x2 (fX5_at 7 st1 x1) (fX5_at 7 st2 x1)) wd_239 wd_238 ⟨rfl, rfl⟩ ⟨Nat.le_of_ble_eq_true rfl, Nat.le_of_ble_eq_true rfl⟩ (fun _ _ _ _ h => h) hKN trivial rfl hl.1 rfl (Nat.le_of_ble_eq_true rfl) dX5_set_35 ⟨Nat.zero_le _, Nat.zero_le _⟩) ?_
    refine lv_if_ne (tgt := 51) hC.1 hC.2.1 dX5_set_38 (by decide) (fun k38 => ?_) (fun k38 => ?_)
    · refine lv_aload_n hC.1 hC.2.1 dX5_set_51 rfl (lv_at hl 0 rfl) ?_
      refine runE (rV (B := fun U H => PW G (hdW G a b x) H) (As := []) (rest := []) hC mwX5_saveState (c_X5_saveState l G a b x hq hI) iwX5_saveState wd_602 ⟨rfl, rfl⟩ ⟨Nat.le_of_ble_eq_true rfl, Nat.le_of_ble_eq_true rfl⟩ (stb_h (fun H => PW G (hdW G a b x) H)) hKN hP (va_recv hKN.k hP (ci := 5) (q0 := 0) rfl rfl) rfl hl.1 rfl (Nat.le_of_ble_eq_true rfl) dX5_set_52 ⟨Nat.zero_le _, Nat.zero_le _⟩) hS (fun _ h => hAb _ h) (fun _ h => hAb _ h) (fun H locs hq_1 _ _ hS => ?_)
      obtain ⟨b, ⟨hq, hR⟩, hP⟩ := hq_1
      have hAb := fun z h => hAb z (hR z h)
      obtain ⟨r_2, er_2⟩ : ∃ z, z = fX5_saveState x := ⟨_, rfl⟩
      rw [← er_2] at hP
      have hI : True := trivial
      refine lv_aload_n hC.1 hC.2.1 dX5_set_55 rfl (lv_at hl 0 rfl) ?_
      refine gf (v := .ref (a 5)) hC fwX5 (hKN.go hAL hS) hP 0 rfl rfl 0 (by decide) rfl wd_189 rfl dX5_set_56 ?_
      refine lv_iload_n hC.1 hC.2.1 dX5_set_59 rfl (lv_at hl 1 rfl) ?_
      refine runP (rV (B := fun U H => PW G (stW G (sA a 0) (r_2 0)) H) (As := [.int x1]) (rest := []) hC mwX2_setting (c_X2_setting l G (sA a 0) (r_2 0) x1) iwX2_setting wd_374 ⟨rfl, rfl⟩ ⟨Nat.le_of_ble_eq_true rfl, Nat.le_of_ble_eq_true rfl⟩ (stb_h (fun H => PW G (stW G (sA a 0) (r_2 0)) H)) (hKN.go hAL hS) (hd_st0 (x := r_2) hP) (va_recv (hKN.go hAL hS).k (hd_st0 (x := r_2) hP) (ci := 2) (q0 := 0) rfl rfl) rfl hl.1 rfl (Nat.le_of_ble_eq_true rfl) dX5_set_60 ⟨Nat.zero_le _, Nat.zero_le _⟩) ?_
      refine lv_istore_n (lv' := [(3, .int (fX2_setting (r_2 0) x1)), (0, .ref (a 0)), (1, .int x1), (2, .int x2)]) hC.1 hC.2.1 dX5_set_63 rfl hl (by decide) rfl (fun ls hl => ?_)
      refine lv_aload_n hC.1 hC.2.1 dX5_set_64 rfl (lv_at hl 1 rfl) ?_
      refine gf (v := .ref (a 5)) hC fwX5 (hKN.go hAL hS) hP 0 rfl rfl 0 (by decide) rfl wd_189 rfl dX5_set_65 ?_
      refine lv_iload_n hC.1 hC.2.1 dX5_set_68 rfl (lv_at hl 2 rfl) ?_
      refine lv_iload_n hC.1 hC.2.1 dX5_set_69 rfl (lv_at hl 3 rfl) ?_
      refine runE (rV (B := fun U H => PW G (stW G (sA a 0) (r_2 0)) H) (As := [.int x1, .int x2]) (rest := []) hC mwX2_changeSetting (c_X2_changeSetting l G (sA a 0) (r_2 0) x1 x2 (hdD_st hq 0 (by decide))) iwX2_changeSetting wd_472 ⟨rfl, rfl⟩ ⟨Nat.le_of_ble_eq_true rfl, Nat.le_of_ble_eq_true rfl⟩ (stb_h (fun H => PW G (stW G (sA a 0) (r_2 0)) H)) (hKN.go hAL hS) (hd_st0 (x := r_2) hP) (va_recv (hKN.go hAL hS).k (hd_st0 (x := r_2) hP) (ci := 2) (q0 := 0) rfl rfl) rfl hl.1 rfl (Nat.le_of_ble_eq_true rfl) dX5_set_70 ⟨Nat.zero_le _, Nat.zero_le _⟩) hS (fun _ h => hAb _ (hdA_st (by decide) h)) (fun _ h => hAb _ (hdA_st (by decide) h)) (fun H locs hq_3 _ hk_5 hS => ?_)
      have hP : PW G (hdW G a b (mkH (fX2_changeSetting (r_2 0) x1 x2) (r_2 1) (r_2 2) (r_2 3) (r_2 4) (r_2 5) (r_2 6) (r_2 7) (r_2 8) (r_2 9 0) (r_2 9 1) (r_2 9 2 0) (r_2 9 2 1) (r_2 9 2 2))) H := hd_set0 (x := r_2) hq hP hq_3 hk_5
      obtain ⟨r_4, er_4⟩ : ∃ z, z = fX2_changeSetting (r_2 0) x1 x2 := ⟨_, rfl⟩
      rw [← er_4] at hP
      have hI : True := trivial
      refine lv_iload_n hC.1 hC.2.1 dX5_set_73 rfl (lv_at hl 0 rfl) ?_
      have e_6 : fX5_set x x1 x2 = (mkH r_4 (r_2 1) (r_2 2) (r_2 3) (r_2 4) (r_2 5) (r_2 6) (r_2 7) (r_2 8) (r_2 9 0) (r_2 9 1) (r_2 9 2 0) (r_2 9 2 1) (r_2 9 2 2) , fX2_setting (r_2 0) x1) := by
        delta fX5_set
        try dsimp only
        rw [← er_2]
        rw [← er_4]
      have hg : fX5_set x x1 x2 = (mkH r_4 (r_2 1) (r_2 2) (r_2 3) (r_2 4) (r_2 5) (r_2 6) (r_2 7) (r_2 8) (r_2 9 0) (r_2 9 1) (r_2 9 2 0) (r_2 9 2 1) (r_2 9 2 2) , fX2_setting (r_2 0) x1) := by have e2 := congrArg (fun z => z) e_6; exact hg.trans e2
      exact eE_i hC (by rw [hg]) ⟨b, ⟨hq, hAb⟩, by rw [hg]; exact hP⟩ hS dX5_set_74
    · exact absurd k38 h2
  · exact absurd k7 h1
