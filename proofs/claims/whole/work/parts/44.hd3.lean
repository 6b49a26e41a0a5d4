def tX5_digest_6 (x : HV) (v_6 : HV) (s : Int64) : HV × Int64 := let y1_6 := s; let r_2 := fX5_mixedTrials v_6 (fX5_mixedStrip v_6 (fX5_mixedDots v_6 y1_6))
  let r_4 := fX5_fasterWay r_2.1 65535
  (r_4.1, fX5_mixedBuffer r_4.1 (fX5_mixed (fX5_mixed (fX5_mixed (fX5_mixed (fX5_mixed r_2.2 r_4.2.toInt64) ((fX2_timeUntilCool (r_4.1 0) 50).toInt64)) ((fX2_leastDarkSetting (r_4.1 0) 0).toInt64)) (fX5_bitsOfDouble (fX4_darkShare (r_4.1 0)))) ((fX5_bitsOfFloat (fX2_mean (r_4.1 0))).toInt64)))
def bX5_digest_6 (x : HV) (v_6 : HV) (d6 : Nat) (s : Int64) : Int64 := let y1_6 := s; fX5_mixed y1_6 ((fX5_counted v_6 (nI d6)).toInt64)
def fX5_digest (x : HV) : HV × Int64 := tX5_digest_6 x x (lpF 19 0 (bX5_digest_6 x x) 3833)
theorem dX5_digest_0 : decode cX5_digest 0 = .ok (.ldc2_w 236, 3) := by decide +kernel
theorem dX5_digest_3 : decode cX5_digest 3 = .ok (.lstore_n 1, 1) := by decide +kernel
theorem dX5_digest_4 : decode cX5_digest 4 = .ok (.iconst 0, 1) := by decide +kernel
theorem dX5_digest_5 : decode cX5_digest 5 = .ok (.istore_n 3, 1) := by decide +kernel
theorem dX5_digest_6 : decode cX5_digest 6 = .ok (.iload_n 3, 1) := by decide +kernel
theorem dX5_digest_7 : decode cX5_digest 7 = .ok (.bipush 19, 2) := by decide +kernel
theorem dX5_digest_9 : decode cX5_digest 9 = .ok (.if_icmp .ge 20, 3) := by decide +kernel
theorem dX5_digest_12 : decode cX5_digest 12 = .ok (.lload_n 1, 1) := by decide +kernel
theorem dX5_digest_13 : decode cX5_digest 13 = .ok (.aload_n 0, 1) := by decide +kernel
theorem dX5_digest_14 : decode cX5_digest 14 = .ok (.iload_n 3, 1) := by decide +kernel
theorem dX5_digest_15 : decode cX5_digest 15 = .ok (.invokevirtual 206, 3) := by decide +kernel
theorem dX5_digest_18 : decode cX5_digest 18 = .ok (.i2l, 1) := by decide +kernel
theorem dX5_digest_19 : decode cX5_digest 19 = .ok (.invokestatic 238, 3) := by decide +kernel
theorem dX5_digest_22 : decode cX5_digest 22 = .ok (.lstore_n 1, 1) := by decide +kernel
theorem dX5_digest_23 : decode cX5_digest 23 = .ok (.iinc 3 1, 3) := by decide +kernel
theorem dX5_digest_26 : decode cX5_digest 26 = .ok (.goto (-20), 3) := by decide +kernel
theorem dX5_digest_29 : decode cX5_digest 29 = .ok (.aload_n 0, 1) := by decide +kernel
theorem dX5_digest_30 : decode cX5_digest 30 = .ok (.lload_n 1, 1) := by decide +kernel
theorem dX5_digest_31 : decode cX5_digest 31 = .ok (.invokevirtual 242, 3) := by decide +kernel
theorem dX5_digest_34 : decode cX5_digest 34 = .ok (.lstore_n 1, 1) := by decide +kernel
theorem dX5_digest_35 : decode cX5_digest 35 = .ok (.aload_n 0, 1) := by decide +kernel
theorem dX5_digest_36 : decode cX5_digest 36 = .ok (.lload_n 1, 1) := by decide +kernel
theorem dX5_digest_37 : decode cX5_digest 37 = .ok (.invokevirtual 246, 3) := by decide +kernel
theorem dX5_digest_40 : decode cX5_digest 40 = .ok (.lstore_n 1, 1) := by decide +kernel
theorem dX5_digest_41 : decode cX5_digest 41 = .ok (.aload_n 0, 1) := by decide +kernel
theorem dX5_digest_42 : decode cX5_digest 42 = .ok (.lload_n 1, 1) := by decide +kernel
theorem dX5_digest_43 : decode cX5_digest 43 = .ok (.invokevirtual 249, 3) := by decide +kernel
theorem dX5_digest_46 : decode cX5_digest 46 = .ok (.lstore_n 1, 1) := by decide +kernel
theorem dX5_digest_47 : decode cX5_digest 47 = .ok (.lload_n 1, 1) := by decide +kernel
theorem dX5_digest_48 : decode cX5_digest 48 = .ok (.aload_n 0, 1) := by decide +kernel
theorem dX5_digest_49 : decode cX5_digest 49 = .ok (.ldc 252, 2) := by decide +kernel
theorem dX5_digest_51 : decode cX5_digest 51 = .ok (.invokevirtual 217, 3) := by decide +kernel
theorem dX5_digest_54 : decode cX5_digest 54 = .ok (.i2l, 1) := by decide +kernel
theorem dX5_digest_55 : decode cX5_digest 55 = .ok (.invokestatic 238, 3) := by decide +kernel
theorem dX5_digest_58 : decode cX5_digest 58 = .ok (.lstore_n 1, 1) := by decide +kernel
theorem dX5_digest_59 : decode cX5_digest 59 = .ok (.lload_n 1, 1) := by decide +kernel
theorem dX5_digest_60 : decode cX5_digest 60 = .ok (.aload_n 0, 1) := by decide +kernel
theorem dX5_digest_61 : decode cX5_digest 61 = .ok (.getfield 10, 3) := by decide +kernel
theorem dX5_digest_64 : decode cX5_digest 64 = .ok (.bipush 50, 2) := by decide +kernel
theorem dX5_digest_66 : decode cX5_digest 66 = .ok (.invokevirtual 222, 3) := by decide +kernel
theorem dX5_digest_69 : decode cX5_digest 69 = .ok (.i2l, 1) := by decide +kernel
theorem dX5_digest_70 : decode cX5_digest 70 = .ok (.invokestatic 238, 3) := by decide +kernel
theorem dX5_digest_73 : decode cX5_digest 73 = .ok (.lstore_n 1, 1) := by decide +kernel
theorem dX5_digest_74 : decode cX5_digest 74 = .ok (.lload_n 1, 1) := by decide +kernel
theorem dX5_digest_75 : decode cX5_digest 75 = .ok (.aload_n 0, 1) := by decide +kernel
theorem dX5_digest_76 : decode cX5_digest 76 = .ok (.getfield 10, 3) := by decide +kernel
theorem dX5_digest_79 : decode cX5_digest 79 = .ok (.iconst 0, 1) := by decide +kernel
theorem dX5_digest_80 : decode cX5_digest 80 = .ok (.invokevirtual 225, 3) := by decide +kernel
theorem dX5_digest_83 : decode cX5_digest 83 = .ok (.i2l, 1) := by decide +kernel
theorem dX5_digest_84 : decode cX5_digest 84 = .ok (.invokestatic 238, 3) := by decide +kernel
theorem dX5_digest_87 : decode cX5_digest 87 = .ok (.lstore_n 1, 1) := by decide +kernel
theorem dX5_digest_88 : decode cX5_digest 88 = .ok (.lload_n 1, 1) := by decide +kernel
theorem dX5_digest_89 : decode cX5_digest 89 = .ok (.aload_n 0, 1) := by decide +kernel
theorem dX5_digest_90 : decode cX5_digest 90 = .ok (.getfield 10, 3) := by decide +kernel
theorem dX5_digest_93 : decode cX5_digest 93 = .ok (.getfield 72, 3) := by decide +kernel
theorem dX5_digest_96 : decode cX5_digest 96 = .ok (.invokevirtual 228, 3) := by decide +kernel
theorem dX5_digest_99 : decode cX5_digest 99 = .ok (.invokestatic 253, 3) := by decide +kernel
theorem dX5_digest_102 : decode cX5_digest 102 = .ok (.invokestatic 238, 3) := by decide +kernel
theorem dX5_digest_105 : decode cX5_digest 105 = .ok (.lstore_n 1, 1) := by decide +kernel
theorem dX5_digest_106 : decode cX5_digest 106 = .ok (.lload_n 1, 1) := by decide +kernel
theorem dX5_digest_107 : decode cX5_digest 107 = .ok (.aload_n 0, 1) := by decide +kernel
theorem dX5_digest_108 : decode cX5_digest 108 = .ok (.getfield 10, 3) := by decide +kernel
theorem dX5_digest_111 : decode cX5_digest 111 = .ok (.invokevirtual 232, 3) := by decide +kernel
theorem dX5_digest_114 : decode cX5_digest 114 = .ok (.invokestatic 257, 3) := by decide +kernel
theorem dX5_digest_117 : decode cX5_digest 117 = .ok (.i2l, 1) := by decide +kernel
theorem dX5_digest_118 : decode cX5_digest 118 = .ok (.invokestatic 238, 3) := by decide +kernel
theorem dX5_digest_121 : decode cX5_digest 121 = .ok (.lstore_n 1, 1) := by decide +kernel
theorem dX5_digest_122 : decode cX5_digest 122 = .ok (.aload_n 0, 1) := by decide +kernel
theorem dX5_digest_123 : decode cX5_digest 123 = .ok (.lload_n 1, 1) := by decide +kernel
theorem dX5_digest_124 : decode cX5_digest 124 = .ok (.invokevirtual 261, 3) := by decide +kernel
theorem dX5_digest_127 : decode cX5_digest 127 = .ok (.lreturn, 1) := by decide +kernel
set_option maxHeartbeats 1000000 in
set_option maxRecDepth 100000 in
theorem c_X5_digest (l : Launch) (G : GT) (a : Nat → Nat) (b : Nat → Nat) (x : HV) (hq : hdD G a b) : Met l yX5_digest (Cond.code yX5_digest cX5_digest 4 (some .long) :: bigW) ({ frames := 6, cells := 0, slots := 0, locals := 147 }) (BP G [.ref (a 0)] (fun U H => PW G (hdW G a b x) H)) (QE (some (.long (fX5_digest x).2)) (fun H => PW G (hdW G a b (fX5_digest x).1) H) (hdA a b)) 0 0 (hdA a b) := by
  refine met_of (by decide) (Nat.le_of_ble_eq_true rfl) ?_
  intro p e s m below meth c ls hC hKN hB0 hl
  have hP := hB0
  have hl : lv_has ls 4 [(0, .ref (a 0))] := hl
  have hS : va_S (hdA a b) s.heap s.heap [] := va_S.rf
  have hAL : ∀ z, (hdA a b) z → gL G ≤ z := hdD_low hq
  have hg : fX5_digest x = fX5_digest x := rfl
  refine lv_ldc2 (v := 3833) hC.1 hC.2.1 hC.2.2.2.2.1 (hC.2.2.2.2.2.2.1 _ wd_399) dX5_digest_0 ?_
  refine lv_lstore_n (lv' := [(1, .long 3833), (0, .ref (a 0))]) hC.1 hC.2.1 dX5_digest_3 rfl hl (by decide) rfl (fun ls hl => ?_)
  refine lv_iconst (v := 0) hC.1 hC.2.1 dX5_digest_4 (by decide) ?_
  refine lv_istore_n (lv' := [(3, .int 0), (1, .long 3833), (0, .ref (a 0))]) hC.1 hC.2.1 dX5_digest_5 rfl hl (by decide) rfl (fun ls hl => ?_)
  have A6 : ∀ (v_6 : HV), ∀ (y1_6 : Int64), fX5_digest x = (tX5_digest_6 x v_6 y1_6) → ∀ (H : Heap) (locs : List Loc), PW G (hdW G a b v_6) H → va_S (hdA a b) s.heap H locs → ∀ (ls : Array Slot), lv_has ls 4 [(0, .ref (a 0)), (1, .long y1_6)] → W p l e ({ frames := 6, cells := 0, slots := 0, locals := 147 }) s m ([.ref (a 0)] : List Value).toArray below meth c H locs 0 0 (MQ below (QE (some (.long (fX5_digest x).2)) (fun H => PW G (hdW G a b (fX5_digest x).1) H) (hdA a b)) ([.ref (a 0)] : List Value).toArray s 0 0 (hdA a b)) (F0 m 29 ls []) := by
    intro v_6 y1_6 hg H locs hP hS ls hl
    refine lv_aload_n hC.1 hC.2.1 dX5_digest_29 rfl (lv_at hl 0 rfl) ?_
    refine lv_lload_n hC.1 hC.2.1 dX5_digest_30 rfl (lv_at hl 1 rfl) ?_
    refine runP (rV (B := fun U H => PW G (hdW G a b v_6) H) (As := [.long y1_6]) (rest := []) hC mwX5_mixedDots (c_X5_mixedDots l G a b v_6 y1_6) iwX5_mixedDots wd_424 ⟨rfl, rfl⟩ ⟨Nat.le_of_ble_eq_true rfl, Nat.le_of_ble_eq_true rfl⟩ (stb_h (fun H => PW G (hdW G a b v_6) H)) (hKN.go hAL hS) hP (va_recv (hKN.go hAL hS).k hP (ci := 5) (q0 := 0) rfl rfl) rfl hl.1 rfl (Nat.le_of_ble_eq_true rfl) dX5_digest_31 ⟨Nat.zero_le _, Nat.zero_le _⟩) ?_
    refine lv_lstore_n (lv' := [(1, .long (fX5_mixedDots v_6 y1_6)), (0, .ref (a 0))]) hC.1 hC.2.1 dX5_digest_34 rfl hl (by decide) rfl (fun ls hl => ?_)
    refine lv_aload_n hC.1 hC.2.1 dX5_digest_35 rfl (lv_at hl 1 rfl) ?_
    refine lv_lload_n hC.1 hC.2.1 dX5_digest_36 rfl (lv_at hl 0 rfl) ?_
    refine runP (rV (B := fun U H => PW G (hdW G a b v_6) H) (As := [.long (fX5_mixedDots v_6 y1_6)]) (rest := []) hC mwX5_mixedStrip (c_X5_mixedStrip l G a b v_6 (fX5_mixedDots v_6 y1_6)) iwX5_mixedStrip wd_457 ⟨rfl, rfl⟩ ⟨Nat.le_of_ble_eq_true rfl, Nat.le_of_ble_eq_true rfl⟩ (stb_h (fun H => PW G (hdW G a b v_6) H)) (hKN.go hAL hS) hP (va_recv (hKN.go hAL hS).k hP (ci := 5) (q0 := 0) rfl rfl) rfl hl.1 rfl (Nat.le_of_ble_eq_true rfl) dX5_digest_37 ⟨Nat.zero_le _, Nat.zero_le _⟩) ?_
    refine lv_lstore_n (lv' := [(1, .long (fX5_mixedStrip v_6 (fX5_mixedDots v_6 y1_6))), (0, .ref (a 0))]) hC.1 hC.2.1 dX5_digest_40 rfl hl (by decide) rfl (fun ls hl => ?_)
    refine lv_aload_n hC.1 hC.2.1 dX5_digest_41 rfl (lv_at hl 1 rfl) ?_
    refine lv_lload_n hC.1 hC.2.1 dX5_digest_42 rfl (lv_at hl 0 rfl) ?_
    refine runE (rV (B := fun U H => PW G (hdW G a b v_6) H) (As := [.long (fX5_mixedStrip v_6 (fX5_mixedDots v_6 y1_6))]) (rest := []) hC mwX5_mixedTrials (c_X5_mixedTrials l G a b v_6 (fX5_mixedStrip v_6 (fX5_mixedDots v_6 y1_6)) hq) iwX5_mixedTrials wd_477 ⟨rfl, rfl⟩ ⟨Nat.le_of_ble_eq_true rfl, Nat.le_of_ble_eq_true rfl⟩ (stb_h (fun H => PW G (hdW G a b v_6) H)) (hKN.go hAL hS) hP (va_recv (hKN.go hAL hS).k hP (ci := 5) (q0 := 0) rfl rfl) rfl hl.1 rfl (Nat.le_of_ble_eq_true rfl) dX5_digest_43 ⟨Nat.zero_le _, Nat.zero_le _⟩) hS (fun _ h => h) (fun _ h => h) (fun H locs hq_1 _ _ hS => ?_)
    have hP : PW G (hdW G a b ((fX5_mixedTrials v_6 (fX5_mixedStrip v_6 (fX5_mixedDots v_6 y1_6))).1)) H := hq_1
    obtain ⟨r_2, er_2⟩ : ∃ z, z = fX5_mixedTrials v_6 (fX5_mixedStrip v_6 (fX5_mixedDots v_6 y1_6)) := ⟨_, rfl⟩
    rw [← er_2] at hP
    show W p l e ({ frames := 6, cells := 0, slots := 0, locals := 147 }) s m ([.ref (a 0)] : List Value).toArray below meth c H locs (0 + 0) (0 + 0) _ (F0 m (43 + 3) ls [.long ((fX5_mixedTrials v_6 (fX5_mixedStrip v_6 (fX5_mixedDots v_6 y1_6))).2)])
    rw [← er_2]
    refine lv_lstore_n (lv' := [(1, .long r_2.2), (0, .ref (a 0))]) hC.1 hC.2.1 dX5_digest_46 rfl hl (by decide) rfl (fun ls hl => ?_)
    refine lv_lload_n hC.1 hC.2.1 dX5_digest_47 rfl (lv_at hl 0 rfl) ?_
    refine lv_aload_n hC.1 hC.2.1 dX5_digest_48 rfl (lv_at hl 1 rfl) ?_
    refine lv_ldc (v := 65535) hC.1 hC.2.1 hC.2.2.2.2.1 (hC.2.2.2.2.2.2.1 _ wd_564) dX5_digest_49 ?_
    refine runE (rV (B := fun U H => PW G (hdW G a b r_2.1) H) (As := [.int 65535]) (rest := [.long r_2.2]) hC mwX5_fasterWay (c_X5_fasterWay l G a b r_2.1 65535 hq) iwX5_fasterWay wd_565 ⟨rfl, rfl⟩ ⟨Nat.le_of_ble_eq_true rfl, Nat.le_of_ble_eq_true rfl⟩ (stb_h (fun H => PW G (hdW G a b r_2.1) H)) (hKN.go hAL hS) hP (va_recv (hKN.go hAL hS).k hP (ci := 5) (q0 := 0) rfl rfl) rfl hl.1 rfl (Nat.le_of_ble_eq_true rfl) dX5_digest_51 ⟨Nat.zero_le _, Nat.zero_le _⟩) hS (fun _ h => h) (fun _ h => h) (fun H locs hq_3 _ _ hS => ?_)
    have hP : PW G (hdW G a b ((fX5_fasterWay r_2.1 65535).1)) H := hq_3
    obtain ⟨r_4, er_4⟩ : ∃ z, z = fX5_fasterWay r_2.1 65535 := ⟨_, rfl⟩
    rw [← er_4] at hP
    show W p l e ({ frames := 6, cells := 0, slots := 0, locals := 147 }) s m ([.ref (a 0)] : List Value).toArray below meth c H locs (0 + 0) (0 + 0) _ (F0 m (51 + 3) ls [.int ((fX5_fasterWay r_2.1 65535).2), .long r_2.2])
    rw [← er_4]
    refine lv_i2l (v := r_4.2.toInt64) hC.1 hC.2.1 dX5_digest_54 rfl ?_
    refine runP (rS (B := fun U H => True) (As := [.long r_2.2, .long r_4.2.toInt64]) (rest := []) hC mwX5_mixed (c_X5_mixed l G r_2.2 r_4.2.toInt64) wd_421 wd_420 ⟨rfl, rfl⟩ ⟨Nat.le_of_ble_eq_true rfl, Nat.le_of_ble_eq_true rfl⟩ (fun _ _ _ _ h => h) (hKN.go hAL hS) trivial rfl hl.1 rfl (Nat.le_of_ble_eq_true rfl) dX5_digest_55 ⟨Nat.zero_le _, Nat.zero_le _⟩) ?_
    refine lv_lstore_n (lv' := [(1, .long (fX5_mixed r_2.2 r_4.2.toInt64)), (0, .ref (a 0))]) hC.1 hC.2.1 dX5_digest_58 rfl hl (by decide) rfl (fun ls hl => ?_)
    refine lv_lload_n hC.1 hC.2.1 dX5_digest_59 rfl (lv_at hl 0 rfl) ?_
    refine lv_aload_n hC.1 hC.2.1 dX5_digest_60 rfl (lv_at hl 1 rfl) ?_
    refine gf (v := .ref (a 5)) hC fwX5 (hKN.go hAL hS) hP 0 rfl rfl 0 (by decide) rfl wd_203 rfl dX5_digest_61 ?_
    refine lv_bipush (v := 50) hC.1 hC.2.1 dX5_digest_64 (by decide +kernel) ?_
    refine runP (rV (B := fun U H => PW G (stW G (sA a 0) (r_4.1 0)) H) (As := [.int 50]) (rest := [.long (fX5_mixed r_2.2 r_4.2.toInt64)]) hC mwX2_timeUntilCool (c_X2_timeUntilCool l G (sA a 0) (r_4.1 0) 50) iwX2_timeUntilCool wd_569 ⟨rfl, rfl⟩ ⟨Nat.le_of_ble_eq_true rfl, Nat.le_of_ble_eq_true rfl⟩ (stb_h (fun H => PW G (stW G (sA a 0) (r_4.1 0)) H)) (hKN.go hAL hS) (hd_st0 (x := r_4.1) hP) (va_recv (hKN.go hAL hS).k (hd_st0 (x := r_4.1) hP) (ci := 2) (q0 := 0) rfl rfl) rfl hl.1 rfl (Nat.le_of_ble_eq_true rfl) dX5_digest_66 ⟨Nat.zero_le _, Nat.zero_le _⟩) ?_
    refine lv_i2l (v := (fX2_timeUntilCool (r_4.1 0) 50).toInt64) hC.1 hC.2.1 dX5_digest_69 rfl ?_
    refine runP (rS (B := fun U H => True) (As := [.long (fX5_mixed r_2.2 r_4.2.toInt64), .long ((fX2_timeUntilCool (r_4.1 0) 50).toInt64)]) (rest := []) hC mwX5_mixed (c_X5_mixed l G (fX5_mixed r_2.2 r_4.2.toInt64) ((fX2_timeUntilCool (r_4.1 0) 50).toInt64)) wd_421 wd_420 ⟨rfl, rfl⟩ ⟨Nat.le_of_ble_eq_true rfl, Nat.le_of_ble_eq_true rfl⟩ (fun _ _ _ _ h => h) (hKN.go hAL hS) trivial rfl hl.1 rfl (Nat.le_of_ble_eq_true rfl) dX5_digest_70 ⟨Nat.zero_le _, Nat.zero_le _⟩) ?_
    refine lv_lstore_n (lv' := [(1, .long (fX5_mixed (fX5_mixed r_2.2 r_4.2.toInt64) ((fX2_timeUntilCool (r_4.1 0) 50).toInt64))), (0, .ref (a 0))]) hC.1 hC.2.1 dX5_digest_73 rfl hl (by decide) rfl (fun ls hl => ?_)
    refine lv_lload_n hC.1 hC.2.1 dX5_digest_74 rfl (lv_at hl 0 rfl) ?_
    refine lv_aload_n hC.1 hC.2.1 dX5_digest_75 rfl (lv_at hl 1 rfl) ?_
    refine gf (v := .ref (a 5)) hC fwX5 (hKN.go hAL hS) hP 0 rfl rfl 0 (by decide) rfl wd_203 rfl dX5_digest_76 ?_
    refine lv_iconst (v := 0) hC.1 hC.2.1 dX5_digest_79 (by decide) ?_
    refine runP (rV (B := fun U H => PW G (stW G (sA a 0) (r_4.1 0)) H) (As := [.int 0]) (rest := [.long (fX5_mixed (fX5_mixed r_2.2 r_4.2.toInt64) ((fX2_timeUntilCool (r_4.1 0) 50).toInt64))]) hC mwX2_leastDarkSetting (c_X2_leastDarkSetting l G (sA a 0) (r_4.1 0) 0) iwX2_leastDarkSetting wd_574 ⟨rfl, rfl⟩ ⟨Nat.le_of_ble_eq_true rfl, Nat.le_of_ble_eq_true rfl⟩ (stb_h (fun H => PW G (stW G (sA a 0) (r_4.1 0)) H)) (hKN.go hAL hS) (hd_st0 (x := r_4.1) hP) (va_recv (hKN.go hAL hS).k (hd_st0 (x := r_4.1) hP) (ci := 2) (q0 := 0) rfl rfl) rfl hl.1 rfl (Nat.le_of_ble_eq_true rfl) dX5_digest_80 ⟨Nat.zero_le _, Nat.zero_le _⟩) ?_
    refine lv_i2l (v := (fX2_leastDarkSetting (r_4.1 0) 0).toInt64) hC.1 hC.2.1 dX5_digest_83 rfl ?_
    refine runP (rS (B := fun U H => True) (As := [.long (fX5_mixed (fX5_mixed r_2.2 r_4.2.toInt64) ((fX2_timeUntilCool (r_4.1 0) 50).toInt64)), .long ((fX2_leastDarkSetting (r_4.1 0) 0).toInt64)]) (rest := []) hC mwX5_mixed (c_X5_mixed l G (fX5_mixed (fX5_mixed r_2.2 r_4.2.toInt64) ((fX2_timeUntilCool (r_4.1 0) 50).toInt64)) ((fX2_leastDarkSetting (r_4.1 0) 0).toInt64)) wd_421 wd_420 ⟨rfl, rfl⟩ ⟨Nat.le_of_ble_eq_true rfl, Nat.le_of_ble_eq_true rfl⟩ (fun _ _ _ _ h => h) (hKN.go hAL hS) trivial rfl hl.1 rfl (Nat.le_of_ble_eq_true rfl) dX5_digest_84 ⟨Nat.zero_le _, Nat.zero_le _⟩) ?_
    refine lv_lstore_n (lv' := [(1, .long (fX5_mixed (fX5_mixed (fX5_mixed r_2.2 r_4.2.toInt64) ((fX2_timeUntilCool (r_4.1 0) 50).toInt64)) ((fX2_leastDarkSetting (r_4.1 0) 0).toInt64))), (0, .ref (a 0))]) hC.1 hC.2.1 dX5_digest_87 rfl hl (by decide) rfl (fun ls hl => ?_)
    refine lv_lload_n hC.1 hC.2.1 dX5_digest_88 rfl (lv_at hl 0 rfl) ?_
    refine lv_aload_n hC.1 hC.2.1 dX5_digest_89 rfl (lv_at hl 1 rfl) ?_
    refine gf (v := .ref (a 5)) hC fwX5 (hKN.go hAL hS) hP 0 rfl rfl 0 (by decide) rfl wd_203 rfl dX5_digest_90 ?_
    refine gfN (v := .ref (sA a 0 8)) hC fwX2 (hKN.go hAL hS) hP 5 rfl rfl 4 (by decide) rfl (nf_16 (hKN.go hAL hS)) rfl dX5_digest_93 ?_
    refine runP (rV (B := fun U H => PW G (stW G (sA a 0) (r_4.1 0)) H) (As := []) (rest := [.long (fX5_mixed (fX5_mixed (fX5_mixed r_2.2 r_4.2.toInt64) ((fX2_timeUntilCool (r_4.1 0) 50).toInt64)) ((fX2_leastDarkSetting (r_4.1 0) 0).toInt64))]) hC mwX4_darkShare (c_X4_darkShare l G (sA a 0) (r_4.1 0)) iwX4_darkShare wd_382 ⟨rfl, rfl⟩ ⟨Nat.le_of_ble_eq_true rfl, Nat.le_of_ble_eq_true rfl⟩ (stb_h (fun H => PW G (stW G (sA a 0) (r_4.1 0)) H)) (hKN.go hAL hS) (hd_st0 (x := r_4.1) hP) (va_recv (hKN.go hAL hS).k (hd_st0 (x := r_4.1) hP) (ci := 4) (q0 := 8) rfl rfl) rfl hl.1 rfl (Nat.le_of_ble_eq_true rfl) dX5_digest_96 ⟨Nat.zero_le _, Nat.zero_le _⟩) ?_
    refine runP (rS (B := fun U H => True) (As := [.double (fX4_darkShare (r_4.1 0))]) (rest := [.long (fX5_mixed (fX5_mixed (fX5_mixed r_2.2 r_4.2.toInt64) ((fX2_timeUntilCool (r_4.1 0) 50).toInt64)) ((fX2_leastDarkSetting (r_4.1 0) 0).toInt64))]) hC mwX5_bitsOfDouble (c_X5_bitsOfDouble l G (fX4_darkShare (r_4.1 0))) wd_583 wd_582 ⟨rfl, rfl⟩ ⟨Nat.le_of_ble_eq_true rfl, Nat.le_of_ble_eq_true rfl⟩ (fun _ _ _ _ h => h) (hKN.go hAL hS) trivial rfl hl.1 rfl (Nat.le_of_ble_eq_true rfl) dX5_digest_99 ⟨Nat.zero_le _, Nat.zero_le _⟩) ?_
    refine runP (rS (B := fun U H => True) (As := [.long (fX5_mixed (fX5_mixed (fX5_mixed r_2.2 r_4.2.toInt64) ((fX2_timeUntilCool (r_4.1 0) 50).toInt64)) ((fX2_leastDarkSetting (r_4.1 0) 0).toInt64)), .long (fX5_bitsOfDouble (fX4_darkShare (r_4.1 0)))]) (rest := []) hC mwX5_mixed (c_X5_mixed l G (fX5_mixed (fX5_mixed (fX5_mixed r_2.2 r_4.2.toInt64) ((fX2_timeUntilCool (r_4.1 0) 50).toInt64)) ((fX2_leastDarkSetting (r_4.1 0) 0).toInt64)) (fX5_bitsOfDouble (fX4_darkShare (r_4.1 0)))) wd_421 wd_420 ⟨rfl, rfl⟩ ⟨Nat.le_of_ble_eq_true rfl, Nat.le_of_ble_eq_true rfl⟩ (fun _ _ _ _ h => h) (hKN.go hAL hS) trivial rfl hl.1 rfl (Nat.le_of_ble_eq_true rfl) dX5_digest_102 ⟨Nat.zero_le _, Nat.zero_le _⟩) ?_
    refine lv_lstore_n (lv' := [(1, .long (fX5_mixed (fX5_mixed (fX5_mixed (fX5_mixed r_2.2 r_4.2.toInt64) ((fX2_timeUntilCool (r_4.1 0) 50).toInt64)) ((fX2_leastDarkSetting (r_4.1 0) 0).toInt64)) (fX5_bitsOfDouble (fX4_darkShare (r_4.1 0))))), (0, .ref (a 0))]) hC.1 hC.2.1 dX5_digest_105 rfl hl (by decide) rfl (fun ls hl => ?_)
    refine lv_lload_n hC.1 hC.2.1 dX5_digest_106 rfl (lv_at hl 0 rfl) ?_
    refine lv_aload_n hC.1 hC.2.1 dX5_digest_107 rfl (lv_at hl 1 rfl) ?_
    refine gf (v := .ref (a 5)) hC fwX5 (hKN.go hAL hS) hP 0 rfl rfl 0 (by decide) rfl wd_203 rfl dX5_digest_108 ?_
    refine runP (rV (B := fun U H => PW G (stW G (sA a 0) (r_4.1 0)) H) (As := []) (rest := [.long (fX5_mixed (fX5_mixed (fX5_mixed (fX5_mixed r_2.2 r_4.2.toInt64) ((fX2_timeUntilCool (r_4.1 0) 50).toInt64)) ((fX2_leastDarkSetting (r_4.1 0) 0).toInt64)) (fX5_bitsOfDouble (fX4_darkShare (r_4.1 0))))]) hC mwX2_mean (c_X2_mean l G (sA a 0) (r_4.1 0)) iwX2_mean wd_390 ⟨rfl, rfl⟩ ⟨Nat.le_of_ble_eq_true rfl, Nat.le_of_ble_eq_true rfl⟩ (stb_h (fun H => PW G (stW G (sA a 0) (r_4.1 0)) H)) (hKN.go hAL hS) (hd_st0 (x := r_4.1) hP) (va_recv (hKN.go hAL hS).k (hd_st0 (x := r_4.1) hP) (ci := 2) (q0 := 0) rfl rfl) rfl hl.1 rfl (Nat.le_of_ble_eq_true rfl) dX5_digest_111 ⟨Nat.zero_le _, Nat.zero_le _⟩) ?_
    refine runP (rS (B := fun U H => True) (As := [.float (fX2_mean (r_4.1 0))]) (rest := [.long (fX5_mixed (fX5_mixed (fX5_mixed (fX5_mixed r_2.2 r_4.2.toInt64) ((fX2_timeUntilCool (r_4.1 0) 50).toInt64)) ((fX2_leastDarkSetting (r_4.1 0) 0).toInt64)) (fX5_bitsOfDouble (fX4_darkShare (r_4.1 0))))]) hC mwX5_bitsOfFloat (c_X5_bitsOfFloat l G (fX2_mean (r_4.1 0))) wd_589 wd_588 ⟨rfl, rfl⟩ ⟨Nat.le_of_ble_eq_true rfl, Nat.le_of_ble_eq_true rfl⟩ (fun _ _ _ _ h => h) (hKN.go hAL hS) trivial rfl hl.1 rfl (Nat.le_of_ble_eq_true rfl) dX5_digest_114 ⟨Nat.zero_le _, Nat.zero_le _⟩) ?_
    refine lv_i2l (v := (fX5_bitsOfFloat (fX2_mean (r_4.1 0))).toInt64) hC.1 hC.2.1 dX5_digest_117 rfl ?_
    refine runP (rS (B := fun U H => True) (As := [.long (fX5_mixed (fX5_mixed (fX5_mixed (fX5_mixed r_2.2 r_4.2.toInt64) ((fX2_timeUntilCool (r_4.1 0) 50).toInt64)) ((fX2_leastDarkSetting (r_4.1 0) 0).toInt64)) (fX5_bitsOfDouble (fX4_darkShare (r_4.1 0)))), .long ((fX5_bitsOfFloat (fX2_mean (r_4.1 0))).toInt64)]) (rest := []) hC mwX5_mixed (c_X5_mixed l G (fX5_mixed (fX5_mixed (fX5_mixed (fX5_mixed r_2.2 r_4.2.toInt64) ((fX2_timeUntilCool (r_4.1 0) 50).toInt64)) ((fX2_leastDarkSetting (r_4.1 0) 0).toInt64)) (fX5_bitsOfDouble (fX4_darkShare (r_4.1 0)))) ((fX5_bitsOfFloat (fX2_mean (r_4.1 0))).toInt64)) wd_421 wd_420 ⟨rfl, rfl⟩ ⟨Nat.le_of_ble_eq_true rfl, Nat.le_of_ble_eq_true rfl⟩ (fun _ _ _ _ h => h) (hKN.go hAL hS) trivial rfl hl.1 rfl (Nat.le_of_ble_eq_true rfl) dX5_digest_118 ⟨Nat.zero_le _, Nat.zero_le _⟩) ?_
    refine lv_lstore_n (lv' := [(1, .long (fX5_mixed (fX5_mixed (fX5_mixed (fX5_mixed (fX5_mixed r_2.2 r_4.2.toInt64) ((fX2_timeUntilCool (r_4.1 0) 50).toInt64)) ((fX2_leastDarkSetting (r_4.1 0) 0).toInt64)) (fX5_bitsOfDouble (fX4_darkShare (r_4.1 0)))) ((fX5_bitsOfFloat (fX2_mean (r_4.1 0))).toInt64))), (0, .ref (a 0))]) hC.1 hC.2.1 dX5_digest_121 rfl hl (by decide) rfl (fun ls hl => ?_)
    refine lv_aload_n hC.1 hC.2.1 dX5_digest_122 rfl (lv_at hl 1 rfl) ?_
    refine lv_lload_n hC.1 hC.2.1 dX5_digest_123 rfl (lv_at hl 0 rfl) ?_
    refine runP (rV (B := fun U H => PW G (hdW G a b r_4.1) H) (As := [.long (fX5_mixed (fX5_mixed (fX5_mixed (fX5_mixed (fX5_mixed r_2.2 r_4.2.toInt64) ((fX2_timeUntilCool (r_4.1 0) 50).toInt64)) ((fX2_leastDarkSetting (r_4.1 0) 0).toInt64)) (fX5_bitsOfDouble (fX4_darkShare (r_4.1 0)))) ((fX5_bitsOfFloat (fX2_mean (r_4.1 0))).toInt64))]) (rest := []) hC mwX5_mixedBuffer (c_X5_mixedBuffer l G a b r_4.1 (fX5_mixed (fX5_mixed (fX5_mixed (fX5_mixed (fX5_mixed r_2.2 r_4.2.toInt64) ((fX2_timeUntilCool (r_4.1 0) 50).toInt64)) ((fX2_leastDarkSetting (r_4.1 0) 0).toInt64)) (fX5_bitsOfDouble (fX4_darkShare (r_4.1 0)))) ((fX5_bitsOfFloat (fX2_mean (r_4.1 0))).toInt64))) iwX5_mixedBuffer wd_592 ⟨rfl, rfl⟩ ⟨Nat.le_of_ble_eq_true rfl, Nat.le_of_ble_eq_true rfl⟩ (stb_h (fun H => PW G (hdW G a b r_4.1) H)) (hKN.go hAL hS) hP (va_recv (hKN.go hAL hS).k hP (ci := 5) (q0 := 0) rfl rfl) rfl hl.1 rfl (Nat.le_of_ble_eq_true rfl) dX5_digest_124 ⟨Nat.zero_le _, Nat.zero_le _⟩) ?_
    have e_5 : tX5_digest_6 x v_6 y1_6 = (r_4.1, fX5_mixedBuffer r_4.1 (fX5_mixed (fX5_mixed (fX5_mixed (fX5_mixed (fX5_mixed r_2.2 r_4.2.toInt64) ((fX2_timeUntilCool (r_4.1 0) 50).toInt64)) ((fX2_leastDarkSetting (r_4.1 0) 0).toInt64)) (fX5_bitsOfDouble (fX4_darkShare (r_4.1 0)))) ((fX5_bitsOfFloat (fX2_mean (r_4.1 0))).toInt64))) := by
      delta tX5_digest_6
      try dsimp only
      rw [← er_2]
      rw [← er_4]
    have hg : fX5_digest x = (r_4.1, fX5_mixedBuffer r_4.1 (fX5_mixed (fX5_mixed (fX5_mixed (fX5_mixed (fX5_mixed r_2.2 r_4.2.toInt64) ((fX2_timeUntilCool (r_4.1 0) 50).toInt64)) ((fX2_leastDarkSetting (r_4.1 0) 0).toInt64)) (fX5_bitsOfDouble (fX4_darkShare (r_4.1 0)))) ((fX5_bitsOfFloat (fX2_mean (r_4.1 0))).toInt64))) := by have e2 := congrArg (fun z => z) e_5; exact hg.trans e2
    exact eE_l hC (by rw [hg]) (by show PW G (hdW G a b (fX5_digest x).1) H; rw [hg]; exact hP) hS dX5_digest_127
  have L6 : ∀ (v_6 : HV), ∀ (n6 d6 : Nat), ∀ (y1_6 : Int64), d6 + n6 = 19 → fX5_digest x = (tX5_digest_6 x v_6 (lpF n6 d6 (bX5_digest_6 x v_6) y1_6)) → ∀ (H : Heap) (locs : List Loc), PW G (hdW G a b v_6) H → va_S (hdA a b) s.heap H locs → ∀ (ls : Array Slot), lv_has ls 4 [(0, .ref (a 0)), (1, .long y1_6), (3, .int (nI d6))] → W p l e ({ frames := 6, cells := 0, slots := 0, locals := 147 }) s m ([.ref (a 0)] : List Value).toArray below meth c H locs 0 0 (MQ below (QE (some (.long (fX5_digest x).2)) (fun H => PW G (hdW G a b (fX5_digest x).1) H) (hdA a b)) ([.ref (a 0)] : List Value).toArray s 0 0 (hdA a b)) (F0 m 6 ls []) := by
    intro v_6
    intro n6
    induction n6 with
    | zero =>
      intro d6 y1_6 hd hg H locs hP hS ls hl
      refine lv_iload_n hC.1 hC.2.1 dX5_digest_6 rfl (lv_at hl 2 rfl) ?_
      refine lv_bipush (v := 19) hC.1 hC.2.1 dX5_digest_7 (by decide +kernel) ?_
      refine lv_icmp_ge (tgt := 29) hC.1 hC.2.1 dX5_digest_9 (by decide) (fun k9 => ?_) (fun k9 => ?_)
      · exact A6 v_6 y1_6 hg _ _ hP hS _ (lv_sub hl [0, 1] rfl)
      · exact absurd (nI_le (a := 19) (b := d6) (by omega) (by omega)) k9
    | succ n6 ih =>
      intro d6 y1_6 hd hg H locs hP hS ls hl
      have hg : fX5_digest x = (tX5_digest_6 x v_6 (lpF n6 (d6 + 1) (bX5_digest_6 x v_6) (bX5_digest_6 x v_6 d6 y1_6))) := hg
      refine lv_iload_n hC.1 hC.2.1 dX5_digest_6 rfl (lv_at hl 2 rfl) ?_
      refine lv_bipush (v := 19) hC.1 hC.2.1 dX5_digest_7 (by decide +kernel) ?_
      refine lv_icmp_ge (tgt := 29) hC.1 hC.2.1 dX5_digest_9 (by decide) (fun k9 => ?_) (fun k9 => ?_)
      · exact absurd k9 (nI_ge (a := d6) (b := 19) (by omega) (by omega))
      · refine lv_lload_n hC.1 hC.2.1 dX5_digest_12 rfl (lv_at hl 1 rfl) ?_
        refine lv_aload_n hC.1 hC.2.1 dX5_digest_13 rfl (lv_at hl 0 rfl) ?_
        refine lv_iload_n hC.1 hC.2.1 dX5_digest_14 rfl (lv_at hl 2 rfl) ?_
        refine runP (rV (B := fun U H => PW G (hdW G a b v_6) H) (As := [.int (nI d6)]) (rest := [.long y1_6]) hC mwX5_counted (c_X5_counted l G a b v_6 (nI d6)) iwX5_counted wd_400 ⟨rfl, rfl⟩ ⟨Nat.le_of_ble_eq_true rfl, Nat.le_of_ble_eq_true rfl⟩ (stb_h (fun H => PW G (hdW G a b v_6) H)) (hKN.go hAL hS) hP (va_recv (hKN.go hAL hS).k hP (ci := 5) (q0 := 0) rfl rfl) rfl hl.1 rfl (Nat.le_of_ble_eq_true rfl) dX5_digest_15 ⟨Nat.zero_le _, Nat.zero_le _⟩) ?_
        refine lv_i2l (v := (fX5_counted v_6 (nI d6)).toInt64) hC.1 hC.2.1 dX5_digest_18 rfl ?_
        refine runP (rS (B := fun U H => True) (As := [.long y1_6, .long ((fX5_counted v_6 (nI d6)).toInt64)]) (rest := []) hC mwX5_mixed (c_X5_mixed l G y1_6 ((fX5_counted v_6 (nI d6)).toInt64)) wd_421 wd_420 ⟨rfl, rfl⟩ ⟨Nat.le_of_ble_eq_true rfl, Nat.le_of_ble_eq_true rfl⟩ (fun _ _ _ _ h => h) (hKN.go hAL hS) trivial rfl hl.1 rfl (Nat.le_of_ble_eq_true rfl) dX5_digest_19 ⟨Nat.zero_le _, Nat.zero_le _⟩) ?_
        refine lv_lstore_n (lv' := [(1, .long (fX5_mixed y1_6 ((fX5_counted v_6 (nI d6)).toInt64))), (0, .ref (a 0)), (3, .int (nI d6))]) hC.1 hC.2.1 dX5_digest_22 rfl hl (by decide) rfl (fun ls hl => ?_)
        refine lv_iinc (v := nI (d6 + 1)) (lv' := [(3, .int (nI (d6 + 1))), (1, .long (fX5_mixed y1_6 ((fX5_counted v_6 (nI d6)).toInt64))), (0, .ref (a 0))]) hC.1 hC.2.1 dX5_digest_23 hl (k := 2) rfl (nI_1 _) (by decide) rfl (fun ls hl => ?_)
        refine lv_goto (tgt := 6) hC.1 hC.2.1 dX5_digest_26 (by decide) ?_
        have e_6 : bX5_digest_6 x v_6 d6 y1_6 = fX5_mixed y1_6 ((fX5_counted v_6 (nI d6)).toInt64) := by
          delta bX5_digest_6
          try dsimp only
          try exact rfl
        have hg : fX5_digest x = (tX5_digest_6 x v_6 (lpF n6 (d6 + 1) (bX5_digest_6 x v_6) (fX5_mixed y1_6 ((fX5_counted v_6 (nI d6)).toInt64)))) := by have e2 := congrArg (fun z => (tX5_digest_6 x v_6 (lpF n6 (d6 + 1) (bX5_digest_6 x v_6) z))) e_6; exact hg.trans e2
        exact ih (d6 + 1) (fX5_mixed y1_6 ((fX5_counted v_6 (nI d6)).toInt64)) (by omega) hg _ _ hP hS _ (lv_sub hl [2, 1, 0] rfl)
  have e_7 : fX5_digest x = tX5_digest_6 x x (lpF 19 0 (bX5_digest_6 x x) 3833) := by
    delta fX5_digest
    try dsimp only
    try exact rfl
  have hg : fX5_digest x = (tX5_digest_6 x x (lpF 19 0 (bX5_digest_6 x x) 3833)) := by have e2 := congrArg (fun z => z) e_7; exact hg.trans e2
  exact L6 x 19 0 3833 (by omega) hg _ _ hP hS _ (lv_sub hl [2, 1, 0] rfl)
