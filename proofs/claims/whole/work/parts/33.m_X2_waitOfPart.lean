theorem dX2_waitOfPart_0 : decode cX2_waitOfPart 0 = .ok (.aload_n 0, 1) := by decide +kernel
theorem dX2_waitOfPart_1 : decode cX2_waitOfPart 1 = .ok (.getfield 21, 3) := by decide +kernel
theorem dX2_waitOfPart_4 : decode cX2_waitOfPart 4 = .ok (.iconst 2, 1) := by decide +kernel
theorem dX2_waitOfPart_5 : decode cX2_waitOfPart 5 = .ok (.invokestatic 59, 3) := by decide +kernel
theorem dX2_waitOfPart_8 : decode cX2_waitOfPart 8 = .ok (.istore_n 2, 1) := by decide +kernel
theorem dX2_waitOfPart_9 : decode cX2_waitOfPart 9 = .ok (.iconst 0, 1) := by decide +kernel
theorem dX2_waitOfPart_10 : decode cX2_waitOfPart 10 = .ok (.istore_n 3, 1) := by decide +kernel
theorem dX2_waitOfPart_11 : decode cX2_waitOfPart 11 = .ok (.iconst 0, 1) := by decide +kernel
theorem dX2_waitOfPart_12 : decode cX2_waitOfPart 12 = .ok (.istore 4, 2) := by decide +kernel
theorem dX2_waitOfPart_14 : decode cX2_waitOfPart 14 = .ok (.iload 4, 2) := by decide +kernel
theorem dX2_waitOfPart_16 : decode cX2_waitOfPart 16 = .ok (.bipush 24, 2) := by decide +kernel
theorem dX2_waitOfPart_18 : decode cX2_waitOfPart 18 = .ok (.if_icmp .ge 48, 3) := by decide +kernel
theorem dX2_waitOfPart_21 : decode cX2_waitOfPart 21 = .ok (.iload_n 1, 1) := by decide +kernel
theorem dX2_waitOfPart_22 : decode cX2_waitOfPart 22 = .ok (.iload 4, 2) := by decide +kernel
theorem dX2_waitOfPart_24 : decode cX2_waitOfPart 24 = .ok (.invokestatic 124, 3) := by decide +kernel
theorem dX2_waitOfPart_27 : decode cX2_waitOfPart 27 = .ok (.iconst 1, 1) := by decide +kernel
theorem dX2_waitOfPart_28 : decode cX2_waitOfPart 28 = .ok (.if_icmp .ne 32, 3) := by decide +kernel
theorem dX2_waitOfPart_31 : decode cX2_waitOfPart 31 = .ok (.iload_n 3, 1) := by decide +kernel
theorem dX2_waitOfPart_32 : decode cX2_waitOfPart 32 = .ok (.aload_n 0, 1) := by decide +kernel
theorem dX2_waitOfPart_33 : decode cX2_waitOfPart 33 = .ok (.aload_n 0, 1) := by decide +kernel
theorem dX2_waitOfPart_34 : decode cX2_waitOfPart 34 = .ok (.getfield 9, 3) := by decide +kernel
theorem dX2_waitOfPart_37 : decode cX2_waitOfPart 37 = .ok (.iload 4, 2) := by decide +kernel
theorem dX2_waitOfPart_39 : decode cX2_waitOfPart 39 = .ok (.invokestatic 59, 3) := by decide +kernel
theorem dX2_waitOfPart_42 : decode cX2_waitOfPart 42 = .ok (.iload_n 2, 1) := by decide +kernel
theorem dX2_waitOfPart_43 : decode cX2_waitOfPart 43 = .ok (.aload_n 0, 1) := by decide +kernel
theorem dX2_waitOfPart_44 : decode cX2_waitOfPart 44 = .ok (.getfield 15, 3) := by decide +kernel
theorem dX2_waitOfPart_47 : decode cX2_waitOfPart 47 = .ok (.iload 4, 2) := by decide +kernel
theorem dX2_waitOfPart_49 : decode cX2_waitOfPart 49 = .ok (.invokestatic 59, 3) := by decide +kernel
theorem dX2_waitOfPart_52 : decode cX2_waitOfPart 52 = .ok (.isub, 1) := by decide +kernel
theorem dX2_waitOfPart_53 : decode cX2_waitOfPart 53 = .ok (.invokevirtual 127, 3) := by decide +kernel
theorem dX2_waitOfPart_56 : decode cX2_waitOfPart 56 = .ok (.invokestatic 114, 3) := by decide +kernel
theorem dX2_waitOfPart_59 : decode cX2_waitOfPart 59 = .ok (.istore_n 3, 1) := by decide +kernel
theorem dX2_waitOfPart_60 : decode cX2_waitOfPart 60 = .ok (.iinc 4 1, 3) := by decide +kernel
theorem dX2_waitOfPart_63 : decode cX2_waitOfPart 63 = .ok (.goto (-49), 3) := by decide +kernel
theorem dX2_waitOfPart_66 : decode cX2_waitOfPart 66 = .ok (.iload_n 3, 1) := by decide +kernel
theorem dX2_waitOfPart_67 : decode cX2_waitOfPart 67 = .ok (.ireturn, 1) := by decide +kernel
set_option maxHeartbeats 1000000 in
set_option maxRecDepth 100000 in
theorem c_X2_waitOfPart (l : Launch) (G : GT) (q : Nat → Nat) (v : SV) (x1 : Int32) : Met l yX2_waitOfPart (Cond.code yX2_waitOfPart cX2_waitOfPart 5 (some .int) :: bigW) ({ frames := 2, cells := 0, slots := 0, locals := 47 }) (BP G [.ref (q 0), .int x1] (fun U H => PW G (stW G q v) H)) (QP (.int (fX2_waitOfPart v x1))) 0 0 (fun _ => False) := by
  refine met_of (by decide) (Nat.le_of_ble_eq_true rfl) ?_
  intro p e s m below meth c ls hC hKN hB0 hl
  have hP := hB0
  have hl : lv_has ls 5 [(0, .ref (q 0)), (1, .int x1)] := hl
  have hg : fX2_waitOfPart v x1 = fX2_waitOfPart v x1 := rfl
  refine lv_aload_n hC.1 hC.2.1 dX2_waitOfPart_0 rfl (lv_at hl 0 rfl) ?_
  refine gf (v := .ref (q 3)) hC fwX2 hKN hP 0 rfl rfl 2 (by decide) rfl wd_118 rfl dX2_waitOfPart_1 ?_
  refine lv_iconst (v := 2) hC.1 hC.2.1 dX2_waitOfPart_4 (by decide) ?_
  refine runP (rSN (B := fun U H => RD (q 3) 7 (v 2) U H) (As := [.ref (q 3), .int 2]) (rest := []) hC mwX5_at (c_X5_at l G (q 3) 7 (v 2) 2) wd_249 (nm_5 hKN) ⟨rfl, rfl⟩ ⟨Nat.le_of_ble_eq_true rfl, Nat.le_of_ble_eq_true rfl⟩ (stb_RD _ _ _) hKN (RD.ofP hKN hP 3 rfl) rfl hl.1 rfl (Nat.le_of_ble_eq_true rfl) dX2_waitOfPart_5 ⟨Nat.zero_le _, Nat.zero_le _⟩) ?_
  refine lv_istore_n (lv' := [(2, .int (fX5_at 7 (v 2) 2)), (0, .ref (q 0)), (1, .int x1)]) hC.1 hC.2.1 dX2_waitOfPart_8 rfl hl (by decide) rfl (fun ls hl => ?_)
  refine lv_iconst (v := 0) hC.1 hC.2.1 dX2_waitOfPart_9 (by decide) ?_
  refine lv_istore_n (lv' := [(3, .int 0), (2, .int (fX5_at 7 (v 2) 2)), (0, .ref (q 0)), (1, .int x1)]) hC.1 hC.2.1 dX2_waitOfPart_10 rfl hl (by decide) rfl (fun ls hl => ?_)
  refine lv_iconst (v := 0) hC.1 hC.2.1 dX2_waitOfPart_11 (by decide) ?_
  refine lv_istore (lv' := [(4, .int 0), (3, .int 0), (2, .int (fX5_at 7 (v 2) 2)), (0, .ref (q 0)), (1, .int x1)]) hC.1 hC.2.1 dX2_waitOfPart_12 hl (by decide) rfl (fun ls hl => ?_)
  have A14 : ∀ (y2_14 : Int32), ∀ (y3_14 : Int32), fX2_waitOfPart v x1 = (tX2_waitOfPart_14 v x1 y2_14 y3_14) → ∀ (ls : Array Slot), lv_has ls 5 [(3, .int y3_14)] → W p l e ({ frames := 2, cells := 0, slots := 0, locals := 47 }) s m ([.ref (q 0), .int x1] : List Value).toArray below meth c s.heap [] 0 0 (MQ below (QP (.int (fX2_waitOfPart v x1))) ([.ref (q 0), .int x1] : List Value).toArray s 0 0 (fun _ => False)) (F0 m 66 ls []) := by
    intro y2_14 y3_14 hg ls hl
    refine lv_iload_n hC.1 hC.2.1 dX2_waitOfPart_66 rfl (lv_at hl 0 rfl) ?_
    have e_1 : tX2_waitOfPart_14 v x1 y2_14 y3_14 = y3_14 := by exact rfl
    have hg : fX2_waitOfPart v x1 = y3_14 := hg.trans (congrArg (fun z => z) e_1)
    exact eP_i hC (congrArg Value.int hg) dX2_waitOfPart_67
  have L14 : ∀ (y2_14 : Int32), ∀ (n14 d14 : Nat), ∀ (y3_14 : Int32), d14 + n14 = 24 → fX2_waitOfPart v x1 = (tX2_waitOfPart_14 v x1 y2_14 (lpF n14 d14 (bX2_waitOfPart_14 v x1 y2_14) y3_14)) → ∀ (ls : Array Slot), lv_has ls 5 [(0, .ref (q 0)), (1, .int x1), (2, .int y2_14), (3, .int y3_14), (4, .int (nI d14))] → W p l e ({ frames := 2, cells := 0, slots := 0, locals := 47 }) s m ([.ref (q 0), .int x1] : List Value).toArray below meth c s.heap [] 0 0 (MQ below (QP (.int (fX2_waitOfPart v x1))) ([.ref (q 0), .int x1] : List Value).toArray s 0 0 (fun _ => False)) (F0 m 14 ls []) := by
    intro y2_14
    intro n14
    induction n14 with
    | zero =>
      intro d14 y3_14 hd hg ls hl
      refine lv_iload hC.1 hC.2.1 dX2_waitOfPart_14 (lv_at hl 4 rfl) ?_
      refine lv_bipush (v := 24) hC.1 hC.2.1 dX2_waitOfPart_16 (by decide +kernel) ?_
      refine lv_icmp_ge (tgt := 66) hC.1 hC.2.1 dX2_waitOfPart_18 (by decide) (fun k18 => ?_) (fun k18 => ?_)
      · exact A14 y2_14 y3_14 hg _ (lv_sub hl [3] rfl)
      · exact absurd (nI_le (a := 24) (b := d14) (by omega) (by omega)) k18
    | succ n14 ih =>
      intro d14 y3_14 hd hg ls hl
      have hg : fX2_waitOfPart v x1 = (tX2_waitOfPart_14 v x1 y2_14 (lpF n14 (d14 + 1) (bX2_waitOfPart_14 v x1 y2_14) (bX2_waitOfPart_14 v x1 y2_14 d14 y3_14))) := hg
      refine lv_iload hC.1 hC.2.1 dX2_waitOfPart_14 (lv_at hl 4 rfl) ?_
      refine lv_bipush (v := 24) hC.1 hC.2.1 dX2_waitOfPart_16 (by decide +kernel) ?_
      refine lv_icmp_ge (tgt := 66) hC.1 hC.2.1 dX2_waitOfPart_18 (by decide) (fun k18 => ?_) (fun k18 => ?_)
      · exact absurd k18 (nI_ge (a := d14) (b := 24) (by omega) (by omega))
      · refine lv_iload_n hC.1 hC.2.1 dX2_waitOfPart_21 rfl (lv_at hl 1 rfl) ?_
        refine lv_iload hC.1 hC.2.1 dX2_waitOfPart_22 (lv_at hl 4 rfl) ?_
        refine runP (rSN (B := fun U H => True) (As := [.int x1, .int (nI d14)]) (rest := []) hC mwX5_bitOf (c_X5_bitOf l G x1 (nI d14)) wd_433 (nm_6 hKN) ⟨rfl, rfl⟩ ⟨Nat.le_of_ble_eq_true rfl, Nat.le_of_ble_eq_true rfl⟩ (fun _ _ _ _ h => h) hKN trivial rfl hl.1 rfl (Nat.le_of_ble_eq_true rfl) dX2_waitOfPart_24 ⟨Nat.zero_le _, Nat.zero_le _⟩) ?_
        refine lv_iconst (v := 1) hC.1 hC.2.1 dX2_waitOfPart_27 (by decide) ?_
        refine lv_icmp_ne (tgt := 60) hC.1 hC.2.1 dX2_waitOfPart_28 (by decide) (fun k28 => ?_) (fun k28 => ?_)
        · refine lv_iinc (v := nI (d14 + 1)) (lv' := [(4, .int (nI (d14 + 1))), (0, .ref (q 0)), (1, .int x1), (2, .int y2_14), (3, .int y3_14)]) hC.1 hC.2.1 dX2_waitOfPart_60 hl (k := 4) rfl (nI_1 _) (by decide) rfl (fun ls hl => ?_)
          refine lv_goto (tgt := 14) hC.1 hC.2.1 dX2_waitOfPart_63 (by decide) ?_
          have e_2 : bX2_waitOfPart_14 v x1 y2_14 d14 y3_14 = y3_14 := by exact Eq.trans (if_neg k28) rfl
          have hg : fX2_waitOfPart v x1 = (tX2_waitOfPart_14 v x1 y2_14 (lpF n14 (d14 + 1) (bX2_waitOfPart_14 v x1 y2_14) y3_14)) := hg.trans (congrArg (fun z => (tX2_waitOfPart_14 v x1 y2_14 (lpF n14 (d14 + 1) (bX2_waitOfPart_14 v x1 y2_14) z))) e_2)
          exact ih (d14 + 1) y3_14 (by omega) hg _ (lv_sub hl [1, 2, 3, 4, 0] rfl)
        · refine lv_iload_n hC.1 hC.2.1 dX2_waitOfPart_31 rfl (lv_at hl 3 rfl) ?_
          refine lv_aload_n hC.1 hC.2.1 dX2_waitOfPart_32 rfl (lv_at hl 0 rfl) ?_
          refine lv_aload_n hC.1 hC.2.1 dX2_waitOfPart_33 rfl (lv_at hl 0 rfl) ?_
          refine gf (v := .ref (q 1)) hC fwX2 hKN hP 0 rfl rfl 0 (by decide) rfl wd_116 rfl dX2_waitOfPart_34 ?_
          refine lv_iload hC.1 hC.2.1 dX2_waitOfPart_37 (lv_at hl 4 rfl) ?_
          refine runP (rSN (B := fun U H => RD (q 1) 24 (v 0) U H) (As := [.ref (q 1), .int (nI d14)]) (rest := [.ref (q 0), .int y3_14]) hC mwX5_at (c_X5_at l G (q 1) 24 (v 0) (nI d14)) wd_249 (nm_5 hKN) ⟨rfl, rfl⟩ ⟨Nat.le_of_ble_eq_true rfl, Nat.le_of_ble_eq_true rfl⟩ (stb_RD _ _ _) hKN (RD.ofP hKN hP 1 rfl) rfl hl.1 rfl (Nat.le_of_ble_eq_true rfl) dX2_waitOfPart_39 ⟨Nat.zero_le _, Nat.zero_le _⟩) ?_
          refine lv_iload_n hC.1 hC.2.1 dX2_waitOfPart_42 rfl (lv_at hl 2 rfl) ?_
          refine lv_aload_n hC.1 hC.2.1 dX2_waitOfPart_43 rfl (lv_at hl 0 rfl) ?_
          refine gf (v := .ref (q 2)) hC fwX2 hKN hP 0 rfl rfl 1 (by decide) rfl wd_117 rfl dX2_waitOfPart_44 ?_
          refine lv_iload hC.1 hC.2.1 dX2_waitOfPart_47 (lv_at hl 4 rfl) ?_
          refine runP (rSN (B := fun U H => RD (q 2) 24 (v 1) U H) (As := [.ref (q 2), .int (nI d14)]) (rest := [.int y2_14, .int (fX5_at 24 (v 0) (nI d14)), .ref (q 0), .int y3_14]) hC mwX5_at (c_X5_at l G (q 2) 24 (v 1) (nI d14)) wd_249 (nm_5 hKN) ⟨rfl, rfl⟩ ⟨Nat.le_of_ble_eq_true rfl, Nat.le_of_ble_eq_true rfl⟩ (stb_RD _ _ _) hKN (RD.ofP hKN hP 2 rfl) rfl hl.1 rfl (Nat.le_of_ble_eq_true rfl) dX2_waitOfPart_49 ⟨Nat.zero_le _, Nat.zero_le _⟩) ?_
          refine lv_isub hC.1 hC.2.1 dX2_waitOfPart_52 ?_
          refine runP (rV (B := fun U H => PW G (stW G q v) H) (As := [.int (fX5_at 24 (v 0) (nI d14)), .int (y2_14 - (fX5_at 24 (v 1) (nI d14)))]) (rest := [.int y3_14]) hC mwX2_timeDownTo (c_X2_timeDownTo l G q v (fX5_at 24 (v 0) (nI d14)) (y2_14 - (fX5_at 24 (v 1) (nI d14)))) iwX2_timeDownTo wd_449 ⟨rfl, rfl⟩ ⟨Nat.le_of_ble_eq_true rfl, Nat.le_of_ble_eq_true rfl⟩ (stb_h (fun H => PW G (stW G q v) H)) hKN hP (va_recv hKN.k hP (ci := 2) (q0 := 0) rfl rfl) rfl hl.1 rfl (Nat.le_of_ble_eq_true rfl) dX2_waitOfPart_53 ⟨Nat.zero_le _, Nat.zero_le _⟩) ?_
          refine va_mmax hC.1 hC.2.1 (hC.2.2.2.1.trans hl.1.symm) hC.2.2.2.2.1 (hC.2.2.2.2.2.2.1 _ wd_412) (hC.2.2.2.2.2.2.1 _ wd_413) (hC.2.2.2.2.2.2.1 _ wd_3) (hC.2.2.2.2.2.2.1 _ wd_414) (Nat.le_of_ble_eq_true rfl) (Nat.le_of_ble_eq_true rfl) (Nat.zero_le _) (Nat.zero_le _) dX2_waitOfPart_56 ?_
          refine lv_istore_n (lv' := [(3, .int (if y3_14 < (fX2_timeDownTo v (fX5_at 24 (v 0) (nI d14)) (y2_14 - (fX5_at 24 (v 1) (nI d14)))) then (fX2_timeDownTo v (fX5_at 24 (v 0) (nI d14)) (y2_14 - (fX5_at 24 (v 1) (nI d14)))) else y3_14)), (0, .ref (q 0)), (1, .int x1), (2, .int y2_14), (4, .int (nI d14))]) hC.1 hC.2.1 dX2_waitOfPart_59 rfl hl (by decide) rfl (fun ls hl => ?_)
          refine lv_iinc (v := nI (d14 + 1)) (lv' := [(4, .int (nI (d14 + 1))), (3, .int (if y3_14 < (fX2_timeDownTo v (fX5_at 24 (v 0) (nI d14)) (y2_14 - (fX5_at 24 (v 1) (nI d14)))) then (fX2_timeDownTo v (fX5_at 24 (v 0) (nI d14)) (y2_14 - (fX5_at 24 (v 1) (nI d14)))) else y3_14)), (0, .ref (q 0)), (1, .int x1), (2, .int y2_14)]) hC.1 hC.2.1 dX2_waitOfPart_60 hl (k := 4) rfl (nI_1 _) (by decide) rfl (fun ls hl => ?_)
          refine lv_goto (tgt := 14) hC.1 hC.2.1 dX2_waitOfPart_63 (by decide) ?_
          have e_3 : bX2_waitOfPart_14 v x1 y2_14 d14 y3_14 = (if y3_14 < (fX2_timeDownTo v (fX5_at 24 (v 0) (nI d14)) (y2_14 - (fX5_at 24 (v 1) (nI d14)))) then (fX2_timeDownTo v (fX5_at 24 (v 0) (nI d14)) (y2_14 - (fX5_at 24 (v 1) (nI d14)))) else y3_14) := by exact Eq.trans (if_pos k28) rfl
          have hg : fX2_waitOfPart v x1 = (tX2_waitOfPart_14 v x1 y2_14 (lpF n14 (d14 + 1) (bX2_waitOfPart_14 v x1 y2_14) (if y3_14 < (fX2_timeDownTo v (fX5_at 24 (v 0) (nI d14)) (y2_14 - (fX5_at 24 (v 1) (nI d14)))) then (fX2_timeDownTo v (fX5_at 24 (v 0) (nI d14)) (y2_14 - (fX5_at 24 (v 1) (nI d14)))) else y3_14))) := hg.trans (congrArg (fun z => (tX2_waitOfPart_14 v x1 y2_14 (lpF n14 (d14 + 1) (bX2_waitOfPart_14 v x1 y2_14) z))) e_3)
          exact ih (d14 + 1) (if y3_14 < (fX2_timeDownTo v (fX5_at 24 (v 0) (nI d14)) (y2_14 - (fX5_at 24 (v 1) (nI d14)))) then (fX2_timeDownTo v (fX5_at 24 (v 0) (nI d14)) (y2_14 - (fX5_at 24 (v 1) (nI d14)))) else y3_14) (by omega) hg _ (lv_sub hl [2, 3, 4, 1, 0] rfl)
  have e_4 : fX2_waitOfPart v x1 = tX2_waitOfPart_14 v x1 (fX5_at 7 (v 2) 2) (lpF 24 0 (bX2_waitOfPart_14 v x1 (fX5_at 7 (v 2) 2)) 0) := by exact rfl
  have hg : fX2_waitOfPart v x1 = (tX2_waitOfPart_14 v x1 (fX5_at 7 (v 2) 2) (lpF 24 0 (bX2_waitOfPart_14 v x1 (fX5_at 7 (v 2) 2)) 0)) := hg.trans (congrArg (fun z => z) e_4)
  exact L14 (fX5_at 7 (v 2) 2) 24 0 0 (by omega) hg _ (lv_sub hl [3, 4, 2, 1, 0] rfl)
