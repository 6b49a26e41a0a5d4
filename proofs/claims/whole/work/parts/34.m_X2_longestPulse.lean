theorem dX2_longestPulse_0 : decode cX2_longestPulse 0 = .ok (.iconst 0, 1) := by decide +kernel
theorem dX2_longestPulse_1 : decode cX2_longestPulse 1 = .ok (.istore_n 2, 1) := by decide +kernel
theorem dX2_longestPulse_2 : decode cX2_longestPulse 2 = .ok (.iconst 0, 1) := by decide +kernel
theorem dX2_longestPulse_3 : decode cX2_longestPulse 3 = .ok (.istore_n 3, 1) := by decide +kernel
theorem dX2_longestPulse_4 : decode cX2_longestPulse 4 = .ok (.iload_n 3, 1) := by decide +kernel
theorem dX2_longestPulse_5 : decode cX2_longestPulse 5 = .ok (.aload_n 0, 1) := by decide +kernel
theorem dX2_longestPulse_6 : decode cX2_longestPulse 6 = .ok (.getfield 15, 3) := by decide +kernel
theorem dX2_longestPulse_9 : decode cX2_longestPulse 9 = .ok (.arraylength, 1) := by decide +kernel
theorem dX2_longestPulse_10 : decode cX2_longestPulse 10 = .ok (.if_icmp .ge 29, 3) := by decide +kernel
theorem dX2_longestPulse_13 : decode cX2_longestPulse 13 = .ok (.iload_n 1, 1) := by decide +kernel
theorem dX2_longestPulse_14 : decode cX2_longestPulse 14 = .ok (.iload_n 3, 1) := by decide +kernel
theorem dX2_longestPulse_15 : decode cX2_longestPulse 15 = .ok (.invokestatic 124, 3) := by decide +kernel
theorem dX2_longestPulse_18 : decode cX2_longestPulse 18 = .ok (.iconst 1, 1) := by decide +kernel
theorem dX2_longestPulse_19 : decode cX2_longestPulse 19 = .ok (.if_icmp .ne 14, 3) := by decide +kernel
theorem dX2_longestPulse_22 : decode cX2_longestPulse 22 = .ok (.iload_n 2, 1) := by decide +kernel
theorem dX2_longestPulse_23 : decode cX2_longestPulse 23 = .ok (.aload_n 0, 1) := by decide +kernel
theorem dX2_longestPulse_24 : decode cX2_longestPulse 24 = .ok (.getfield 15, 3) := by decide +kernel
theorem dX2_longestPulse_27 : decode cX2_longestPulse 27 = .ok (.iload_n 3, 1) := by decide +kernel
theorem dX2_longestPulse_28 : decode cX2_longestPulse 28 = .ok (.iaload, 1) := by decide +kernel
theorem dX2_longestPulse_29 : decode cX2_longestPulse 29 = .ok (.invokestatic 114, 3) := by decide +kernel
theorem dX2_longestPulse_32 : decode cX2_longestPulse 32 = .ok (.istore_n 2, 1) := by decide +kernel
theorem dX2_longestPulse_33 : decode cX2_longestPulse 33 = .ok (.iinc 3 1, 3) := by decide +kernel
theorem dX2_longestPulse_36 : decode cX2_longestPulse 36 = .ok (.goto (-32), 3) := by decide +kernel
theorem dX2_longestPulse_39 : decode cX2_longestPulse 39 = .ok (.iload_n 2, 1) := by decide +kernel
theorem dX2_longestPulse_40 : decode cX2_longestPulse 40 = .ok (.ireturn, 1) := by decide +kernel
set_option maxHeartbeats 1000000 in
set_option maxRecDepth 100000 in
theorem c_X2_longestPulse (l : Launch) (G : GT) (q : Nat → Nat) (v : SV) (x1 : Int32) : Met l yX2_longestPulse (Cond.code yX2_longestPulse cX2_longestPulse 4 (some .int) :: bigW) ({ frames := 1, cells := 0, slots := 0, locals := 24 }) (BP G [.ref (q 0), .int x1] (fun U H => PW G (stW G q v) H)) (QP (.int (fX2_longestPulse v x1))) 0 0 (fun _ => False) := by
  refine met_of (by decide) (Nat.le_of_ble_eq_true rfl) ?_
  intro p e s m below meth c ls hC hKN hB0 hl
  have hP := hB0
  have hl : lv_has ls 4 [(0, .ref (q 0)), (1, .int x1)] := hl
  have hg : fX2_longestPulse v x1 = fX2_longestPulse v x1 := rfl
  refine lv_iconst (v := 0) hC.1 hC.2.1 dX2_longestPulse_0 (by decide) ?_
  refine lv_istore_n (lv' := [(2, .int 0), (0, .ref (q 0)), (1, .int x1)]) hC.1 hC.2.1 dX2_longestPulse_1 rfl hl (by decide) rfl (fun ls hl => ?_)
  refine lv_iconst (v := 0) hC.1 hC.2.1 dX2_longestPulse_2 (by decide) ?_
  refine lv_istore_n (lv' := [(3, .int 0), (2, .int 0), (0, .ref (q 0)), (1, .int x1)]) hC.1 hC.2.1 dX2_longestPulse_3 rfl hl (by decide) rfl (fun ls hl => ?_)
  have A4 : ∀ (y2_4 : Int32), fX2_longestPulse v x1 = (tX2_longestPulse_4 v x1 y2_4) → ∀ (ls : Array Slot), lv_has ls 4 [(2, .int y2_4)] → W p l e ({ frames := 1, cells := 0, slots := 0, locals := 24 }) s m ([.ref (q 0), .int x1] : List Value).toArray below meth c s.heap [] 0 0 (MQ below (QP (.int (fX2_longestPulse v x1))) ([.ref (q 0), .int x1] : List Value).toArray s 0 0 (fun _ => False)) (F0 m 39 ls []) := by
    intro  y2_4 hg ls hl
    refine lv_iload_n hC.1 hC.2.1 dX2_longestPulse_39 rfl (lv_at hl 0 rfl) ?_
    have e_1 : tX2_longestPulse_4 v x1 y2_4 = y2_4 := by exact rfl
    have hg : fX2_longestPulse v x1 = y2_4 := hg.trans (congrArg (fun z => z) e_1)
    exact eP_i hC (congrArg Value.int hg) dX2_longestPulse_40
  have L4 : ∀ (n4 d4 : Nat), ∀ (y2_4 : Int32), d4 + n4 = 24 → fX2_longestPulse v x1 = (tX2_longestPulse_4 v x1 (lpF n4 d4 (bX2_longestPulse_4 v x1) y2_4)) → ∀ (ls : Array Slot), lv_has ls 4 [(0, .ref (q 0)), (1, .int x1), (2, .int y2_4), (3, .int (nI d4))] → W p l e ({ frames := 1, cells := 0, slots := 0, locals := 24 }) s m ([.ref (q 0), .int x1] : List Value).toArray below meth c s.heap [] 0 0 (MQ below (QP (.int (fX2_longestPulse v x1))) ([.ref (q 0), .int x1] : List Value).toArray s 0 0 (fun _ => False)) (F0 m 4 ls []) := by
    intro n4
    induction n4 with
    | zero =>
      intro d4 y2_4 hd hg ls hl
      refine lv_iload_n hC.1 hC.2.1 dX2_longestPulse_4 rfl (lv_at hl 3 rfl) ?_
      refine lv_aload_n hC.1 hC.2.1 dX2_longestPulse_5 rfl (lv_at hl 0 rfl) ?_
      refine gf (v := .ref (q 2)) hC fwX2 hKN hP 0 rfl rfl 1 (by decide) rfl wd_117 rfl dX2_longestPulse_6 ?_
      refine alen_n hC hKN hP 2 rfl dX2_longestPulse_9 ?_
      refine lv_icmp_ge (tgt := 39) hC.1 hC.2.1 dX2_longestPulse_10 (by decide) (fun k10 => ?_) (fun k10 => ?_)
      · exact A4  y2_4 hg _ (lv_sub hl [2] rfl)
      · exact absurd (nI_le (a := 24) (b := d4) (by omega) (by omega)) k10
    | succ n4 ih =>
      intro d4 y2_4 hd hg ls hl
      have hg : fX2_longestPulse v x1 = (tX2_longestPulse_4 v x1 (lpF n4 (d4 + 1) (bX2_longestPulse_4 v x1) (bX2_longestPulse_4 v x1 d4 y2_4))) := hg
      refine lv_iload_n hC.1 hC.2.1 dX2_longestPulse_4 rfl (lv_at hl 3 rfl) ?_
      refine lv_aload_n hC.1 hC.2.1 dX2_longestPulse_5 rfl (lv_at hl 0 rfl) ?_
      refine gf (v := .ref (q 2)) hC fwX2 hKN hP 0 rfl rfl 1 (by decide) rfl wd_117 rfl dX2_longestPulse_6 ?_
      refine alen_n hC hKN hP 2 rfl dX2_longestPulse_9 ?_
      refine lv_icmp_ge (tgt := 39) hC.1 hC.2.1 dX2_longestPulse_10 (by decide) (fun k10 => ?_) (fun k10 => ?_)
      · exact absurd k10 (nI_ge (a := d4) (b := 24) (by omega) (by omega))
      · refine lv_iload_n hC.1 hC.2.1 dX2_longestPulse_13 rfl (lv_at hl 1 rfl) ?_
        refine lv_iload_n hC.1 hC.2.1 dX2_longestPulse_14 rfl (lv_at hl 3 rfl) ?_
        refine runP (rSN (B := fun U H => True) (As := [.int x1, .int (nI d4)]) (rest := []) hC mwX5_bitOf (c_X5_bitOf l G x1 (nI d4)) wd_433 (nm_6 hKN) ⟨rfl, rfl⟩ ⟨Nat.le_of_ble_eq_true rfl, Nat.le_of_ble_eq_true rfl⟩ (fun _ _ _ _ h => h) hKN trivial rfl hl.1 rfl (Nat.le_of_ble_eq_true rfl) dX2_longestPulse_15 ⟨Nat.zero_le _, Nat.zero_le _⟩) ?_
        refine lv_iconst (v := 1) hC.1 hC.2.1 dX2_longestPulse_18 (by decide) ?_
        refine lv_icmp_ne (tgt := 33) hC.1 hC.2.1 dX2_longestPulse_19 (by decide) (fun k19 => ?_) (fun k19 => ?_)
        · refine lv_iinc (v := nI (d4 + 1)) (lv' := [(3, .int (nI (d4 + 1))), (0, .ref (q 0)), (1, .int x1), (2, .int y2_4)]) hC.1 hC.2.1 dX2_longestPulse_33 hl (k := 3) rfl (nI_1 _) (by decide) rfl (fun ls hl => ?_)
          refine lv_goto (tgt := 4) hC.1 hC.2.1 dX2_longestPulse_36 (by decide) ?_
          have e_2 : bX2_longestPulse_4 v x1 d4 y2_4 = y2_4 := by exact Eq.trans (if_neg k19) rfl
          have hg : fX2_longestPulse v x1 = (tX2_longestPulse_4 v x1 (lpF n4 (d4 + 1) (bX2_longestPulse_4 v x1) y2_4)) := hg.trans (congrArg (fun z => (tX2_longestPulse_4 v x1 (lpF n4 (d4 + 1) (bX2_longestPulse_4 v x1) z))) e_2)
          exact ih (d4 + 1) y2_4 (by omega) hg _ (lv_sub hl [1, 2, 3, 0] rfl)
        · refine lv_iload_n hC.1 hC.2.1 dX2_longestPulse_22 rfl (lv_at hl 2 rfl) ?_
          refine lv_aload_n hC.1 hC.2.1 dX2_longestPulse_23 rfl (lv_at hl 0 rfl) ?_
          refine gf (v := .ref (q 2)) hC fwX2 hKN hP 0 rfl rfl 1 (by decide) rfl wd_117 rfl dX2_longestPulse_24 ?_
          refine lv_iload_n hC.1 hC.2.1 dX2_longestPulse_27 rfl (lv_at hl 3 rfl) ?_
          refine iald_k hC hKN hP 2 rfl (n := 24) (f := (v 1)) d4 (rfl) (by omega) (by decide) dX2_longestPulse_28 ?_
          refine va_mmax hC.1 hC.2.1 (hC.2.2.2.1.trans hl.1.symm) hC.2.2.2.2.1 (hC.2.2.2.2.2.2.1 _ wd_412) (hC.2.2.2.2.2.2.1 _ wd_413) (hC.2.2.2.2.2.2.1 _ wd_3) (hC.2.2.2.2.2.2.1 _ wd_414) (Nat.le_of_ble_eq_true rfl) (Nat.le_of_ble_eq_true rfl) (Nat.zero_le _) (Nat.zero_le _) dX2_longestPulse_29 ?_
          refine lv_istore_n (lv' := [(2, .int (if y2_4 < ((v 1) d4) then ((v 1) d4) else y2_4)), (0, .ref (q 0)), (1, .int x1), (3, .int (nI d4))]) hC.1 hC.2.1 dX2_longestPulse_32 rfl hl (by decide) rfl (fun ls hl => ?_)
          refine lv_iinc (v := nI (d4 + 1)) (lv' := [(3, .int (nI (d4 + 1))), (2, .int (if y2_4 < ((v 1) d4) then ((v 1) d4) else y2_4)), (0, .ref (q 0)), (1, .int x1)]) hC.1 hC.2.1 dX2_longestPulse_33 hl (k := 3) rfl (nI_1 _) (by decide) rfl (fun ls hl => ?_)
          refine lv_goto (tgt := 4) hC.1 hC.2.1 dX2_longestPulse_36 (by decide) ?_
          have e_3 : bX2_longestPulse_4 v x1 d4 y2_4 = (if y2_4 < ((v 1) d4) then ((v 1) d4) else y2_4) := by exact Eq.trans (if_pos k19) rfl
          have hg : fX2_longestPulse v x1 = (tX2_longestPulse_4 v x1 (lpF n4 (d4 + 1) (bX2_longestPulse_4 v x1) (if y2_4 < ((v 1) d4) then ((v 1) d4) else y2_4))) := hg.trans (congrArg (fun z => (tX2_longestPulse_4 v x1 (lpF n4 (d4 + 1) (bX2_longestPulse_4 v x1) z))) e_3)
          exact ih (d4 + 1) (if y2_4 < ((v 1) d4) then ((v 1) d4) else y2_4) (by omega) hg _ (lv_sub hl [2, 3, 1, 0] rfl)
  have e_4 : fX2_longestPulse v x1 = tX2_longestPulse_4 v x1 (lpF 24 0 (bX2_longestPulse_4 v x1) 0) := by exact rfl
  have hg : fX2_longestPulse v x1 = (tX2_longestPulse_4 v x1 (lpF 24 0 (bX2_longestPulse_4 v x1) 0)) := hg.trans (congrArg (fun z => z) e_4)
  exact L4  24 0 0 (by omega) hg _ (lv_sub hl [2, 3, 1, 0] rfl)
