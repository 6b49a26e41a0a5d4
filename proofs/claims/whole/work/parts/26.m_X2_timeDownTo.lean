theorem dX2_timeDownTo_0 : decode cX2_timeDownTo 0 = .ok (.aload_n 0, 1) := by decide +kernel
theorem dX2_timeDownTo_1 : decode cX2_timeDownTo 1 = .ok (.getfield 21, 3) := by decide +kernel
theorem dX2_timeDownTo_4 : decode cX2_timeDownTo 4 = .ok (.iconst 1, 1) := by decide +kernel
theorem dX2_timeDownTo_5 : decode cX2_timeDownTo 5 = .ok (.invokestatic 59, 3) := by decide +kernel
theorem dX2_timeDownTo_8 : decode cX2_timeDownTo 8 = .ok (.istore_n 3, 1) := by decide +kernel
theorem dX2_timeDownTo_9 : decode cX2_timeDownTo 9 = .ok (.iload_n 1, 1) := by decide +kernel
theorem dX2_timeDownTo_10 : decode cX2_timeDownTo 10 = .ok (.istore 4, 2) := by decide +kernel
theorem dX2_timeDownTo_12 : decode cX2_timeDownTo 12 = .ok (.iconst 0, 1) := by decide +kernel
theorem dX2_timeDownTo_13 : decode cX2_timeDownTo 13 = .ok (.istore 5, 2) := by decide +kernel
theorem dX2_timeDownTo_15 : decode cX2_timeDownTo 15 = .ok (.iload 4, 2) := by decide +kernel
theorem dX2_timeDownTo_17 : decode cX2_timeDownTo 17 = .ok (.iload_n 2, 1) := by decide +kernel
theorem dX2_timeDownTo_18 : decode cX2_timeDownTo 18 = .ok (.if_icmp .le 24, 3) := by decide +kernel
theorem dX2_timeDownTo_21 : decode cX2_timeDownTo 21 = .ok (.iload 5, 2) := by decide +kernel
theorem dX2_timeDownTo_23 : decode cX2_timeDownTo 23 = .ok (.ldc 149, 2) := by decide +kernel
theorem dX2_timeDownTo_25 : decode cX2_timeDownTo 25 = .ok (.if_icmp .ge 17, 3) := by decide +kernel
theorem dX2_timeDownTo_28 : decode cX2_timeDownTo 28 = .ok (.iload 4, 2) := by decide +kernel
theorem dX2_timeDownTo_30 : decode cX2_timeDownTo 30 = .ok (.iload_n 3, 1) := by decide +kernel
theorem dX2_timeDownTo_31 : decode cX2_timeDownTo 31 = .ok (.invokestatic 146, 3) := by decide +kernel
theorem dX2_timeDownTo_34 : decode cX2_timeDownTo 34 = .ok (.istore 4, 2) := by decide +kernel
theorem dX2_timeDownTo_36 : decode cX2_timeDownTo 36 = .ok (.iinc 5 1, 3) := by decide +kernel
theorem dX2_timeDownTo_39 : decode cX2_timeDownTo 39 = .ok (.goto (-24), 3) := by decide +kernel
theorem dX2_timeDownTo_42 : decode cX2_timeDownTo 42 = .ok (.iload 5, 2) := by decide +kernel
theorem dX2_timeDownTo_44 : decode cX2_timeDownTo 44 = .ok (.ireturn, 1) := by decide +kernel
set_option maxHeartbeats 1000000 in
set_option maxRecDepth 100000 in
theorem c_X2_timeDownTo (l : Launch) (G : GT) (q : Nat → Nat) (v : SV) (x1 : Int32) (x2 : Int32) : Met l yX2_timeDownTo (Cond.code yX2_timeDownTo cX2_timeDownTo 6 (some .int) :: bigW) ({ frames := 1, cells := 0, slots := 0, locals := 22 }) (BP G [.ref (q 0), .int x1, .int x2] (fun U H => PW G (stW G q v) H)) (QP (.int (fX2_timeDownTo v x1 x2))) 0 0 (fun _ => False) := by
  refine met_of (by decide) (Nat.le_of_ble_eq_true rfl) ?_
  intro p e s m below meth c ls hC hKN hB0 hl
  have hP := hB0
  have hl : lv_has ls 6 [(0, .ref (q 0)), (1, .int x1), (2, .int x2)] := hl
  have hg : fX2_timeDownTo v x1 x2 = fX2_timeDownTo v x1 x2 := rfl
  refine lv_aload_n hC.1 hC.2.1 dX2_timeDownTo_0 rfl (lv_at hl 0 rfl) ?_
  refine gf (v := .ref (q 3)) hC fwX2 hKN hP 0 rfl rfl 2 (by decide) rfl wd_118 rfl dX2_timeDownTo_1 ?_
  refine lv_iconst (v := 1) hC.1 hC.2.1 dX2_timeDownTo_4 (by decide) ?_
  refine runP (rSN (B := fun U H => RD (q 3) 7 (v 2) U H) (As := [.ref (q 3), .int 1]) (rest := []) hC mwX5_at (c_X5_at l G (q 3) 7 (v 2) 1) wd_249 (nm_5 hKN) ⟨rfl, rfl⟩ ⟨Nat.le_of_ble_eq_true rfl, Nat.le_of_ble_eq_true rfl⟩ (stb_RD _ _ _) hKN (RD.ofP hKN hP 3 rfl) rfl hl.1 rfl (Nat.le_of_ble_eq_true rfl) dX2_timeDownTo_5 ⟨Nat.zero_le _, Nat.zero_le _⟩) ?_
  refine lv_istore_n (lv' := [(3, .int (fX5_at 7 (v 2) 1)), (0, .ref (q 0)), (1, .int x1), (2, .int x2)]) hC.1 hC.2.1 dX2_timeDownTo_8 rfl hl (by decide) rfl (fun ls hl => ?_)
  refine lv_iload_n hC.1 hC.2.1 dX2_timeDownTo_9 rfl (lv_at hl 2 rfl) ?_
  refine lv_istore (lv' := [(4, .int x1), (3, .int (fX5_at 7 (v 2) 1)), (0, .ref (q 0)), (1, .int x1), (2, .int x2)]) hC.1 hC.2.1 dX2_timeDownTo_10 hl (by decide) rfl (fun ls hl => ?_)
  refine lv_iconst (v := 0) hC.1 hC.2.1 dX2_timeDownTo_12 (by decide) ?_
  refine lv_istore (lv' := [(5, .int 0), (4, .int x1), (3, .int (fX5_at 7 (v 2) 1)), (0, .ref (q 0)), (1, .int x1), (2, .int x2)]) hC.1 hC.2.1 dX2_timeDownTo_13 hl (by decide) rfl (fun ls hl => ?_)
  have A15 : ∀ (y3_15 : Int32), ∀ (y4_15 : Int32) (y5_15 : Int32), fX2_timeDownTo v x1 x2 = (tX2_timeDownTo_15 v x1 x2 y3_15 (y4_15, y5_15)) → ∀ (ls : Array Slot), lv_has ls 6 [(5, .int y5_15)] → W p l e ({ frames := 1, cells := 0, slots := 0, locals := 22 }) s m ([.ref (q 0), .int x1, .int x2] : List Value).toArray below meth c s.heap [] 0 0 (MQ below (QP (.int (fX2_timeDownTo v x1 x2))) ([.ref (q 0), .int x1, .int x2] : List Value).toArray s 0 0 (fun _ => False)) (F0 m 42 ls []) := by
    intro y3_15 y4_15 y5_15 hg ls hl
    refine lv_iload hC.1 hC.2.1 dX2_timeDownTo_42 (lv_at hl 0 rfl) ?_
    have e_1 : tX2_timeDownTo_15 v x1 x2 y3_15 (y4_15, y5_15) = y5_15 := by exact rfl
    have hg : fX2_timeDownTo v x1 x2 = y5_15 := hg.trans (congrArg (fun z => z) e_1)
    exact eP_i hC (congrArg Value.int hg) dX2_timeDownTo_44
  have L15 : ∀ (y3_15 : Int32), ∀ (n15 : Nat), ∀ (y4_15 : Int32) (y5_15 : Int32), lpT n15 (bX2_timeDownTo_15 v x1 x2 y3_15) (y4_15, y5_15) → fX2_timeDownTo v x1 x2 = (tX2_timeDownTo_15 v x1 x2 y3_15 (lpB n15 (bX2_timeDownTo_15 v x1 x2 y3_15) (y4_15, y5_15))) → ∀ (ls : Array Slot), lv_has ls 6 [(2, .int x2), (3, .int y3_15), (4, .int y4_15), (5, .int y5_15)] → W p l e ({ frames := 1, cells := 0, slots := 0, locals := 22 }) s m ([.ref (q 0), .int x1, .int x2] : List Value).toArray below meth c s.heap [] 0 0 (MQ below (QP (.int (fX2_timeDownTo v x1 x2))) ([.ref (q 0), .int x1, .int x2] : List Value).toArray s 0 0 (fun _ => False)) (F0 m 15 ls []) := by
    intro y3_15
    intro n15
    induction n15 with
    | zero =>
      intro y4_15 y5_15 hT
      exact hT.elim
    | succ n15 ih =>
      intro y4_15 y5_15 hT hg ls hl
      have hg : fX2_timeDownTo v x1 x2 = (tX2_timeDownTo_15 v x1 x2 y3_15 (lpBs n15 (bX2_timeDownTo_15 v x1 x2 y3_15) (bX2_timeDownTo_15 v x1 x2 y3_15 (y4_15, y5_15)))) := hg
      have hT : lpTs n15 (bX2_timeDownTo_15 v x1 x2 y3_15) (bX2_timeDownTo_15 v x1 x2 y3_15 (y4_15, y5_15)) := hT
      refine lv_iload hC.1 hC.2.1 dX2_timeDownTo_15 (lv_at hl 2 rfl) ?_
      refine lv_iload_n hC.1 hC.2.1 dX2_timeDownTo_17 rfl (lv_at hl 0 rfl) ?_
      refine lv_icmp_le (tgt := 42) hC.1 hC.2.1 dX2_timeDownTo_18 (by decide) (fun k18 => ?_) (fun k18 => ?_)
      · have e_2 : bX2_timeDownTo_15 v x1 x2 y3_15 (y4_15, y5_15) = (false, (y4_15, y5_15)) := by exact Eq.trans (if_pos k18) rfl
        have hg : fX2_timeDownTo v x1 x2 = (tX2_timeDownTo_15 v x1 x2 y3_15 (y4_15, y5_15)) := hg.trans (congrArg (fun z => (tX2_timeDownTo_15 v x1 x2 y3_15 (lpBs n15 (bX2_timeDownTo_15 v x1 x2 y3_15) z))) e_2)
        have hT : lpTs n15 (bX2_timeDownTo_15 v x1 x2 y3_15) (false, (y4_15, y5_15)) := by rw [← e_2]; exact hT
        exact A15 y3_15 y4_15 y5_15 hg _ (lv_sub hl [3] rfl)
      · refine lv_iload hC.1 hC.2.1 dX2_timeDownTo_21 (lv_at hl 3 rfl) ?_
        refine lv_ldc (v := 1000000) hC.1 hC.2.1 hC.2.2.2.2.1 (hC.2.2.2.2.2.2.1 _ wd_453) dX2_timeDownTo_23 ?_
        refine lv_icmp_ge (tgt := 42) hC.1 hC.2.1 dX2_timeDownTo_25 (by decide) (fun k25 => ?_) (fun k25 => ?_)
        · have e_3 : bX2_timeDownTo_15 v x1 x2 y3_15 (y4_15, y5_15) = (false, (y4_15, y5_15)) := by exact Eq.trans (if_neg k18) (Eq.trans (if_pos k25) rfl)
          have hg : fX2_timeDownTo v x1 x2 = (tX2_timeDownTo_15 v x1 x2 y3_15 (y4_15, y5_15)) := hg.trans (congrArg (fun z => (tX2_timeDownTo_15 v x1 x2 y3_15 (lpBs n15 (bX2_timeDownTo_15 v x1 x2 y3_15) z))) e_3)
          have hT : lpTs n15 (bX2_timeDownTo_15 v x1 x2 y3_15) (false, (y4_15, y5_15)) := by rw [← e_3]; exact hT
          exact A15 y3_15 y4_15 y5_15 hg _ (lv_sub hl [3] rfl)
        · refine lv_iload hC.1 hC.2.1 dX2_timeDownTo_28 (lv_at hl 2 rfl) ?_
          refine lv_iload_n hC.1 hC.2.1 dX2_timeDownTo_30 rfl (lv_at hl 1 rfl) ?_
          refine runP (rS (B := fun U H => True) (As := [.int y4_15, .int y3_15]) (rest := []) hC mwX2_cooled (c_X2_cooled l G y4_15 y3_15) wd_455 wd_454 ⟨rfl, rfl⟩ ⟨Nat.le_of_ble_eq_true rfl, Nat.le_of_ble_eq_true rfl⟩ (fun _ _ _ _ h => h) hKN trivial rfl hl.1 rfl (Nat.le_of_ble_eq_true rfl) dX2_timeDownTo_31 ⟨Nat.zero_le _, Nat.zero_le _⟩) ?_
          refine lv_istore (lv' := [(4, .int (fX2_cooled y4_15 y3_15)), (2, .int x2), (3, .int y3_15), (5, .int y5_15)]) hC.1 hC.2.1 dX2_timeDownTo_34 hl (by decide) rfl (fun ls hl => ?_)
          refine lv_iinc (v := y5_15 + 1) (lv' := [(5, .int (y5_15 + 1)), (4, .int (fX2_cooled y4_15 y3_15)), (2, .int x2), (3, .int y3_15)]) hC.1 hC.2.1 dX2_timeDownTo_36 hl (k := 3) rfl rfl (by decide) rfl (fun ls hl => ?_)
          refine lv_goto (tgt := 15) hC.1 hC.2.1 dX2_timeDownTo_39 (by decide) ?_
          have e_4 : bX2_timeDownTo_15 v x1 x2 y3_15 (y4_15, y5_15) = (true, (fX2_cooled y4_15 y3_15, y5_15 + 1)) := by exact Eq.trans (if_neg k18) (Eq.trans (if_neg k25) rfl)
          have hg : fX2_timeDownTo v x1 x2 = (tX2_timeDownTo_15 v x1 x2 y3_15 (lpB n15 (bX2_timeDownTo_15 v x1 x2 y3_15) (fX2_cooled y4_15 y3_15, y5_15 + 1))) := hg.trans (congrArg (fun z => (tX2_timeDownTo_15 v x1 x2 y3_15 (lpBs n15 (bX2_timeDownTo_15 v x1 x2 y3_15) z))) e_4)
          have hT : lpTs n15 (bX2_timeDownTo_15 v x1 x2 y3_15) (true, (fX2_cooled y4_15 y3_15, y5_15 + 1)) := by rw [← e_4]; exact hT
          exact ih (fX2_cooled y4_15 y3_15) (y5_15 + 1) (lpT_go hT) hg _ (lv_sub hl [2, 3, 1, 0] rfl)
  have e_5 : fX2_timeDownTo v x1 x2 = tX2_timeDownTo_15 v x1 x2 (fX5_at 7 (v 2) 1) (lpB (mS + 1) (bX2_timeDownTo_15 v x1 x2 (fX5_at 7 (v 2) 1)) (x1, 0)) := by exact rfl
  have hg : fX2_timeDownTo v x1 x2 = (tX2_timeDownTo_15 v x1 x2 (fX5_at 7 (v 2) 1) (lpB (mS + 1) (bX2_timeDownTo_15 v x1 x2 (fX5_at 7 (v 2) 1)) (x1, 0))) := hg.trans (congrArg (fun z => z) e_5)
  exact L15 (fX5_at 7 (v 2) 1) (mS + 1) x1 0 (T_timeDownTo v x1 x2 _ _) hg _ (lv_sub hl [5, 2, 1, 0] rfl)
