theorem dX2_hottestDot_0 : decode cX2_hottestDot 0 = .ok (.iconst 0, 1) := by decide +kernel
theorem dX2_hottestDot_1 : decode cX2_hottestDot 1 = .ok (.istore_n 1, 1) := by decide +kernel
theorem dX2_hottestDot_2 : decode cX2_hottestDot 2 = .ok (.iconst 0, 1) := by decide +kernel
theorem dX2_hottestDot_3 : decode cX2_hottestDot 3 = .ok (.istore_n 2, 1) := by decide +kernel
theorem dX2_hottestDot_4 : decode cX2_hottestDot 4 = .ok (.iload_n 2, 1) := by decide +kernel
theorem dX2_hottestDot_5 : decode cX2_hottestDot 5 = .ok (.aload_n 0, 1) := by decide +kernel
theorem dX2_hottestDot_6 : decode cX2_hottestDot 6 = .ok (.getfield 9, 3) := by decide +kernel
theorem dX2_hottestDot_9 : decode cX2_hottestDot 9 = .ok (.arraylength, 1) := by decide +kernel
theorem dX2_hottestDot_10 : decode cX2_hottestDot 10 = .ok (.if_icmp .ge 20, 3) := by decide +kernel
theorem dX2_hottestDot_13 : decode cX2_hottestDot 13 = .ok (.iload_n 1, 1) := by decide +kernel
theorem dX2_hottestDot_14 : decode cX2_hottestDot 14 = .ok (.aload_n 0, 1) := by decide +kernel
theorem dX2_hottestDot_15 : decode cX2_hottestDot 15 = .ok (.getfield 9, 3) := by decide +kernel
theorem dX2_hottestDot_18 : decode cX2_hottestDot 18 = .ok (.iload_n 2, 1) := by decide +kernel
theorem dX2_hottestDot_19 : decode cX2_hottestDot 19 = .ok (.iaload, 1) := by decide +kernel
theorem dX2_hottestDot_20 : decode cX2_hottestDot 20 = .ok (.invokestatic 114, 3) := by decide +kernel
theorem dX2_hottestDot_23 : decode cX2_hottestDot 23 = .ok (.istore_n 1, 1) := by decide +kernel
theorem dX2_hottestDot_24 : decode cX2_hottestDot 24 = .ok (.iinc 2 1, 3) := by decide +kernel
theorem dX2_hottestDot_27 : decode cX2_hottestDot 27 = .ok (.goto (-23), 3) := by decide +kernel
theorem dX2_hottestDot_30 : decode cX2_hottestDot 30 = .ok (.iload_n 1, 1) := by decide +kernel
theorem dX2_hottestDot_31 : decode cX2_hottestDot 31 = .ok (.ireturn, 1) := by decide +kernel
set_option maxHeartbeats 1000000 in
set_option maxRecDepth 100000 in
theorem c_X2_hottestDot (l : Launch) (G : GT) (q : Nat → Nat) (v : SV) : Met l yX2_hottestDot (Cond.code yX2_hottestDot cX2_hottestDot 3 (some .int) :: bigW) ({ frames := 1, cells := 0, slots := 0, locals := 24 }) (BP G [.ref (q 0)] (fun U H => PW G (stW G q v) H)) (QP (.int (fX2_hottestDot v))) 0 0 (fun _ => False) := by
  refine met_of (by decide) (Nat.le_of_ble_eq_true rfl) ?_
  intro p e s m below meth c ls hC hKN hB0 hl
  have hP := hB0
  have hl : lv_has ls 3 [(0, .ref (q 0))] := hl
  have hg : fX2_hottestDot v = fX2_hottestDot v := rfl
  refine lv_iconst (v := 0) hC.1 hC.2.1 dX2_hottestDot_0 (by decide) ?_
  refine lv_istore_n (lv' := [(1, .int 0), (0, .ref (q 0))]) hC.1 hC.2.1 dX2_hottestDot_1 rfl hl (by decide) rfl (fun ls hl => ?_)
  refine lv_iconst (v := 0) hC.1 hC.2.1 dX2_hottestDot_2 (by decide) ?_
  refine lv_istore_n (lv' := [(2, .int 0), (1, .int 0), (0, .ref (q 0))]) hC.1 hC.2.1 dX2_hottestDot_3 rfl hl (by decide) rfl (fun ls hl => ?_)
  have A4 : ∀ (y1_4 : Int32), fX2_hottestDot v = (tX2_hottestDot_4 v y1_4) → ∀ (ls : Array Slot), lv_has ls 3 [(1, .int y1_4)] → W p l e ({ frames := 1, cells := 0, slots := 0, locals := 24 }) s m ([.ref (q 0)] : List Value).toArray below meth c s.heap [] 0 0 (MQ below (QP (.int (fX2_hottestDot v))) ([.ref (q 0)] : List Value).toArray s 0 0 (fun _ => False)) (F0 m 30 ls []) := by
    intro  y1_4 hg ls hl
    refine lv_iload_n hC.1 hC.2.1 dX2_hottestDot_30 rfl (lv_at hl 0 rfl) ?_
    have e_1 : tX2_hottestDot_4 v y1_4 = y1_4 := by exact rfl
    have hg : fX2_hottestDot v = y1_4 := hg.trans (congrArg (fun z => z) e_1)
    exact eP_i hC (congrArg Value.int hg) dX2_hottestDot_31
  have L4 : ∀ (n4 d4 : Nat), ∀ (y1_4 : Int32), d4 + n4 = 24 → fX2_hottestDot v = (tX2_hottestDot_4 v (lpF n4 d4 (bX2_hottestDot_4 v) y1_4)) → ∀ (ls : Array Slot), lv_has ls 3 [(0, .ref (q 0)), (1, .int y1_4), (2, .int (nI d4))] → W p l e ({ frames := 1, cells := 0, slots := 0, locals := 24 }) s m ([.ref (q 0)] : List Value).toArray below meth c s.heap [] 0 0 (MQ below (QP (.int (fX2_hottestDot v))) ([.ref (q 0)] : List Value).toArray s 0 0 (fun _ => False)) (F0 m 4 ls []) := by
    intro n4
    induction n4 with
    | zero =>
      intro d4 y1_4 hd hg ls hl
      refine lv_iload_n hC.1 hC.2.1 dX2_hottestDot_4 rfl (lv_at hl 2 rfl) ?_
      refine lv_aload_n hC.1 hC.2.1 dX2_hottestDot_5 rfl (lv_at hl 0 rfl) ?_
      refine gf (v := .ref (q 1)) hC fwX2 hKN hP 0 rfl rfl 0 (by decide) rfl wd_116 rfl dX2_hottestDot_6 ?_
      refine alen_n hC hKN hP 1 rfl dX2_hottestDot_9 ?_
      refine lv_icmp_ge (tgt := 30) hC.1 hC.2.1 dX2_hottestDot_10 (by decide) (fun k10 => ?_) (fun k10 => ?_)
      · exact A4  y1_4 hg _ (lv_sub hl [1] rfl)
      · exact absurd (nI_le (a := 24) (b := d4) (by omega) (by omega)) k10
    | succ n4 ih =>
      intro d4 y1_4 hd hg ls hl
      have hg : fX2_hottestDot v = (tX2_hottestDot_4 v (lpF n4 (d4 + 1) (bX2_hottestDot_4 v) (bX2_hottestDot_4 v d4 y1_4))) := hg
      refine lv_iload_n hC.1 hC.2.1 dX2_hottestDot_4 rfl (lv_at hl 2 rfl) ?_
      refine lv_aload_n hC.1 hC.2.1 dX2_hottestDot_5 rfl (lv_at hl 0 rfl) ?_
      refine gf (v := .ref (q 1)) hC fwX2 hKN hP 0 rfl rfl 0 (by decide) rfl wd_116 rfl dX2_hottestDot_6 ?_
      refine alen_n hC hKN hP 1 rfl dX2_hottestDot_9 ?_
      refine lv_icmp_ge (tgt := 30) hC.1 hC.2.1 dX2_hottestDot_10 (by decide) (fun k10 => ?_) (fun k10 => ?_)
      · exact absurd k10 (nI_ge (a := d4) (b := 24) (by omega) (by omega))
      · refine lv_iload_n hC.1 hC.2.1 dX2_hottestDot_13 rfl (lv_at hl 1 rfl) ?_
        refine lv_aload_n hC.1 hC.2.1 dX2_hottestDot_14 rfl (lv_at hl 0 rfl) ?_
        refine gf (v := .ref (q 1)) hC fwX2 hKN hP 0 rfl rfl 0 (by decide) rfl wd_116 rfl dX2_hottestDot_15 ?_
        refine lv_iload_n hC.1 hC.2.1 dX2_hottestDot_18 rfl (lv_at hl 2 rfl) ?_
        refine iald_k hC hKN hP 1 rfl (n := 24) (f := (v 0)) d4 (rfl) (by omega) (by decide) dX2_hottestDot_19 ?_
        refine va_mmax hC.1 hC.2.1 (hC.2.2.2.1.trans hl.1.symm) hC.2.2.2.2.1 (hC.2.2.2.2.2.2.1 _ wd_412) (hC.2.2.2.2.2.2.1 _ wd_413) (hC.2.2.2.2.2.2.1 _ wd_3) (hC.2.2.2.2.2.2.1 _ wd_414) (Nat.le_of_ble_eq_true rfl) (Nat.le_of_ble_eq_true rfl) (Nat.zero_le _) (Nat.zero_le _) dX2_hottestDot_20 ?_
        refine lv_istore_n (lv' := [(1, .int (if y1_4 < ((v 0) d4) then ((v 0) d4) else y1_4)), (0, .ref (q 0)), (2, .int (nI d4))]) hC.1 hC.2.1 dX2_hottestDot_23 rfl hl (by decide) rfl (fun ls hl => ?_)
        refine lv_iinc (v := nI (d4 + 1)) (lv' := [(2, .int (nI (d4 + 1))), (1, .int (if y1_4 < ((v 0) d4) then ((v 0) d4) else y1_4)), (0, .ref (q 0))]) hC.1 hC.2.1 dX2_hottestDot_24 hl (k := 2) rfl (nI_1 _) (by decide) rfl (fun ls hl => ?_)
        refine lv_goto (tgt := 4) hC.1 hC.2.1 dX2_hottestDot_27 (by decide) ?_
        have e_2 : bX2_hottestDot_4 v d4 y1_4 = (if y1_4 < ((v 0) d4) then ((v 0) d4) else y1_4) := by exact rfl
        have hg : fX2_hottestDot v = (tX2_hottestDot_4 v (lpF n4 (d4 + 1) (bX2_hottestDot_4 v) (if y1_4 < ((v 0) d4) then ((v 0) d4) else y1_4))) := hg.trans (congrArg (fun z => (tX2_hottestDot_4 v (lpF n4 (d4 + 1) (bX2_hottestDot_4 v) z))) e_2)
        exact ih (d4 + 1) (if y1_4 < ((v 0) d4) then ((v 0) d4) else y1_4) (by omega) hg _ (lv_sub hl [2, 1, 0] rfl)
  have e_3 : fX2_hottestDot v = tX2_hottestDot_4 v (lpF 24 0 (bX2_hottestDot_4 v) 0) := by exact rfl
  have hg : fX2_hottestDot v = (tX2_hottestDot_4 v (lpF 24 0 (bX2_hottestDot_4 v) 0)) := hg.trans (congrArg (fun z => z) e_3)
  exact L4  24 0 0 (by omega) hg _ (lv_sub hl [2, 1, 0] rfl)
