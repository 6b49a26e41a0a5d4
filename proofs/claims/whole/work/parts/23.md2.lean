def fX6_atOnce (v : SV) : Int32 := if 1 ≤ (((v 0) 78) / ((v 0) 77)) then (((v 0) 78) / ((v 0) 77)) else (1)
def fX6_partsOf (v : SV) (x1 : Int32) : Int32 := (((fX6_ones x1) + (fX6_atOnce v)) - 1) / (fX6_atOnce v)
def tX6_dotsOfPart_15 (v : SV) (x1 : Int32) (x2 : Int32) (s : Int32 × Int32) : Int32 := let y4_15 := s.1; let y5_15 := s.2; y4_15
def tX6_dotsOfPart_J74 (v : SV) (x1 : Int32) (x2 : Int32) (d15 : Nat) (y4_74 : Int32) (y5_74 : Int32) (z0_74 : Int32) : Int32 × Int32 := if z0_74 = 0 then ((y4_74 ||| 0, y5_74 + 1)) else ((y4_74 ||| (1 <<< ((nI d15) &&& 31)), y5_74 + 1))
def bX6_dotsOfPart_15 (v : SV) (x1 : Int32) (x2 : Int32) (d15 : Nat) (s : Int32 × Int32) : Int32 × Int32 := let y4_15 := s.1; let y5_15 := s.2; if (fX6_bit x1 (nI d15)) = 1 then (if ((v 0) 79) = 0 then (if (y5_15 / (fX6_atOnce v)) = x2 then (tX6_dotsOfPart_J74 v x1 x2 d15 y4_15 y5_15 1) else (tX6_dotsOfPart_J74 v x1 x2 d15 y4_15 y5_15 0)) else (if (y5_15 - y5_15 / (fX6_partsOf v x1) * (fX6_partsOf v x1)) = x2 then (tX6_dotsOfPart_J74 v x1 x2 d15 y4_15 y5_15 1) else (tX6_dotsOfPart_J74 v x1 x2 d15 y4_15 y5_15 0))) else ((y4_15, y5_15))
def fX6_dotsOfPart (v : SV) (x1 : Int32) (x2 : Int32) : Int32 := tX6_dotsOfPart_15 v x1 x2 (lpF 24 0 (bX6_dotsOfPart_15 v x1 x2) (0, 0))
def tX6_isCool_5 (v : SV) (x1 : Int32) (x2 : Int32) (s : Int32) : Int32 := let y3_5 := s; y3_5
def bX6_isCool_5 (v : SV) (x1 : Int32) (x2 : Int32) (d5 : Nat) (s : Int32) : Int32 := let y3_5 := s; if y3_5 = 0 then (0) else (if (fX6_bit x2 (nI d5)) = 0 then (1) else (if ((v 0) 76) < (((v 0) d5) + (fX6_pulse v x1 (nI d5))) then (0) else (1)))
def fX6_isCool (v : SV) (x1 : Int32) (x2 : Int32) : Int32 := tX6_isCool_5 v x1 x2 (lpF 24 0 (bX6_isCool_5 v x1 x2) 1)
def tX6_printPart_5 (v : SV) (x1 : Int32) (x2 : Int32) (s : Int32 × SV) : SV × Int32 := let y3_5 := s.1; let v_5 := s.2; (v_5, y3_5)
def tX6_printPart_J127 (v : SV) (x1 : Int32) (x2 : Int32) (d5 : Nat) (y3_127 : Int32) (y6_127 : Int32) (z1_127 : Int32) (z2_127 : Int32) (v_127 : SV) : Int32 × SV := let w_6 : Int32 := z1_127 ||| z2_127; let w_8 : Int32 := ((v_127 0) (26 + d5)) + 1; if y6_127 = 0 then (let w_10 : Int32 := ((upd (v_127 0) (26 + d5) w_8) (50 + d5)) + 1; (y3_127, mkM (upd (upd (v_127 0) (26 + d5) w_8) (50 + d5) w_10) (v_127 1) (v_127 2) (v_127 3) (v_127 4) (v_127 5) (v_127 6) (v_127 7) (v_127 8 0) (v_127 8 1) (v_127 8 2) (v_127 8 3) w_6 (v_127 8 5) (v_127 8 6) (v_127 8 7) (v_127 8 8))) else (let w_13 : Int32 := ((upd (v_127 0) (26 + d5) w_8) (50 + d5)) + 0; (y3_127, mkM (upd (upd (v_127 0) (26 + d5) w_8) (50 + d5) w_13) (v_127 1) (v_127 2) (v_127 3) (v_127 4) (v_127 5) (v_127 6) (v_127 7) (v_127 8 0) (v_127 8 1) (v_127 8 2) (v_127 8 3) w_6 (v_127 8 5) (v_127 8 6) (v_127 8 7) (v_127 8 8)))
def tX6_printPart_J107 (v : SV) (x1 : Int32) (x2 : Int32) (d5 : Nat) (y3_107 : Int32) (z0_107 : Int32) (v_107 : SV) : Int32 × SV := if z0_107 = 0 then (tX6_printPart_J127 v x1 x2 d5 y3_107 z0_107 (v_107 8 4) 0 v_107) else (tX6_printPart_J127 v x1 x2 d5 y3_107 z0_107 (v_107 8 4) (1 <<< ((nI d5) &&& 31)) v_107)
def tX6_printPart_J85 (v : SV) (x1 : Int32) (x2 : Int32) (d5 : Nat) (y3_85 : Int32) (z1_85 : Int32) (v_85 : SV) : Int32 × SV := if ((v_85 0) d5) < (fX6_darkHeat (mkM (v_85 0) (v_85 1) (v_85 2) (v_85 3) (v_85 4) (v_85 5) (v_85 6) (v_85 7) (v_85 8 0) (v_85 8 1) (v_85 8 2) (v_85 8 3) (v_85 8 4) z1_85 (v_85 8 6) (v_85 8 7) (v_85 8 8))) then (tX6_printPart_J107 v x1 x2 d5 y3_85 0 (mkM (v_85 0) (v_85 1) (v_85 2) (v_85 3) (v_85 4) (v_85 5) (v_85 6) (v_85 7) (v_85 8 0) (v_85 8 1) (v_85 8 2) (v_85 8 3) (v_85 8 4) z1_85 (v_85 8 6) (v_85 8 7) (v_85 8 8))) else (tX6_printPart_J107 v x1 x2 d5 y3_85 1 (mkM (v_85 0) (v_85 1) (v_85 2) (v_85 3) (v_85 4) (v_85 5) (v_85 6) (v_85 7) (v_85 8 0) (v_85 8 1) (v_85 8 2) (v_85 8 3) (v_85 8 4) z1_85 (v_85 8 6) (v_85 8 7) (v_85 8 8)))
def tX6_printPart_J43 (v : SV) (x1 : Int32) (x2 : Int32) (d5 : Nat) (y5_43 : Int32) (z0_43 : Int32) (v_43 : SV) : Int32 × SV := let w_3 : Int32 := ((v_43 0) d5) + y5_43; if ((upd (v_43 0) d5 w_3) d5) ≤ (v_43 8 5) then (tX6_printPart_J85 v x1 x2 d5 z0_43 (v_43 8 5) (mkM (upd (v_43 0) d5 w_3) (v_43 1) (v_43 2) (v_43 3) (v_43 4) (v_43 5) (v_43 6) (v_43 7) (v_43 8 0) (v_43 8 1) (v_43 8 2) (v_43 8 3) (v_43 8 4) (v_43 8 5) (v_43 8 6) (v_43 8 7) (v_43 8 8))) else (tX6_printPart_J85 v x1 x2 d5 z0_43 ((upd (v_43 0) d5 w_3) d5) (mkM (upd (v_43 0) d5 w_3) (v_43 1) (v_43 2) (v_43 3) (v_43 4) (v_43 5) (v_43 6) (v_43 7) (v_43 8 0) (v_43 8 1) (v_43 8 2) (v_43 8 3) (v_43 8 4) (v_43 8 5) (v_43 8 6) (v_43 8 7) (v_43 8 8)))
def bX6_printPart_5 (v : SV) (x1 : Int32) (x2 : Int32) (d5 : Nat) (s : Int32 × SV) : Int32 × SV := let y3_5 := s.1; let v_5 := s.2; if (fX6_bit x2 (nI d5)) = 1 then (if (fX6_pulse v_5 x1 (nI d5)) ≤ y3_5 then (tX6_printPart_J43 v x1 x2 d5 (fX6_pulse v_5 x1 (nI d5)) y3_5 v_5) else (tX6_printPart_J43 v x1 x2 d5 (fX6_pulse v_5 x1 (nI d5)) (fX6_pulse v_5 x1 (nI d5)) v_5)) else ((y3_5, v_5))
def fX6_printPart (v : SV) (x1 : Int32) (x2 : Int32) : SV × Int32 := tX6_printPart_5 v x1 x2 (lpF 24 0 (bX6_printPart_5 v x1 x2) (0, v))
def tX6_keepLine_3 (v : SV) (x1 : Int32) (x2 : Int32) (s : SV) : SV := let v_3 := s; let w_1 : Int32 := v_3 8 4; let w_3 : Int32 := x1 &&& ((v_3 8 4) ^^^ (-1)); if 12 ≤ ((upd (upd (upd (v_3 0) 88 w_1) 89 w_3) 90 x2) 87) then (mkM (upd (upd (upd (upd (v_3 0) 88 w_1) 89 w_3) 90 x2) 87 12) (v_3 1) (v_3 2) (v_3 3) (v_3 4) (v_3 5) (v_3 6) (v_3 7) (v_3 8 0) (v_3 8 1) (v_3 8 2) (v_3 8 3) (v_3 8 4) (v_3 8 5) (v_3 8 6) (v_3 8 7) (v_3 8 8)) else (let w_8 : Int32 := ((upd (upd (upd (v_3 0) 88 w_1) 89 w_3) 90 x2) 87) + 1; mkM (upd (upd (upd (upd (v_3 0) 88 w_1) 89 w_3) 90 x2) 87 w_8) (v_3 1) (v_3 2) (v_3 3) (v_3 4) (v_3 5) (v_3 6) (v_3 7) (v_3 8 0) (v_3 8 1) (v_3 8 2) (v_3 8 3) (v_3 8 4) (v_3 8 5) (v_3 8 6) (v_3 8 7) (v_3 8 8))
def bX6_keepLine_3 (v : SV) (x1 : Int32) (x2 : Int32) (d : Nat) (s : SV) : SV := let v_3 := s; let w_11 : Int32 := (v_3 0) ((88 + (d + 2)) - 3); mkM (upd (v_3 0) (88 + (d + 2)) w_11) (v_3 1) (v_3 2) (v_3 3) (v_3 4) (v_3 5) (v_3 6) (v_3 7) (v_3 8 0) (v_3 8 1) (v_3 8 2) (v_3 8 3) (v_3 8 4) (v_3 8 5) (v_3 8 6) (v_3 8 7) (v_3 8 8)
def fX6_keepLine (v : SV) (x1 : Int32) (x2 : Int32) : SV := tX6_keepLine_3 v x1 x2 (lpD 33 (bX6_keepLine_3 v x1 x2) v)
def tX6_sum_4 (v : SV) (x1 : Nat) (s : Int32) : Int32 := let y2_4 := s; y2_4
def bX6_sum_4 (v : SV) (x1 : Nat) (d4 : Nat) (s : Int32) : Int32 := let y2_4 := s; y2_4 + ((v 0) (x1 + d4))
def fX6_sum (v : SV) (x1 : Nat) : Int32 := tX6_sum_4 v x1 (lpF 24 0 (bX6_sum_4 v x1) 0)
def tX6_hottestNow_4 (v : SV) (s : Int32) : Int32 := let y1_4 := s; y1_4
def bX6_hottestNow_4 (v : SV) (d4 : Nat) (s : Int32) : Int32 := let y1_4 := s; if ((v 0) d4) ≤ y1_4 then (y1_4) else ((v 0) d4)
def fX6_hottestNow (v : SV) : Int32 := tX6_hottestNow_4 v (lpF 24 0 (bX6_hottestNow_4 v) 0)
theorem atOnce_ne (v : SV) : ¬ fX6_atOnce v = 0 := by
  unfold fX6_atOnce
  split
  · rename_i h
    intro e
    rw [e] at h
    exact absurd h (by decide)
  · decide
theorem dX6_atOnce_0 : decode cX6_atOnce 0 = .ok (.aload_n 0, 1) := by decide +kernel
theorem dX6_atOnce_1 : decode cX6_atOnce 1 = .ok (.getfield 7, 3) := by decide +kernel
theorem dX6_atOnce_4 : decode cX6_atOnce 4 = .ok (.bipush 78, 2) := by decide +kernel
theorem dX6_atOnce_6 : decode cX6_atOnce 6 = .ok (.iaload, 1) := by decide +kernel
theorem dX6_atOnce_7 : decode cX6_atOnce 7 = .ok (.aload_n 0, 1) := by decide +kernel
theorem dX6_atOnce_8 : decode cX6_atOnce 8 = .ok (.getfield 7, 3) := by decide +kernel
theorem dX6_atOnce_11 : decode cX6_atOnce 11 = .ok (.bipush 77, 2) := by decide +kernel
theorem dX6_atOnce_13 : decode cX6_atOnce 13 = .ok (.iaload, 1) := by decide +kernel
theorem dX6_atOnce_14 : decode cX6_atOnce 14 = .ok (.idiv, 1) := by decide +kernel
theorem dX6_atOnce_15 : decode cX6_atOnce 15 = .ok (.istore_n 1, 1) := by decide +kernel
theorem dX6_atOnce_16 : decode cX6_atOnce 16 = .ok (.iload_n 1, 1) := by decide +kernel
theorem dX6_atOnce_17 : decode cX6_atOnce 17 = .ok (.iconst 1, 1) := by decide +kernel
theorem dX6_atOnce_18 : decode cX6_atOnce 18 = .ok (.if_icmp .ge 7, 3) := by decide +kernel
theorem dX6_atOnce_21 : decode cX6_atOnce 21 = .ok (.iconst 1, 1) := by decide +kernel
theorem dX6_atOnce_22 : decode cX6_atOnce 22 = .ok (.goto 4, 3) := by decide +kernel
theorem dX6_atOnce_25 : decode cX6_atOnce 25 = .ok (.iload_n 1, 1) := by decide +kernel
theorem dX6_atOnce_26 : decode cX6_atOnce 26 = .ok (.ireturn, 1) := by decide +kernel
set_option maxHeartbeats 1000000 in
set_option maxRecDepth 100000 in
theorem c_X6_atOnce (l : Launch) (G : GT) (q : Nat → Nat) (v : SV) (hs : Int64) (hI : SI (v 0)) : Met l yX6_atOnce (Cond.code yX6_atOnce cX6_atOnce 2 (some .int) :: bigW) ({ frames := 0, cells := 0, slots := 0, locals := 0 }) (BP G [.ref (q 0)] (fun U H => PW G (mdW G q v hs) H)) (QP (.int (fX6_atOnce v))) 0 0 (fun _ => False) := by
  refine met_of (by decide) (Nat.le_of_ble_eq_true rfl) ?_
  intro p e s m below meth c ls hC hKN hB0 hl
  have hP := hB0
  have hl : lv_has ls 2 [(0, .ref (q 0))] := hl
  have hg : fX6_atOnce v = fX6_atOnce v := rfl
  refine lv_aload_n hC.1 hC.2.1 dX6_atOnce_0 rfl (lv_at hl 0 rfl) ?_
  refine gf (v := .ref (q 1)) hC fwX6 hKN hP 0 rfl rfl 0 (by decide) rfl wd_887 rfl dX6_atOnce_1 ?_
  refine lv_bipush (v := 78) hC.1 hC.2.1 dX6_atOnce_4 (by decide +kernel) ?_
  refine iald_k hC hKN hP 1 rfl (n := 124) (f := (v 0)) 78 (rfl) (by omega) (by decide) dX6_atOnce_6 ?_
  refine lv_aload_n hC.1 hC.2.1 dX6_atOnce_7 rfl (lv_at hl 0 rfl) ?_
  refine gf (v := .ref (q 1)) hC fwX6 hKN hP 0 rfl rfl 0 (by decide) rfl wd_887 rfl dX6_atOnce_8 ?_
  refine lv_bipush (v := 77) hC.1 hC.2.1 dX6_atOnce_11 (by decide +kernel) ?_
  refine iald_k hC hKN hP 1 rfl (n := 124) (f := (v 0)) 77 (rfl) (by omega) (by decide) dX6_atOnce_13 ?_
  refine lv_idiv hC.1 hC.2.1 dX6_atOnce_14 (SI_77 hI) ?_
  refine lv_istore_n (lv' := [(1, .int (((v 0) 78) / ((v 0) 77))), (0, .ref (q 0))]) hC.1 hC.2.1 dX6_atOnce_15 rfl hl (by decide) rfl (fun ls hl => ?_)
  refine lv_iload_n hC.1 hC.2.1 dX6_atOnce_16 rfl (lv_at hl 0 rfl) ?_
  refine lv_iconst (v := 1) hC.1 hC.2.1 dX6_atOnce_17 (by decide) ?_
  refine lv_icmp_ge (tgt := 25) hC.1 hC.2.1 dX6_atOnce_18 (by decide) (fun k18 => ?_) (fun k18 => ?_)
  · refine lv_iload_n hC.1 hC.2.1 dX6_atOnce_25 rfl (lv_at hl 0 rfl) ?_
    have e_1 : fX6_atOnce v = ((v 0) 78) / ((v 0) 77) := by exact Eq.trans (if_pos k18) rfl
    have hg : fX6_atOnce v = ((v 0) 78) / ((v 0) 77) := hg.trans (congrArg (fun z => z) e_1)
    exact eP_i hC (congrArg Value.int hg) dX6_atOnce_26
  · refine lv_iconst (v := 1) hC.1 hC.2.1 dX6_atOnce_21 (by decide) ?_
    refine lv_goto (tgt := 26) hC.1 hC.2.1 dX6_atOnce_22 (by decide) ?_
    have e_2 : fX6_atOnce v = 1 := by exact Eq.trans (if_neg k18) rfl
    have hg : fX6_atOnce v = 1 := hg.trans (congrArg (fun z => z) e_2)
    exact eP_i hC (congrArg Value.int hg) dX6_atOnce_26

theorem dX6_partsOf_0 : decode cX6_partsOf 0 = .ok (.iload_n 1, 1) := by decide +kernel
theorem dX6_partsOf_1 : decode cX6_partsOf 1 = .ok (.invokestatic 68, 3) := by decide +kernel
theorem dX6_partsOf_4 : decode cX6_partsOf 4 = .ok (.aload_n 0, 1) := by decide +kernel
theorem dX6_partsOf_5 : decode cX6_partsOf 5 = .ok (.invokevirtual 71, 3) := by decide +kernel
theorem dX6_partsOf_8 : decode cX6_partsOf 8 = .ok (.iadd, 1) := by decide +kernel
theorem dX6_partsOf_9 : decode cX6_partsOf 9 = .ok (.iconst 1, 1) := by decide +kernel
theorem dX6_partsOf_10 : decode cX6_partsOf 10 = .ok (.isub, 1) := by decide +kernel
theorem dX6_partsOf_11 : decode cX6_partsOf 11 = .ok (.aload_n 0, 1) := by decide +kernel
theorem dX6_partsOf_12 : decode cX6_partsOf 12 = .ok (.invokevirtual 71, 3) := by decide +kernel
theorem dX6_partsOf_15 : decode cX6_partsOf 15 = .ok (.idiv, 1) := by decide +kernel
theorem dX6_partsOf_16 : decode cX6_partsOf 16 = .ok (.ireturn, 1) := by decide +kernel
set_option maxHeartbeats 1000000 in
set_option maxRecDepth 100000 in
theorem c_X6_partsOf (l : Launch) (G : GT) (q : Nat → Nat) (v : SV) (hs : Int64) (x1 : Int32) (hI : SI (v 0)) : Met l yX6_partsOf (Cond.code yX6_partsOf cX6_partsOf 2 (some .int) :: bigW) ({ frames := 1, cells := 0, slots := 0, locals := 22 }) (BP G [.ref (q 0), .int x1] (fun U H => PW G (mdW G q v hs) H)) (QP (.int (fX6_partsOf v x1))) 0 0 (fun _ => False) := by
  refine met_of (by decide) (Nat.le_of_ble_eq_true rfl) ?_
  intro p e s m below meth c ls hC hKN hB0 hl
  have hP := hB0
  have hl : lv_has ls 2 [(0, .ref (q 0)), (1, .int x1)] := hl
  have hg : fX6_partsOf v x1 = fX6_partsOf v x1 := rfl
  refine lv_iload_n hC.1 hC.2.1 dX6_partsOf_0 rfl (lv_at hl 1 rfl) ?_
  refine runP (rS (B := fun U H => True) (As := [.int x1]) (rest := []) hC mwX6_ones (c_X6_ones l G x1) wd_986 wd_985 ⟨rfl, rfl⟩ ⟨Nat.le_of_ble_eq_true rfl, Nat.le_of_ble_eq_true rfl⟩ (fun _ _ _ _ h => h) hKN trivial rfl hl.1 rfl (Nat.le_of_ble_eq_true rfl) dX6_partsOf_1 ⟨Nat.zero_le _, Nat.zero_le _⟩) ?_
  refine lv_aload_n hC.1 hC.2.1 dX6_partsOf_4 rfl (lv_at hl 0 rfl) ?_
  refine runP (rV (B := fun U H => PW G (mdW G q v hs) H) (As := []) (rest := [.int (fX6_ones x1)]) hC mwX6_atOnce (c_X6_atOnce l G q v hs hI) iwX6_atOnce wd_988 ⟨rfl, rfl⟩ ⟨Nat.le_of_ble_eq_true rfl, Nat.le_of_ble_eq_true rfl⟩ (stb_h (fun H => PW G (mdW G q v hs) H)) hKN hP (va_recv hKN.k hP (ci := 6) (q0 := 0) rfl rfl) rfl hl.1 rfl (Nat.le_of_ble_eq_true rfl) dX6_partsOf_5 ⟨Nat.zero_le _, Nat.zero_le _⟩) ?_
  refine lv_iadd hC.1 hC.2.1 dX6_partsOf_8 ?_
  refine lv_iconst (v := 1) hC.1 hC.2.1 dX6_partsOf_9 (by decide) ?_
  refine lv_isub hC.1 hC.2.1 dX6_partsOf_10 ?_
  refine lv_aload_n hC.1 hC.2.1 dX6_partsOf_11 rfl (lv_at hl 0 rfl) ?_
  refine runP (rV (B := fun U H => PW G (mdW G q v hs) H) (As := []) (rest := [.int (((fX6_ones x1) + (fX6_atOnce v)) - 1)]) hC mwX6_atOnce (c_X6_atOnce l G q v hs hI) iwX6_atOnce wd_988 ⟨rfl, rfl⟩ ⟨Nat.le_of_ble_eq_true rfl, Nat.le_of_ble_eq_true rfl⟩ (stb_h (fun H => PW G (mdW G q v hs) H)) hKN hP (va_recv hKN.k hP (ci := 6) (q0 := 0) rfl rfl) rfl hl.1 rfl (Nat.le_of_ble_eq_true rfl) dX6_partsOf_12 ⟨Nat.zero_le _, Nat.zero_le _⟩) ?_
  refine lv_idiv hC.1 hC.2.1 dX6_partsOf_15 (atOnce_ne v) ?_
  have e_1 : fX6_partsOf v x1 = (((fX6_ones x1) + (fX6_atOnce v)) - 1) / (fX6_atOnce v) := by exact rfl
  have hg : fX6_partsOf v x1 = (((fX6_ones x1) + (fX6_atOnce v)) - 1) / (fX6_atOnce v) := hg.trans (congrArg (fun z => z) e_1)
  exact eP_i hC (congrArg Value.int hg) dX6_partsOf_16

theorem dX6_dotsOfPart_0 : decode cX6_dotsOfPart 0 = .ok (.aload_n 0, 1) := by decide +kernel
theorem dX6_dotsOfPart_1 : decode cX6_dotsOfPart 1 = .ok (.iload_n 1, 1) := by decide +kernel
theorem dX6_dotsOfPart_2 : decode cX6_dotsOfPart 2 = .ok (.invokevirtual 75, 3) := by decide +kernel
theorem dX6_dotsOfPart_5 : decode cX6_dotsOfPart 5 = .ok (.istore_n 3, 1) := by decide +kernel
theorem dX6_dotsOfPart_6 : decode cX6_dotsOfPart 6 = .ok (.iconst 0, 1) := by decide +kernel
theorem dX6_dotsOfPart_7 : decode cX6_dotsOfPart 7 = .ok (.istore 4, 2) := by decide +kernel
theorem dX6_dotsOfPart_9 : decode cX6_dotsOfPart 9 = .ok (.iconst 0, 1) := by decide +kernel
theorem dX6_dotsOfPart_10 : decode cX6_dotsOfPart 10 = .ok (.istore 5, 2) := by decide +kernel
theorem dX6_dotsOfPart_12 : decode cX6_dotsOfPart 12 = .ok (.iconst 0, 1) := by decide +kernel
theorem dX6_dotsOfPart_13 : decode cX6_dotsOfPart 13 = .ok (.istore 6, 2) := by decide +kernel
theorem dX6_dotsOfPart_15 : decode cX6_dotsOfPart 15 = .ok (.iload 6, 2) := by decide +kernel
theorem dX6_dotsOfPart_17 : decode cX6_dotsOfPart 17 = .ok (.bipush 24, 2) := by decide +kernel
theorem dX6_dotsOfPart_19 : decode cX6_dotsOfPart 19 = .ok (.if_icmp .ge 84, 3) := by decide +kernel
theorem dX6_dotsOfPart_22 : decode cX6_dotsOfPart 22 = .ok (.iload_n 1, 1) := by decide +kernel
theorem dX6_dotsOfPart_23 : decode cX6_dotsOfPart 23 = .ok (.iload 6, 2) := by decide +kernel
theorem dX6_dotsOfPart_25 : decode cX6_dotsOfPart 25 = .ok (.invokestatic 60, 3) := by decide +kernel
theorem dX6_dotsOfPart_28 : decode cX6_dotsOfPart 28 = .ok (.iconst 1, 1) := by decide +kernel
theorem dX6_dotsOfPart_29 : decode cX6_dotsOfPart 29 = .ok (.if_icmp .ne 68, 3) := by decide +kernel
theorem dX6_dotsOfPart_32 : decode cX6_dotsOfPart 32 = .ok (.aload_n 0, 1) := by decide +kernel
theorem dX6_dotsOfPart_33 : decode cX6_dotsOfPart 33 = .ok (.getfield 7, 3) := by decide +kernel
theorem dX6_dotsOfPart_36 : decode cX6_dotsOfPart 36 = .ok (.bipush 79, 2) := by decide +kernel
theorem dX6_dotsOfPart_38 : decode cX6_dotsOfPart 38 = .ok (.iaload, 1) := by decide +kernel
theorem dX6_dotsOfPart_39 : decode cX6_dotsOfPart 39 = .ok (.ifCond .ne 22, 3) := by decide +kernel
theorem dX6_dotsOfPart_42 : decode cX6_dotsOfPart 42 = .ok (.iload 5, 2) := by decide +kernel
theorem dX6_dotsOfPart_44 : decode cX6_dotsOfPart 44 = .ok (.aload_n 0, 1) := by decide +kernel
theorem dX6_dotsOfPart_45 : decode cX6_dotsOfPart 45 = .ok (.invokevirtual 71, 3) := by decide +kernel
theorem dX6_dotsOfPart_48 : decode cX6_dotsOfPart 48 = .ok (.idiv, 1) := by decide +kernel
theorem dX6_dotsOfPart_49 : decode cX6_dotsOfPart 49 = .ok (.iload_n 2, 1) := by decide +kernel
theorem dX6_dotsOfPart_50 : decode cX6_dotsOfPart 50 = .ok (.if_icmp .ne 7, 3) := by decide +kernel
theorem dX6_dotsOfPart_53 : decode cX6_dotsOfPart 53 = .ok (.iconst 1, 1) := by decide +kernel
theorem dX6_dotsOfPart_54 : decode cX6_dotsOfPart 54 = .ok (.goto 20, 3) := by decide +kernel
theorem dX6_dotsOfPart_57 : decode cX6_dotsOfPart 57 = .ok (.iconst 0, 1) := by decide +kernel
theorem dX6_dotsOfPart_58 : decode cX6_dotsOfPart 58 = .ok (.goto 16, 3) := by decide +kernel
theorem dX6_dotsOfPart_61 : decode cX6_dotsOfPart 61 = .ok (.iload 5, 2) := by decide +kernel
theorem dX6_dotsOfPart_63 : decode cX6_dotsOfPart 63 = .ok (.iload_n 3, 1) := by decide +kernel
theorem dX6_dotsOfPart_64 : decode cX6_dotsOfPart 64 = .ok (.irem, 1) := by decide +kernel
theorem dX6_dotsOfPart_65 : decode cX6_dotsOfPart 65 = .ok (.iload_n 2, 1) := by decide +kernel
theorem dX6_dotsOfPart_66 : decode cX6_dotsOfPart 66 = .ok (.if_icmp .ne 7, 3) := by decide +kernel
theorem dX6_dotsOfPart_69 : decode cX6_dotsOfPart 69 = .ok (.iconst 1, 1) := by decide +kernel
theorem dX6_dotsOfPart_70 : decode cX6_dotsOfPart 70 = .ok (.goto 4, 3) := by decide +kernel
theorem dX6_dotsOfPart_73 : decode cX6_dotsOfPart 73 = .ok (.iconst 0, 1) := by decide +kernel
theorem dX6_dotsOfPart_74 : decode cX6_dotsOfPart 74 = .ok (.istore 7, 2) := by decide +kernel
theorem dX6_dotsOfPart_76 : decode cX6_dotsOfPart 76 = .ok (.iload 4, 2) := by decide +kernel
theorem dX6_dotsOfPart_78 : decode cX6_dotsOfPart 78 = .ok (.iload 7, 2) := by decide +kernel
theorem dX6_dotsOfPart_80 : decode cX6_dotsOfPart 80 = .ok (.ifCond .eq 10, 3) := by decide +kernel
theorem dX6_dotsOfPart_83 : decode cX6_dotsOfPart 83 = .ok (.iconst 1, 1) := by decide +kernel
theorem dX6_dotsOfPart_84 : decode cX6_dotsOfPart 84 = .ok (.iload 6, 2) := by decide +kernel
theorem dX6_dotsOfPart_86 : decode cX6_dotsOfPart 86 = .ok (.ishl, 1) := by decide +kernel
theorem dX6_dotsOfPart_87 : decode cX6_dotsOfPart 87 = .ok (.goto 4, 3) := by decide +kernel
theorem dX6_dotsOfPart_90 : decode cX6_dotsOfPart 90 = .ok (.iconst 0, 1) := by decide +kernel
theorem dX6_dotsOfPart_91 : decode cX6_dotsOfPart 91 = .ok (.ior, 1) := by decide +kernel
theorem dX6_dotsOfPart_92 : decode cX6_dotsOfPart 92 = .ok (.istore 4, 2) := by decide +kernel
theorem dX6_dotsOfPart_94 : decode cX6_dotsOfPart 94 = .ok (.iinc 5 1, 3) := by decide +kernel
theorem dX6_dotsOfPart_97 : decode cX6_dotsOfPart 97 = .ok (.iinc 6 1, 3) := by decide +kernel
theorem dX6_dotsOfPart_100 : decode cX6_dotsOfPart 100 = .ok (.goto (-85), 3) := by decide +kernel
theorem dX6_dotsOfPart_103 : decode cX6_dotsOfPart 103 = .ok (.iload 4, 2) := by decide +kernel
theorem dX6_dotsOfPart_105 : decode cX6_dotsOfPart 105 = .ok (.ireturn, 1) := by decide +kernel
set_option maxHeartbeats 1000000 in
set_option maxRecDepth 100000 in
theorem c_X6_dotsOfPart (l : Launch) (G : GT) (q : Nat → Nat) (v : SV) (hs : Int64) (x1 : Int32) (x2 : Int32) (hI : SI (v 0)) (hp : ¬ fX6_partsOf v x1 = 0) : Met l yX6_dotsOfPart (Cond.code yX6_dotsOfPart cX6_dotsOfPart 8 (some .int) :: bigW) ({ frames := 2, cells := 0, slots := 0, locals := 43 }) (BP G [.ref (q 0), .int x1, .int x2] (fun U H => PW G (mdW G q v hs) H)) (QP (.int (fX6_dotsOfPart v x1 x2))) 0 0 (fun _ => False) := by
  refine met_of (by decide) (Nat.le_of_ble_eq_true rfl) ?_
  intro p e s m below meth c ls hC hKN hB0 hl
  have hP := hB0
  have hl : lv_has ls 8 [(0, .ref (q 0)), (1, .int x1), (2, .int x2)] := hl
  have hg : fX6_dotsOfPart v x1 x2 = fX6_dotsOfPart v x1 x2 := rfl
  refine lv_aload_n hC.1 hC.2.1 dX6_dotsOfPart_0 rfl (lv_at hl 0 rfl) ?_
  refine lv_iload_n hC.1 hC.2.1 dX6_dotsOfPart_1 rfl (lv_at hl 1 rfl) ?_
  refine runP (rV (B := fun U H => PW G (mdW G q v hs) H) (As := [.int x1]) (rest := []) hC mwX6_partsOf (c_X6_partsOf l G q v hs x1 hI) iwX6_partsOf wd_981 ⟨rfl, rfl⟩ ⟨Nat.le_of_ble_eq_true rfl, Nat.le_of_ble_eq_true rfl⟩ (stb_h (fun H => PW G (mdW G q v hs) H)) hKN hP (va_recv hKN.k hP (ci := 6) (q0 := 0) rfl rfl) rfl hl.1 rfl (Nat.le_of_ble_eq_true rfl) dX6_dotsOfPart_2 ⟨Nat.zero_le _, Nat.zero_le _⟩) ?_
  refine lv_istore_n (lv' := [(3, .int (fX6_partsOf v x1)), (0, .ref (q 0)), (1, .int x1), (2, .int x2)]) hC.1 hC.2.1 dX6_dotsOfPart_5 rfl hl (by decide) rfl (fun ls hl => ?_)
  refine lv_iconst (v := 0) hC.1 hC.2.1 dX6_dotsOfPart_6 (by decide) ?_
  refine lv_istore (lv' := [(4, .int 0), (3, .int (fX6_partsOf v x1)), (0, .ref (q 0)), (1, .int x1), (2, .int x2)]) hC.1 hC.2.1 dX6_dotsOfPart_7 hl (by decide) rfl (fun ls hl => ?_)
  refine lv_iconst (v := 0) hC.1 hC.2.1 dX6_dotsOfPart_9 (by decide) ?_
  refine lv_istore (lv' := [(5, .int 0), (4, .int 0), (3, .int (fX6_partsOf v x1)), (0, .ref (q 0)), (1, .int x1), (2, .int x2)]) hC.1 hC.2.1 dX6_dotsOfPart_10 hl (by decide) rfl (fun ls hl => ?_)
  refine lv_iconst (v := 0) hC.1 hC.2.1 dX6_dotsOfPart_12 (by decide) ?_
  refine lv_istore (lv' := [(6, .int 0), (5, .int 0), (4, .int 0), (3, .int (fX6_partsOf v x1)), (0, .ref (q 0)), (1, .int x1), (2, .int x2)]) hC.1 hC.2.1 dX6_dotsOfPart_13 hl (by decide) rfl (fun ls hl => ?_)
  have A15 : ∀ (y4_15 : Int32) (y5_15 : Int32), fX6_dotsOfPart v x1 x2 = (tX6_dotsOfPart_15 v x1 x2 (y4_15, y5_15)) → SI (v 0) → ∀ (ls : Array Slot), lv_has ls 8 [(4, .int y4_15)] → W p l e ({ frames := 2, cells := 0, slots := 0, locals := 43 }) s m ([.ref (q 0), .int x1, .int x2] : List Value).toArray below meth c s.heap [] 0 0 (MQ below (QP (.int (fX6_dotsOfPart v x1 x2))) ([.ref (q 0), .int x1, .int x2] : List Value).toArray s 0 0 (fun _ => False)) (F0 m 103 ls []) := by
    intro  y4_15 y5_15 hg hI ls hl
    refine lv_iload hC.1 hC.2.1 dX6_dotsOfPart_103 (lv_at hl 0 rfl) ?_
    have e_1 : tX6_dotsOfPart_15 v x1 x2 (y4_15, y5_15) = y4_15 := by exact rfl
    have hg : fX6_dotsOfPart v x1 x2 = y4_15 := hg.trans (congrArg (fun z => z) e_1)
    exact eP_i hC (congrArg Value.int hg) dX6_dotsOfPart_105
  have L15 : ∀ (n15 d15 : Nat), ∀ (y4_15 : Int32) (y5_15 : Int32), d15 + n15 = 24 → fX6_dotsOfPart v x1 x2 = (tX6_dotsOfPart_15 v x1 x2 (lpF n15 d15 (bX6_dotsOfPart_15 v x1 x2) (y4_15, y5_15))) → SI (v 0) → ∀ (ls : Array Slot), lv_has ls 8 [(0, .ref (q 0)), (1, .int x1), (2, .int x2), (3, .int (fX6_partsOf v x1)), (4, .int y4_15), (5, .int y5_15), (6, .int (nI d15))] → W p l e ({ frames := 2, cells := 0, slots := 0, locals := 43 }) s m ([.ref (q 0), .int x1, .int x2] : List Value).toArray below meth c s.heap [] 0 0 (MQ below (QP (.int (fX6_dotsOfPart v x1 x2))) ([.ref (q 0), .int x1, .int x2] : List Value).toArray s 0 0 (fun _ => False)) (F0 m 15 ls []) := by
    intro n15
    induction n15 with
    | zero =>
      intro d15 y4_15 y5_15 hd hg hI ls hl
      refine lv_iload hC.1 hC.2.1 dX6_dotsOfPart_15 (lv_at hl 6 rfl) ?_
      refine lv_bipush (v := 24) hC.1 hC.2.1 dX6_dotsOfPart_17 (by decide +kernel) ?_
      refine lv_icmp_ge (tgt := 103) hC.1 hC.2.1 dX6_dotsOfPart_19 (by decide) (fun k19 => ?_) (fun k19 => ?_)
      · exact A15  y4_15 y5_15 hg hI _ (lv_sub hl [4] rfl)
      · exact absurd (nI_le (a := 24) (b := d15) (by omega) (by omega)) k19
    | succ n15 ih =>
      intro d15 y4_15 y5_15 hd hg hI ls hl
      have hg : fX6_dotsOfPart v x1 x2 = (tX6_dotsOfPart_15 v x1 x2 (lpF n15 (d15 + 1) (bX6_dotsOfPart_15 v x1 x2) (bX6_dotsOfPart_15 v x1 x2 d15 (y4_15, y5_15)))) := hg
      refine lv_iload hC.1 hC.2.1 dX6_dotsOfPart_15 (lv_at hl 6 rfl) ?_
      refine lv_bipush (v := 24) hC.1 hC.2.1 dX6_dotsOfPart_17 (by decide +kernel) ?_
      refine lv_icmp_ge (tgt := 103) hC.1 hC.2.1 dX6_dotsOfPart_19 (by decide) (fun k19 => ?_) (fun k19 => ?_)
      · exact absurd k19 (nI_ge (a := d15) (b := 24) (by omega) (by omega))
      · refine lv_iload_n hC.1 hC.2.1 dX6_dotsOfPart_22 rfl (lv_at hl 1 rfl) ?_
        refine lv_iload hC.1 hC.2.1 dX6_dotsOfPart_23 (lv_at hl 6 rfl) ?_
        refine runP (rS (B := fun U H => True) (As := [.int x1, .int (nI d15)]) (rest := []) hC mwX6_bit (c_X6_bit l G x1 (nI d15)) wd_997 wd_996 ⟨rfl, rfl⟩ ⟨Nat.le_of_ble_eq_true rfl, Nat.le_of_ble_eq_true rfl⟩ (fun _ _ _ _ h => h) hKN trivial rfl hl.1 rfl (Nat.le_of_ble_eq_true rfl) dX6_dotsOfPart_25 ⟨Nat.zero_le _, Nat.zero_le _⟩) ?_
        refine lv_iconst (v := 1) hC.1 hC.2.1 dX6_dotsOfPart_28 (by decide) ?_
        refine lv_icmp_ne (tgt := 97) hC.1 hC.2.1 dX6_dotsOfPart_29 (by decide) (fun k29 => ?_) (fun k29 => ?_)
        · refine lv_iinc (v := nI (d15 + 1)) (lv' := [(6, .int (nI (d15 + 1))), (0, .ref (q 0)), (1, .int x1), (2, .int x2), (3, .int (fX6_partsOf v x1)), (4, .int y4_15), (5, .int y5_15)]) hC.1 hC.2.1 dX6_dotsOfPart_97 hl (k := 6) rfl (nI_1 _) (by decide) rfl (fun ls hl => ?_)
          refine lv_goto (tgt := 15) hC.1 hC.2.1 dX6_dotsOfPart_100 (by decide) ?_
          have e_2 : bX6_dotsOfPart_15 v x1 x2 d15 (y4_15, y5_15) = (y4_15, y5_15) := by exact Eq.trans (if_neg k29) rfl
          have hg : fX6_dotsOfPart v x1 x2 = (tX6_dotsOfPart_15 v x1 x2 (lpF n15 (d15 + 1) (bX6_dotsOfPart_15 v x1 x2) (y4_15, y5_15))) := hg.trans (congrArg (fun z => (tX6_dotsOfPart_15 v x1 x2 (lpF n15 (d15 + 1) (bX6_dotsOfPart_15 v x1 x2) z))) e_2)
          exact ih (d15 + 1) y4_15 y5_15 (by omega) hg hI _ (lv_sub hl [1, 2, 3, 4, 5, 6, 0] rfl)
        · refine lv_aload_n hC.1 hC.2.1 dX6_dotsOfPart_32 rfl (lv_at hl 0 rfl) ?_
          refine gf (v := .ref (q 1)) hC fwX6 hKN hP 0 rfl rfl 0 (by decide) rfl wd_887 rfl dX6_dotsOfPart_33 ?_
          refine lv_bipush (v := 79) hC.1 hC.2.1 dX6_dotsOfPart_36 (by decide +kernel) ?_
          refine iald_k hC hKN hP 1 rfl (n := 124) (f := (v 0)) 79 (rfl) (by omega) (by decide) dX6_dotsOfPart_38 ?_
          have J74 : ∀ (y4_74 : Int32) (y5_74 : Int32) (z0_74 : Int32), fX6_dotsOfPart v x1 x2 = (tX6_dotsOfPart_15 v x1 x2 (lpF n15 (d15 + 1) (bX6_dotsOfPart_15 v x1 x2) (tX6_dotsOfPart_J74 v x1 x2 d15 y4_74 y5_74 z0_74))) → SI (v 0) → ∀ (ls : Array Slot), lv_has ls 8 [(0, .ref (q 0)), (1, .int x1), (2, .int x2), (3, .int (fX6_partsOf v x1)), (4, .int y4_74), (5, .int y5_74), (6, .int (nI d15))] → W p l e ({ frames := 2, cells := 0, slots := 0, locals := 43 }) s m ([.ref (q 0), .int x1, .int x2] : List Value).toArray below meth c s.heap [] 0 0 (MQ below (QP (.int (fX6_dotsOfPart v x1 x2))) ([.ref (q 0), .int x1, .int x2] : List Value).toArray s 0 0 (fun _ => False)) (F0 m 74 ls [.int z0_74]) := by
            intro y4_74 y5_74 z0_74 hg hI ls hl
            refine lv_istore (lv' := [(7, .int z0_74), (0, .ref (q 0)), (1, .int x1), (2, .int x2), (3, .int (fX6_partsOf v x1)), (4, .int y4_74), (5, .int y5_74), (6, .int (nI d15))]) hC.1 hC.2.1 dX6_dotsOfPart_74 hl (by decide) rfl (fun ls hl => ?_)
            refine lv_iload hC.1 hC.2.1 dX6_dotsOfPart_76 (lv_at hl 5 rfl) ?_
            refine lv_iload hC.1 hC.2.1 dX6_dotsOfPart_78 (lv_at hl 0 rfl) ?_
            refine lv_if_eq (tgt := 90) hC.1 hC.2.1 dX6_dotsOfPart_80 (by decide) (fun k80 => ?_) (fun k80 => ?_)
            · refine lv_iconst (v := 0) hC.1 hC.2.1 dX6_dotsOfPart_90 (by decide) ?_
              refine lv_ior hC.1 hC.2.1 dX6_dotsOfPart_91 ?_
              refine lv_istore (lv' := [(4, .int (y4_74 ||| 0)), (7, .int z0_74), (0, .ref (q 0)), (1, .int x1), (2, .int x2), (3, .int (fX6_partsOf v x1)), (5, .int y5_74), (6, .int (nI d15))]) hC.1 hC.2.1 dX6_dotsOfPart_92 hl (by decide) rfl (fun ls hl => ?_)
              refine lv_iinc (v := y5_74 + 1) (lv' := [(5, .int (y5_74 + 1)), (4, .int (y4_74 ||| 0)), (7, .int z0_74), (0, .ref (q 0)), (1, .int x1), (2, .int x2), (3, .int (fX6_partsOf v x1)), (6, .int (nI d15))]) hC.1 hC.2.1 dX6_dotsOfPart_94 hl (k := 6) rfl rfl (by decide) rfl (fun ls hl => ?_)
              refine lv_iinc (v := nI (d15 + 1)) (lv' := [(6, .int (nI (d15 + 1))), (5, .int (y5_74 + 1)), (4, .int (y4_74 ||| 0)), (7, .int z0_74), (0, .ref (q 0)), (1, .int x1), (2, .int x2), (3, .int (fX6_partsOf v x1))]) hC.1 hC.2.1 dX6_dotsOfPart_97 hl (k := 7) rfl (nI_1 _) (by decide) rfl (fun ls hl => ?_)
              refine lv_goto (tgt := 15) hC.1 hC.2.1 dX6_dotsOfPart_100 (by decide) ?_
              have e_3 : tX6_dotsOfPart_J74 v x1 x2 d15 y4_74 y5_74 z0_74 = (y4_74 ||| 0, y5_74 + 1) := by exact Eq.trans (if_pos k80) rfl
              have hg : fX6_dotsOfPart v x1 x2 = (tX6_dotsOfPart_15 v x1 x2 (lpF n15 (d15 + 1) (bX6_dotsOfPart_15 v x1 x2) (y4_74 ||| 0, y5_74 + 1))) := hg.trans (congrArg (fun z => (tX6_dotsOfPart_15 v x1 x2 (lpF n15 (d15 + 1) (bX6_dotsOfPart_15 v x1 x2) z))) e_3)
              exact ih (d15 + 1) (y4_74 ||| 0) (y5_74 + 1) (by omega) hg hI _ (lv_sub hl [4, 5, 6, 7, 2, 1, 0] rfl)
            · refine lv_iconst (v := 1) hC.1 hC.2.1 dX6_dotsOfPart_83 (by decide) ?_
              refine lv_iload hC.1 hC.2.1 dX6_dotsOfPart_84 (lv_at hl 7 rfl) ?_
              refine lv_ishl hC.1 hC.2.1 dX6_dotsOfPart_86 ?_
              refine lv_goto (tgt := 91) hC.1 hC.2.1 dX6_dotsOfPart_87 (by decide) ?_
              refine lv_ior hC.1 hC.2.1 dX6_dotsOfPart_91 ?_
              refine lv_istore (lv' := [(4, .int (y4_74 ||| (1 <<< ((nI d15) &&& 31)))), (7, .int z0_74), (0, .ref (q 0)), (1, .int x1), (2, .int x2), (3, .int (fX6_partsOf v x1)), (5, .int y5_74), (6, .int (nI d15))]) hC.1 hC.2.1 dX6_dotsOfPart_92 hl (by decide) rfl (fun ls hl => ?_)
              refine lv_iinc (v := y5_74 + 1) (lv' := [(5, .int (y5_74 + 1)), (4, .int (y4_74 ||| (1 <<< ((nI d15) &&& 31)))), (7, .int z0_74), (0, .ref (q 0)), (1, .int x1), (2, .int x2), (3, .int (fX6_partsOf v x1)), (6, .int (nI d15))]) hC.1 hC.2.1 dX6_dotsOfPart_94 hl (k := 6) rfl rfl (by decide) rfl (fun ls hl => ?_)
              refine lv_iinc (v := nI (d15 + 1)) (lv' := [(6, .int (nI (d15 + 1))), (5, .int (y5_74 + 1)), (4, .int (y4_74 ||| (1 <<< ((nI d15) &&& 31)))), (7, .int z0_74), (0, .ref (q 0)), (1, .int x1), (2, .int x2), (3, .int (fX6_partsOf v x1))]) hC.1 hC.2.1 dX6_dotsOfPart_97 hl (k := 7) rfl (nI_1 _) (by decide) rfl (fun ls hl => ?_)
              refine lv_goto (tgt := 15) hC.1 hC.2.1 dX6_dotsOfPart_100 (by decide) ?_
              have e_4 : tX6_dotsOfPart_J74 v x1 x2 d15 y4_74 y5_74 z0_74 = (y4_74 ||| (1 <<< ((nI d15) &&& 31)), y5_74 + 1) := by exact Eq.trans (if_neg k80) rfl
              have hg : fX6_dotsOfPart v x1 x2 = (tX6_dotsOfPart_15 v x1 x2 (lpF n15 (d15 + 1) (bX6_dotsOfPart_15 v x1 x2) (y4_74 ||| (1 <<< ((nI d15) &&& 31)), y5_74 + 1))) := hg.trans (congrArg (fun z => (tX6_dotsOfPart_15 v x1 x2 (lpF n15 (d15 + 1) (bX6_dotsOfPart_15 v x1 x2) z))) e_4)
              exact ih (d15 + 1) (y4_74 ||| (1 <<< ((nI d15) &&& 31))) (y5_74 + 1) (by omega) hg hI _ (lv_sub hl [4, 5, 6, 7, 2, 1, 0] rfl)
          refine lv_if_ne (tgt := 61) hC.1 hC.2.1 dX6_dotsOfPart_39 (by decide) (fun k39 => ?_) (fun k39 => ?_)
          · refine lv_iload hC.1 hC.2.1 dX6_dotsOfPart_61 (lv_at hl 5 rfl) ?_
            refine lv_iload_n hC.1 hC.2.1 dX6_dotsOfPart_63 rfl (lv_at hl 3 rfl) ?_
            refine lv_irem hC.1 hC.2.1 dX6_dotsOfPart_64 hp ?_
            refine lv_iload_n hC.1 hC.2.1 dX6_dotsOfPart_65 rfl (lv_at hl 2 rfl) ?_
            refine lv_icmp_ne (tgt := 73) hC.1 hC.2.1 dX6_dotsOfPart_66 (by decide) (fun k66 => ?_) (fun k66 => ?_)
            · refine lv_iconst (v := 0) hC.1 hC.2.1 dX6_dotsOfPart_73 (by decide) ?_
              have e_5 : bX6_dotsOfPart_15 v x1 x2 d15 (y4_15, y5_15) = tX6_dotsOfPart_J74 v x1 x2 d15 y4_15 y5_15 0 := by exact Eq.trans (if_pos k29) (Eq.trans (if_neg k39) (Eq.trans (if_neg k66) rfl))
              have hg : fX6_dotsOfPart v x1 x2 = (tX6_dotsOfPart_15 v x1 x2 (lpF n15 (d15 + 1) (bX6_dotsOfPart_15 v x1 x2) (tX6_dotsOfPart_J74 v x1 x2 d15 y4_15 y5_15 0))) := hg.trans (congrArg (fun z => (tX6_dotsOfPart_15 v x1 x2 (lpF n15 (d15 + 1) (bX6_dotsOfPart_15 v x1 x2) z))) e_5)
              exact J74 y4_15 y5_15 0 hg hI _ (lv_sub hl [0, 1, 2, 3, 4, 5, 6] rfl)
            · refine lv_iconst (v := 1) hC.1 hC.2.1 dX6_dotsOfPart_69 (by decide) ?_
              refine lv_goto (tgt := 74) hC.1 hC.2.1 dX6_dotsOfPart_70 (by decide) ?_
              have e_6 : bX6_dotsOfPart_15 v x1 x2 d15 (y4_15, y5_15) = tX6_dotsOfPart_J74 v x1 x2 d15 y4_15 y5_15 1 := by exact Eq.trans (if_pos k29) (Eq.trans (if_neg k39) (Eq.trans (if_pos k66) rfl))
              have hg : fX6_dotsOfPart v x1 x2 = (tX6_dotsOfPart_15 v x1 x2 (lpF n15 (d15 + 1) (bX6_dotsOfPart_15 v x1 x2) (tX6_dotsOfPart_J74 v x1 x2 d15 y4_15 y5_15 1))) := hg.trans (congrArg (fun z => (tX6_dotsOfPart_15 v x1 x2 (lpF n15 (d15 + 1) (bX6_dotsOfPart_15 v x1 x2) z))) e_6)
              exact J74 y4_15 y5_15 1 hg hI _ (lv_sub hl [0, 1, 2, 3, 4, 5, 6] rfl)
          · refine lv_iload hC.1 hC.2.1 dX6_dotsOfPart_42 (lv_at hl 5 rfl) ?_
            refine lv_aload_n hC.1 hC.2.1 dX6_dotsOfPart_44 rfl (lv_at hl 0 rfl) ?_
            refine runP (rV (B := fun U H => PW G (mdW G q v hs) H) (As := []) (rest := [.int y5_15]) hC mwX6_atOnce (c_X6_atOnce l G q v hs hI) iwX6_atOnce wd_988 ⟨rfl, rfl⟩ ⟨Nat.le_of_ble_eq_true rfl, Nat.le_of_ble_eq_true rfl⟩ (stb_h (fun H => PW G (mdW G q v hs) H)) hKN hP (va_recv hKN.k hP (ci := 6) (q0 := 0) rfl rfl) rfl hl.1 rfl (Nat.le_of_ble_eq_true rfl) dX6_dotsOfPart_45 ⟨Nat.zero_le _, Nat.zero_le _⟩) ?_
            refine lv_idiv hC.1 hC.2.1 dX6_dotsOfPart_48 (atOnce_ne v) ?_
            refine lv_iload_n hC.1 hC.2.1 dX6_dotsOfPart_49 rfl (lv_at hl 2 rfl) ?_
            refine lv_icmp_ne (tgt := 57) hC.1 hC.2.1 dX6_dotsOfPart_50 (by decide) (fun k50 => ?_) (fun k50 => ?_)
            · refine lv_iconst (v := 0) hC.1 hC.2.1 dX6_dotsOfPart_57 (by decide) ?_
              refine lv_goto (tgt := 74) hC.1 hC.2.1 dX6_dotsOfPart_58 (by decide) ?_
              have e_7 : bX6_dotsOfPart_15 v x1 x2 d15 (y4_15, y5_15) = tX6_dotsOfPart_J74 v x1 x2 d15 y4_15 y5_15 0 := by exact Eq.trans (if_pos k29) (Eq.trans (if_pos k39) (Eq.trans (if_neg k50) rfl))
              have hg : fX6_dotsOfPart v x1 x2 = (tX6_dotsOfPart_15 v x1 x2 (lpF n15 (d15 + 1) (bX6_dotsOfPart_15 v x1 x2) (tX6_dotsOfPart_J74 v x1 x2 d15 y4_15 y5_15 0))) := hg.trans (congrArg (fun z => (tX6_dotsOfPart_15 v x1 x2 (lpF n15 (d15 + 1) (bX6_dotsOfPart_15 v x1 x2) z))) e_7)
              exact J74 y4_15 y5_15 0 hg hI _ (lv_sub hl [0, 1, 2, 3, 4, 5, 6] rfl)
            · refine lv_iconst (v := 1) hC.1 hC.2.1 dX6_dotsOfPart_53 (by decide) ?_
              refine lv_goto (tgt := 74) hC.1 hC.2.1 dX6_dotsOfPart_54 (by decide) ?_
              have e_8 : bX6_dotsOfPart_15 v x1 x2 d15 (y4_15, y5_15) = tX6_dotsOfPart_J74 v x1 x2 d15 y4_15 y5_15 1 := by exact Eq.trans (if_pos k29) (Eq.trans (if_pos k39) (Eq.trans (if_pos k50) rfl))
              have hg : fX6_dotsOfPart v x1 x2 = (tX6_dotsOfPart_15 v x1 x2 (lpF n15 (d15 + 1) (bX6_dotsOfPart_15 v x1 x2) (tX6_dotsOfPart_J74 v x1 x2 d15 y4_15 y5_15 1))) := hg.trans (congrArg (fun z => (tX6_dotsOfPart_15 v x1 x2 (lpF n15 (d15 + 1) (bX6_dotsOfPart_15 v x1 x2) z))) e_8)
              exact J74 y4_15 y5_15 1 hg hI _ (lv_sub hl [0, 1, 2, 3, 4, 5, 6] rfl)
  have e_9 : fX6_dotsOfPart v x1 x2 = tX6_dotsOfPart_15 v x1 x2 (lpF 24 0 (bX6_dotsOfPart_15 v x1 x2) (0, 0)) := by exact rfl
  have hg : fX6_dotsOfPart v x1 x2 = (tX6_dotsOfPart_15 v x1 x2 (lpF 24 0 (bX6_dotsOfPart_15 v x1 x2) (0, 0))) := hg.trans (congrArg (fun z => z) e_9)
  exact L15  24 0 0 0 (by omega) hg hI _ (lv_sub hl [4, 5, 6, 3, 2, 1, 0] rfl)

theorem dX6_isCool_0 : decode cX6_isCool 0 = .ok (.iconst 1, 1) := by decide +kernel
theorem dX6_isCool_1 : decode cX6_isCool 1 = .ok (.istore_n 3, 1) := by decide +kernel
theorem dX6_isCool_2 : decode cX6_isCool 2 = .ok (.iconst 0, 1) := by decide +kernel
theorem dX6_isCool_3 : decode cX6_isCool 3 = .ok (.istore 4, 2) := by decide +kernel
theorem dX6_isCool_5 : decode cX6_isCool 5 = .ok (.iload 4, 2) := by decide +kernel
theorem dX6_isCool_7 : decode cX6_isCool 7 = .ok (.bipush 24, 2) := by decide +kernel
theorem dX6_isCool_9 : decode cX6_isCool 9 = .ok (.if_icmp .ge 53, 3) := by decide +kernel
theorem dX6_isCool_12 : decode cX6_isCool 12 = .ok (.iload_n 3, 1) := by decide +kernel
theorem dX6_isCool_13 : decode cX6_isCool 13 = .ok (.ifCond .eq 41, 3) := by decide +kernel
theorem dX6_isCool_16 : decode cX6_isCool 16 = .ok (.iload_n 2, 1) := by decide +kernel
theorem dX6_isCool_17 : decode cX6_isCool 17 = .ok (.iload 4, 2) := by decide +kernel
theorem dX6_isCool_19 : decode cX6_isCool 19 = .ok (.invokestatic 60, 3) := by decide +kernel
theorem dX6_isCool_22 : decode cX6_isCool 22 = .ok (.ifCond .eq 28, 3) := by decide +kernel
theorem dX6_isCool_25 : decode cX6_isCool 25 = .ok (.aload_n 0, 1) := by decide +kernel
theorem dX6_isCool_26 : decode cX6_isCool 26 = .ok (.getfield 7, 3) := by decide +kernel
theorem dX6_isCool_29 : decode cX6_isCool 29 = .ok (.iload 4, 2) := by decide +kernel
theorem dX6_isCool_31 : decode cX6_isCool 31 = .ok (.iaload, 1) := by decide +kernel
theorem dX6_isCool_32 : decode cX6_isCool 32 = .ok (.aload_n 0, 1) := by decide +kernel
theorem dX6_isCool_33 : decode cX6_isCool 33 = .ok (.iload_n 1, 1) := by decide +kernel
theorem dX6_isCool_34 : decode cX6_isCool 34 = .ok (.iload 4, 2) := by decide +kernel
theorem dX6_isCool_36 : decode cX6_isCool 36 = .ok (.invokevirtual 78, 3) := by decide +kernel
theorem dX6_isCool_39 : decode cX6_isCool 39 = .ok (.iadd, 1) := by decide +kernel
theorem dX6_isCool_40 : decode cX6_isCool 40 = .ok (.aload_n 0, 1) := by decide +kernel
theorem dX6_isCool_41 : decode cX6_isCool 41 = .ok (.getfield 7, 3) := by decide +kernel
theorem dX6_isCool_44 : decode cX6_isCool 44 = .ok (.bipush 76, 2) := by decide +kernel
theorem dX6_isCool_46 : decode cX6_isCool 46 = .ok (.iaload, 1) := by decide +kernel
theorem dX6_isCool_47 : decode cX6_isCool 47 = .ok (.if_icmp .gt 7, 3) := by decide +kernel
theorem dX6_isCool_50 : decode cX6_isCool 50 = .ok (.iconst 1, 1) := by decide +kernel
theorem dX6_isCool_51 : decode cX6_isCool 51 = .ok (.goto 4, 3) := by decide +kernel
theorem dX6_isCool_54 : decode cX6_isCool 54 = .ok (.iconst 0, 1) := by decide +kernel
theorem dX6_isCool_55 : decode cX6_isCool 55 = .ok (.istore_n 3, 1) := by decide +kernel
theorem dX6_isCool_56 : decode cX6_isCool 56 = .ok (.iinc 4 1, 3) := by decide +kernel
theorem dX6_isCool_59 : decode cX6_isCool 59 = .ok (.goto (-54), 3) := by decide +kernel
theorem dX6_isCool_62 : decode cX6_isCool 62 = .ok (.iload_n 3, 1) := by decide +kernel
theorem dX6_isCool_63 : decode cX6_isCool 63 = .ok (.ireturn, 1) := by decide +kernel
set_option maxHeartbeats 1000000 in
set_option maxRecDepth 100000 in
theorem c_X6_isCool (l : Launch) (G : GT) (q : Nat → Nat) (v : SV) (hs : Int64) (x1 : Int32) (x2 : Int32) : Met l yX6_isCool (Cond.code yX6_isCool cX6_isCool 5 (some .boolean) :: bigW) ({ frames := 4, cells := 0, slots := 0, locals := 90 }) (BP G [.ref (q 0), .int x1, .int x2] (fun U H => PW G (mdW G q v hs) H)) (QP (.int (fX6_isCool v x1 x2))) 0 0 (fun _ => False) := by
  refine met_of (by decide) (Nat.le_of_ble_eq_true rfl) ?_
  intro p e s m below meth c ls hC hKN hB0 hl
  have hP := hB0
  have hl : lv_has ls 5 [(0, .ref (q 0)), (1, .int x1), (2, .int x2)] := hl
  have hg : fX6_isCool v x1 x2 = fX6_isCool v x1 x2 := rfl
  refine lv_iconst (v := 1) hC.1 hC.2.1 dX6_isCool_0 (by decide) ?_
  refine lv_istore_n (lv' := [(3, .int 1), (0, .ref (q 0)), (1, .int x1), (2, .int x2)]) hC.1 hC.2.1 dX6_isCool_1 rfl hl (by decide) rfl (fun ls hl => ?_)
  refine lv_iconst (v := 0) hC.1 hC.2.1 dX6_isCool_2 (by decide) ?_
  refine lv_istore (lv' := [(4, .int 0), (3, .int 1), (0, .ref (q 0)), (1, .int x1), (2, .int x2)]) hC.1 hC.2.1 dX6_isCool_3 hl (by decide) rfl (fun ls hl => ?_)
  have A5 : ∀ (y3_5 : Int32), fX6_isCool v x1 x2 = (tX6_isCool_5 v x1 x2 y3_5) → (y3_5 = 0 ∨ y3_5 = 1) → ∀ (ls : Array Slot), lv_has ls 5 [(3, .int y3_5)] → W p l e ({ frames := 4, cells := 0, slots := 0, locals := 90 }) s m ([.ref (q 0), .int x1, .int x2] : List Value).toArray below meth c s.heap [] 0 0 (MQ below (QP (.int (fX6_isCool v x1 x2))) ([.ref (q 0), .int x1, .int x2] : List Value).toArray s 0 0 (fun _ => False)) (F0 m 62 ls []) := by
    intro  y3_5 hg hI ls hl
    refine lv_iload_n hC.1 hC.2.1 dX6_isCool_62 rfl (lv_at hl 0 rfl) ?_
    have e_1 : tX6_isCool_5 v x1 x2 y3_5 = y3_5 := by exact rfl
    have hg : fX6_isCool v x1 x2 = y3_5 := hg.trans (congrArg (fun z => z) e_1)
    exact eP_z hC (congrArg Value.int hg) (nb01 hI) dX6_isCool_63
  have L5 : ∀ (n5 d5 : Nat), ∀ (y3_5 : Int32), d5 + n5 = 24 → fX6_isCool v x1 x2 = (tX6_isCool_5 v x1 x2 (lpF n5 d5 (bX6_isCool_5 v x1 x2) y3_5)) → (y3_5 = 0 ∨ y3_5 = 1) → ∀ (ls : Array Slot), lv_has ls 5 [(0, .ref (q 0)), (1, .int x1), (2, .int x2), (3, .int y3_5), (4, .int (nI d5))] → W p l e ({ frames := 4, cells := 0, slots := 0, locals := 90 }) s m ([.ref (q 0), .int x1, .int x2] : List Value).toArray below meth c s.heap [] 0 0 (MQ below (QP (.int (fX6_isCool v x1 x2))) ([.ref (q 0), .int x1, .int x2] : List Value).toArray s 0 0 (fun _ => False)) (F0 m 5 ls []) := by
    intro n5
    induction n5 with
    | zero =>
      intro d5 y3_5 hd hg hI ls hl
      refine lv_iload hC.1 hC.2.1 dX6_isCool_5 (lv_at hl 4 rfl) ?_
      refine lv_bipush (v := 24) hC.1 hC.2.1 dX6_isCool_7 (by decide +kernel) ?_
      refine lv_icmp_ge (tgt := 62) hC.1 hC.2.1 dX6_isCool_9 (by decide) (fun k9 => ?_) (fun k9 => ?_)
      · exact A5  y3_5 hg hI _ (lv_sub hl [3] rfl)
      · exact absurd (nI_le (a := 24) (b := d5) (by omega) (by omega)) k9
    | succ n5 ih =>
      intro d5 y3_5 hd hg hI ls hl
      have hg : fX6_isCool v x1 x2 = (tX6_isCool_5 v x1 x2 (lpF n5 (d5 + 1) (bX6_isCool_5 v x1 x2) (bX6_isCool_5 v x1 x2 d5 y3_5))) := hg
      refine lv_iload hC.1 hC.2.1 dX6_isCool_5 (lv_at hl 4 rfl) ?_
      refine lv_bipush (v := 24) hC.1 hC.2.1 dX6_isCool_7 (by decide +kernel) ?_
      refine lv_icmp_ge (tgt := 62) hC.1 hC.2.1 dX6_isCool_9 (by decide) (fun k9 => ?_) (fun k9 => ?_)
      · exact absurd k9 (nI_ge (a := d5) (b := 24) (by omega) (by omega))
      · refine lv_iload_n hC.1 hC.2.1 dX6_isCool_12 rfl (lv_at hl 3 rfl) ?_
        refine lv_if_eq (tgt := 54) hC.1 hC.2.1 dX6_isCool_13 (by decide) (fun k13 => ?_) (fun k13 => ?_)
        · refine lv_iconst (v := 0) hC.1 hC.2.1 dX6_isCool_54 (by decide) ?_
          refine lv_istore_n (lv' := [(3, .int 0), (0, .ref (q 0)), (1, .int x1), (2, .int x2), (4, .int (nI d5))]) hC.1 hC.2.1 dX6_isCool_55 rfl hl (by decide) rfl (fun ls hl => ?_)
          refine lv_iinc (v := nI (d5 + 1)) (lv' := [(4, .int (nI (d5 + 1))), (3, .int 0), (0, .ref (q 0)), (1, .int x1), (2, .int x2)]) hC.1 hC.2.1 dX6_isCool_56 hl (k := 4) rfl (nI_1 _) (by decide) rfl (fun ls hl => ?_)
          refine lv_goto (tgt := 5) hC.1 hC.2.1 dX6_isCool_59 (by decide) ?_
          have e_2 : bX6_isCool_5 v x1 x2 d5 y3_5 = 0 := by exact Eq.trans (if_pos k13) rfl
          have hg : fX6_isCool v x1 x2 = (tX6_isCool_5 v x1 x2 (lpF n5 (d5 + 1) (bX6_isCool_5 v x1 x2) 0)) := hg.trans (congrArg (fun z => (tX6_isCool_5 v x1 x2 (lpF n5 (d5 + 1) (bX6_isCool_5 v x1 x2) z))) e_2)
          exact ih (d5 + 1) 0 (by omega) hg (by first | exact Or.inl rfl | exact Or.inr rfl | exact hI) _ (lv_sub hl [2, 3, 4, 1, 0] rfl)
        · refine lv_iload_n hC.1 hC.2.1 dX6_isCool_16 rfl (lv_at hl 2 rfl) ?_
          refine lv_iload hC.1 hC.2.1 dX6_isCool_17 (lv_at hl 4 rfl) ?_
          refine runP (rS (B := fun U H => True) (As := [.int x2, .int (nI d5)]) (rest := []) hC mwX6_bit (c_X6_bit l G x2 (nI d5)) wd_997 wd_996 ⟨rfl, rfl⟩ ⟨Nat.le_of_ble_eq_true rfl, Nat.le_of_ble_eq_true rfl⟩ (fun _ _ _ _ h => h) hKN trivial rfl hl.1 rfl (Nat.le_of_ble_eq_true rfl) dX6_isCool_19 ⟨Nat.zero_le _, Nat.zero_le _⟩) ?_
          refine lv_if_eq (tgt := 50) hC.1 hC.2.1 dX6_isCool_22 (by decide) (fun k22 => ?_) (fun k22 => ?_)
          · refine lv_iconst (v := 1) hC.1 hC.2.1 dX6_isCool_50 (by decide) ?_
            refine lv_goto (tgt := 55) hC.1 hC.2.1 dX6_isCool_51 (by decide) ?_
            refine lv_istore_n (lv' := [(3, .int 1), (0, .ref (q 0)), (1, .int x1), (2, .int x2), (4, .int (nI d5))]) hC.1 hC.2.1 dX6_isCool_55 rfl hl (by decide) rfl (fun ls hl => ?_)
            refine lv_iinc (v := nI (d5 + 1)) (lv' := [(4, .int (nI (d5 + 1))), (3, .int 1), (0, .ref (q 0)), (1, .int x1), (2, .int x2)]) hC.1 hC.2.1 dX6_isCool_56 hl (k := 4) rfl (nI_1 _) (by decide) rfl (fun ls hl => ?_)
            refine lv_goto (tgt := 5) hC.1 hC.2.1 dX6_isCool_59 (by decide) ?_
            have e_3 : bX6_isCool_5 v x1 x2 d5 y3_5 = 1 := by exact Eq.trans (if_neg k13) (Eq.trans (if_pos k22) rfl)
            have hg : fX6_isCool v x1 x2 = (tX6_isCool_5 v x1 x2 (lpF n5 (d5 + 1) (bX6_isCool_5 v x1 x2) 1)) := hg.trans (congrArg (fun z => (tX6_isCool_5 v x1 x2 (lpF n5 (d5 + 1) (bX6_isCool_5 v x1 x2) z))) e_3)
            exact ih (d5 + 1) 1 (by omega) hg (by first | exact Or.inl rfl | exact Or.inr rfl | exact hI) _ (lv_sub hl [2, 3, 4, 1, 0] rfl)
          · refine lv_aload_n hC.1 hC.2.1 dX6_isCool_25 rfl (lv_at hl 0 rfl) ?_
            refine gf (v := .ref (q 1)) hC fwX6 hKN hP 0 rfl rfl 0 (by decide) rfl wd_887 rfl dX6_isCool_26 ?_
            refine lv_iload hC.1 hC.2.1 dX6_isCool_29 (lv_at hl 4 rfl) ?_
            refine iald_k hC hKN hP 1 rfl (n := 124) (f := (v 0)) d5 (rfl) (by omega) (by decide) dX6_isCool_31 ?_
            refine lv_aload_n hC.1 hC.2.1 dX6_isCool_32 rfl (lv_at hl 0 rfl) ?_
            refine lv_iload_n hC.1 hC.2.1 dX6_isCool_33 rfl (lv_at hl 1 rfl) ?_
            refine lv_iload hC.1 hC.2.1 dX6_isCool_34 (lv_at hl 4 rfl) ?_
            refine runP (rV (B := fun U H => PW G (mdW G q v hs) H) (As := [.int x1, .int (nI d5)]) (rest := [.int ((v 0) d5)]) hC mwX6_pulse (c_X6_pulse l G q v hs x1 (nI d5)) iwX6_pulse wd_1003 ⟨rfl, rfl⟩ ⟨Nat.le_of_ble_eq_true rfl, Nat.le_of_ble_eq_true rfl⟩ (stb_h (fun H => PW G (mdW G q v hs) H)) hKN hP (va_recv hKN.k hP (ci := 6) (q0 := 0) rfl rfl) rfl hl.1 rfl (Nat.le_of_ble_eq_true rfl) dX6_isCool_36 ⟨Nat.zero_le _, Nat.zero_le _⟩) ?_
            refine lv_iadd hC.1 hC.2.1 dX6_isCool_39 ?_
            refine lv_aload_n hC.1 hC.2.1 dX6_isCool_40 rfl (lv_at hl 0 rfl) ?_
            refine gf (v := .ref (q 1)) hC fwX6 hKN hP 0 rfl rfl 0 (by decide) rfl wd_887 rfl dX6_isCool_41 ?_
            refine lv_bipush (v := 76) hC.1 hC.2.1 dX6_isCool_44 (by decide +kernel) ?_
            refine iald_k hC hKN hP 1 rfl (n := 124) (f := (v 0)) 76 (rfl) (by omega) (by decide) dX6_isCool_46 ?_
            refine lv_icmp_gt (tgt := 54) hC.1 hC.2.1 dX6_isCool_47 (by decide) (fun k47 => ?_) (fun k47 => ?_)
            · refine lv_iconst (v := 0) hC.1 hC.2.1 dX6_isCool_54 (by decide) ?_
              refine lv_istore_n (lv' := [(3, .int 0), (0, .ref (q 0)), (1, .int x1), (2, .int x2), (4, .int (nI d5))]) hC.1 hC.2.1 dX6_isCool_55 rfl hl (by decide) rfl (fun ls hl => ?_)
              refine lv_iinc (v := nI (d5 + 1)) (lv' := [(4, .int (nI (d5 + 1))), (3, .int 0), (0, .ref (q 0)), (1, .int x1), (2, .int x2)]) hC.1 hC.2.1 dX6_isCool_56 hl (k := 4) rfl (nI_1 _) (by decide) rfl (fun ls hl => ?_)
              refine lv_goto (tgt := 5) hC.1 hC.2.1 dX6_isCool_59 (by decide) ?_
              have e_4 : bX6_isCool_5 v x1 x2 d5 y3_5 = 0 := by exact Eq.trans (if_neg k13) (Eq.trans (if_neg k22) (Eq.trans (if_pos k47) rfl))
              have hg : fX6_isCool v x1 x2 = (tX6_isCool_5 v x1 x2 (lpF n5 (d5 + 1) (bX6_isCool_5 v x1 x2) 0)) := hg.trans (congrArg (fun z => (tX6_isCool_5 v x1 x2 (lpF n5 (d5 + 1) (bX6_isCool_5 v x1 x2) z))) e_4)
              exact ih (d5 + 1) 0 (by omega) hg (by first | exact Or.inl rfl | exact Or.inr rfl | exact hI) _ (lv_sub hl [2, 3, 4, 1, 0] rfl)
            · refine lv_iconst (v := 1) hC.1 hC.2.1 dX6_isCool_50 (by decide) ?_
              refine lv_goto (tgt := 55) hC.1 hC.2.1 dX6_isCool_51 (by decide) ?_
              refine lv_istore_n (lv' := [(3, .int 1), (0, .ref (q 0)), (1, .int x1), (2, .int x2), (4, .int (nI d5))]) hC.1 hC.2.1 dX6_isCool_55 rfl hl (by decide) rfl (fun ls hl => ?_)
              refine lv_iinc (v := nI (d5 + 1)) (lv' := [(4, .int (nI (d5 + 1))), (3, .int 1), (0, .ref (q 0)), (1, .int x1), (2, .int x2)]) hC.1 hC.2.1 dX6_isCool_56 hl (k := 4) rfl (nI_1 _) (by decide) rfl (fun ls hl => ?_)
              refine lv_goto (tgt := 5) hC.1 hC.2.1 dX6_isCool_59 (by decide) ?_
              have e_5 : bX6_isCool_5 v x1 x2 d5 y3_5 = 1 := by exact Eq.trans (if_neg k13) (Eq.trans (if_neg k22) (Eq.trans (if_neg k47) rfl))
              have hg : fX6_isCool v x1 x2 = (tX6_isCool_5 v x1 x2 (lpF n5 (d5 + 1) (bX6_isCool_5 v x1 x2) 1)) := hg.trans (congrArg (fun z => (tX6_isCool_5 v x1 x2 (lpF n5 (d5 + 1) (bX6_isCool_5 v x1 x2) z))) e_5)
              exact ih (d5 + 1) 1 (by omega) hg (by first | exact Or.inl rfl | exact Or.inr rfl | exact hI) _ (lv_sub hl [2, 3, 4, 1, 0] rfl)
  have e_6 : fX6_isCool v x1 x2 = tX6_isCool_5 v x1 x2 (lpF 24 0 (bX6_isCool_5 v x1 x2) 1) := by exact rfl
  have hg : fX6_isCool v x1 x2 = (tX6_isCool_5 v x1 x2 (lpF 24 0 (bX6_isCool_5 v x1 x2) 1)) := hg.trans (congrArg (fun z => z) e_6)
  exact L5  24 0 1 (by omega) hg (by first | exact Or.inl rfl | exact Or.inr rfl | exact hI) _ (lv_sub hl [2, 3, 4, 1, 0] rfl)

theorem dX6_printPart_0 : decode cX6_printPart 0 = .ok (.iconst 0, 1) := by decide +kernel
theorem dX6_printPart_1 : decode cX6_printPart 1 = .ok (.istore_n 3, 1) := by decide +kernel
theorem dX6_printPart_2 : decode cX6_printPart 2 = .ok (.iconst 0, 1) := by decide +kernel
theorem dX6_printPart_3 : decode cX6_printPart 3 = .ok (.istore 4, 2) := by decide +kernel
theorem dX6_printPart_5 : decode cX6_printPart 5 = .ok (.iload 4, 2) := by decide +kernel
theorem dX6_printPart_7 : decode cX6_printPart 7 = .ok (.bipush 24, 2) := by decide +kernel
theorem dX6_printPart_9 : decode cX6_printPart 9 = .ok (.if_icmp .ge 165, 3) := by decide +kernel
theorem dX6_printPart_12 : decode cX6_printPart 12 = .ok (.iload_n 2, 1) := by decide +kernel
theorem dX6_printPart_13 : decode cX6_printPart 13 = .ok (.iload 4, 2) := by decide +kernel
theorem dX6_printPart_15 : decode cX6_printPart 15 = .ok (.invokestatic 60, 3) := by decide +kernel
theorem dX6_printPart_18 : decode cX6_printPart 18 = .ok (.iconst 1, 1) := by decide +kernel
theorem dX6_printPart_19 : decode cX6_printPart 19 = .ok (.if_icmp .ne 149, 3) := by decide +kernel
theorem dX6_printPart_22 : decode cX6_printPart 22 = .ok (.aload_n 0, 1) := by decide +kernel
theorem dX6_printPart_23 : decode cX6_printPart 23 = .ok (.iload_n 1, 1) := by decide +kernel
theorem dX6_printPart_24 : decode cX6_printPart 24 = .ok (.iload 4, 2) := by decide +kernel
theorem dX6_printPart_26 : decode cX6_printPart 26 = .ok (.invokevirtual 78, 3) := by decide +kernel
theorem dX6_printPart_29 : decode cX6_printPart 29 = .ok (.istore 5, 2) := by decide +kernel
theorem dX6_printPart_31 : decode cX6_printPart 31 = .ok (.iload 5, 2) := by decide +kernel
theorem dX6_printPart_33 : decode cX6_printPart 33 = .ok (.iload_n 3, 1) := by decide +kernel
theorem dX6_printPart_34 : decode cX6_printPart 34 = .ok (.if_icmp .le 8, 3) := by decide +kernel
theorem dX6_printPart_37 : decode cX6_printPart 37 = .ok (.iload 5, 2) := by decide +kernel
theorem dX6_printPart_39 : decode cX6_printPart 39 = .ok (.goto 4, 3) := by decide +kernel
theorem dX6_printPart_42 : decode cX6_printPart 42 = .ok (.iload_n 3, 1) := by decide +kernel
theorem dX6_printPart_43 : decode cX6_printPart 43 = .ok (.istore_n 3, 1) := by decide +kernel
theorem dX6_printPart_44 : decode cX6_printPart 44 = .ok (.aload_n 0, 1) := by decide +kernel
theorem dX6_printPart_45 : decode cX6_printPart 45 = .ok (.getfield 7, 3) := by decide +kernel
theorem dX6_printPart_48 : decode cX6_printPart 48 = .ok (.iload 4, 2) := by decide +kernel
theorem dX6_printPart_50 : decode cX6_printPart 50 = .ok (.dup2, 1) := by decide +kernel
theorem dX6_printPart_51 : decode cX6_printPart 51 = .ok (.iaload, 1) := by decide +kernel
theorem dX6_printPart_52 : decode cX6_printPart 52 = .ok (.iload 5, 2) := by decide +kernel
theorem dX6_printPart_54 : decode cX6_printPart 54 = .ok (.iadd, 1) := by decide +kernel
theorem dX6_printPart_55 : decode cX6_printPart 55 = .ok (.iastore, 1) := by decide +kernel
theorem dX6_printPart_56 : decode cX6_printPart 56 = .ok (.aload_n 0, 1) := by decide +kernel
theorem dX6_printPart_57 : decode cX6_printPart 57 = .ok (.aload_n 0, 1) := by decide +kernel
theorem dX6_printPart_58 : decode cX6_printPart 58 = .ok (.getfield 7, 3) := by decide +kernel
theorem dX6_printPart_61 : decode cX6_printPart 61 = .ok (.iload 4, 2) := by decide +kernel
theorem dX6_printPart_63 : decode cX6_printPart 63 = .ok (.iaload, 1) := by decide +kernel
theorem dX6_printPart_64 : decode cX6_printPart 64 = .ok (.aload_n 0, 1) := by decide +kernel
theorem dX6_printPart_65 : decode cX6_printPart 65 = .ok (.getfield 81, 3) := by decide +kernel
theorem dX6_printPart_68 : decode cX6_printPart 68 = .ok (.if_icmp .le 13, 3) := by decide +kernel
theorem dX6_printPart_71 : decode cX6_printPart 71 = .ok (.aload_n 0, 1) := by decide +kernel
theorem dX6_printPart_72 : decode cX6_printPart 72 = .ok (.getfield 7, 3) := by decide +kernel
theorem dX6_printPart_75 : decode cX6_printPart 75 = .ok (.iload 4, 2) := by decide +kernel
theorem dX6_printPart_77 : decode cX6_printPart 77 = .ok (.iaload, 1) := by decide +kernel
theorem dX6_printPart_78 : decode cX6_printPart 78 = .ok (.goto 7, 3) := by decide +kernel
theorem dX6_printPart_81 : decode cX6_printPart 81 = .ok (.aload_n 0, 1) := by decide +kernel
theorem dX6_printPart_82 : decode cX6_printPart 82 = .ok (.getfield 81, 3) := by decide +kernel
theorem dX6_printPart_85 : decode cX6_printPart 85 = .ok (.putfield 81, 3) := by decide +kernel
theorem dX6_printPart_88 : decode cX6_printPart 88 = .ok (.aload_n 0, 1) := by decide +kernel
theorem dX6_printPart_89 : decode cX6_printPart 89 = .ok (.getfield 7, 3) := by decide +kernel
theorem dX6_printPart_92 : decode cX6_printPart 92 = .ok (.iload 4, 2) := by decide +kernel
theorem dX6_printPart_94 : decode cX6_printPart 94 = .ok (.iaload, 1) := by decide +kernel
theorem dX6_printPart_95 : decode cX6_printPart 95 = .ok (.aload_n 0, 1) := by decide +kernel
theorem dX6_printPart_96 : decode cX6_printPart 96 = .ok (.invokevirtual 84, 3) := by decide +kernel
theorem dX6_printPart_99 : decode cX6_printPart 99 = .ok (.if_icmp .lt 7, 3) := by decide +kernel
theorem dX6_printPart_102 : decode cX6_printPart 102 = .ok (.iconst 1, 1) := by decide +kernel
theorem dX6_printPart_103 : decode cX6_printPart 103 = .ok (.goto 4, 3) := by decide +kernel
theorem dX6_printPart_106 : decode cX6_printPart 106 = .ok (.iconst 0, 1) := by decide +kernel
theorem dX6_printPart_107 : decode cX6_printPart 107 = .ok (.istore 6, 2) := by decide +kernel
theorem dX6_printPart_109 : decode cX6_printPart 109 = .ok (.aload_n 0, 1) := by decide +kernel
theorem dX6_printPart_110 : decode cX6_printPart 110 = .ok (.dup, 1) := by decide +kernel
theorem dX6_printPart_111 : decode cX6_printPart 111 = .ok (.getfield 87, 3) := by decide +kernel
theorem dX6_printPart_114 : decode cX6_printPart 114 = .ok (.iload 6, 2) := by decide +kernel
theorem dX6_printPart_116 : decode cX6_printPart 116 = .ok (.ifCond .eq 10, 3) := by decide +kernel
theorem dX6_printPart_119 : decode cX6_printPart 119 = .ok (.iconst 1, 1) := by decide +kernel
theorem dX6_printPart_120 : decode cX6_printPart 120 = .ok (.iload 4, 2) := by decide +kernel
theorem dX6_printPart_122 : decode cX6_printPart 122 = .ok (.ishl, 1) := by decide +kernel
theorem dX6_printPart_123 : decode cX6_printPart 123 = .ok (.goto 4, 3) := by decide +kernel
theorem dX6_printPart_126 : decode cX6_printPart 126 = .ok (.iconst 0, 1) := by decide +kernel
theorem dX6_printPart_127 : decode cX6_printPart 127 = .ok (.ior, 1) := by decide +kernel
theorem dX6_printPart_128 : decode cX6_printPart 128 = .ok (.putfield 87, 3) := by decide +kernel
theorem dX6_printPart_131 : decode cX6_printPart 131 = .ok (.aload_n 0, 1) := by decide +kernel
theorem dX6_printPart_132 : decode cX6_printPart 132 = .ok (.getfield 7, 3) := by decide +kernel
theorem dX6_printPart_135 : decode cX6_printPart 135 = .ok (.bipush 26, 2) := by decide +kernel
theorem dX6_printPart_137 : decode cX6_printPart 137 = .ok (.iload 4, 2) := by decide +kernel
theorem dX6_printPart_139 : decode cX6_printPart 139 = .ok (.iadd, 1) := by decide +kernel
theorem dX6_printPart_140 : decode cX6_printPart 140 = .ok (.dup2, 1) := by decide +kernel
theorem dX6_printPart_141 : decode cX6_printPart 141 = .ok (.iaload, 1) := by decide +kernel
theorem dX6_printPart_142 : decode cX6_printPart 142 = .ok (.iconst 1, 1) := by decide +kernel
theorem dX6_printPart_143 : decode cX6_printPart 143 = .ok (.iadd, 1) := by decide +kernel
theorem dX6_printPart_144 : decode cX6_printPart 144 = .ok (.iastore, 1) := by decide +kernel
theorem dX6_printPart_145 : decode cX6_printPart 145 = .ok (.aload_n 0, 1) := by decide +kernel
theorem dX6_printPart_146 : decode cX6_printPart 146 = .ok (.getfield 7, 3) := by decide +kernel
theorem dX6_printPart_149 : decode cX6_printPart 149 = .ok (.bipush 50, 2) := by decide +kernel
theorem dX6_printPart_151 : decode cX6_printPart 151 = .ok (.iload 4, 2) := by decide +kernel
theorem dX6_printPart_153 : decode cX6_printPart 153 = .ok (.iadd, 1) := by decide +kernel
theorem dX6_printPart_154 : decode cX6_printPart 154 = .ok (.dup2, 1) := by decide +kernel
theorem dX6_printPart_155 : decode cX6_printPart 155 = .ok (.iaload, 1) := by decide +kernel
theorem dX6_printPart_156 : decode cX6_printPart 156 = .ok (.iload 6, 2) := by decide +kernel
theorem dX6_printPart_158 : decode cX6_printPart 158 = .ok (.ifCond .eq 7, 3) := by decide +kernel
theorem dX6_printPart_161 : decode cX6_printPart 161 = .ok (.iconst 0, 1) := by decide +kernel
theorem dX6_printPart_162 : decode cX6_printPart 162 = .ok (.goto 4, 3) := by decide +kernel
theorem dX6_printPart_165 : decode cX6_printPart 165 = .ok (.iconst 1, 1) := by decide +kernel
theorem dX6_printPart_166 : decode cX6_printPart 166 = .ok (.iadd, 1) := by decide +kernel
theorem dX6_printPart_167 : decode cX6_printPart 167 = .ok (.iastore, 1) := by decide +kernel
theorem dX6_printPart_168 : decode cX6_printPart 168 = .ok (.iinc 4 1, 3) := by decide +kernel
theorem dX6_printPart_171 : decode cX6_printPart 171 = .ok (.goto (-166), 3) := by decide +kernel
theorem dX6_printPart_174 : decode cX6_printPart 174 = .ok (.iload_n 3, 1) := by decide +kernel
theorem dX6_printPart_175 : decode cX6_printPart 175 = .ok (.ireturn, 1) := by decide +kernel
set_option maxHeartbeats 1000000 in
set_option maxRecDepth 100000 in
theorem c_X6_printPart (l : Launch) (G : GT) (q : Nat → Nat) (v : SV) (hs : Int64) (x1 : Int32) (x2 : Int32) (hq : mdD G q) (hI : SI (v 0)) : Met l yX6_printPart (Cond.code yX6_printPart cX6_printPart 7 (some .int) :: bigW) ({ frames := 4, cells := 0, slots := 0, locals := 90 }) (BP G [.ref (q 0), .int x1, .int x2] (fun U H => PW G (mdW G q v hs) H)) (QE (some (.int (fX6_printPart v x1 x2).2)) (fun H => PW G (mdW G q (fX6_printPart v x1 x2).1 hs) H) (mdA q)) 0 0 (mdA q) := by
  refine met_of (by decide) (Nat.le_of_ble_eq_true rfl) ?_
  intro p e s m below meth c ls hC hKN hB0 hl
  have hP := hB0
  have hl : lv_has ls 7 [(0, .ref (q 0)), (1, .int x1), (2, .int x2)] := hl
  have hS : va_S (mdA q) s.heap s.heap [] := va_S.rf
  have hAL : ∀ a, (mdA q) a → gL G ≤ a := mdD_low hq
  have hg : fX6_printPart v x1 x2 = fX6_printPart v x1 x2 := rfl
  refine lv_iconst (v := 0) hC.1 hC.2.1 dX6_printPart_0 (by decide) ?_
  refine lv_istore_n (lv' := [(3, .int 0), (0, .ref (q 0)), (1, .int x1), (2, .int x2)]) hC.1 hC.2.1 dX6_printPart_1 rfl hl (by decide) rfl (fun ls hl => ?_)
  refine lv_iconst (v := 0) hC.1 hC.2.1 dX6_printPart_2 (by decide) ?_
  refine lv_istore (lv' := [(4, .int 0), (3, .int 0), (0, .ref (q 0)), (1, .int x1), (2, .int x2)]) hC.1 hC.2.1 dX6_printPart_3 hl (by decide) rfl (fun ls hl => ?_)
  have A5 : ∀ (y3_5 : Int32) (v_5 : SV), fX6_printPart v x1 x2 = (tX6_printPart_5 v x1 x2 (y3_5, v_5)) → SI (v_5 0) → ∀ (H : Heap) (locs : List Loc), PW G (mdW G q v_5 hs) H → va_S (mdA q) s.heap H locs → ∀ (ls : Array Slot), lv_has ls 7 [(3, .int y3_5)] → W p l e ({ frames := 4, cells := 0, slots := 0, locals := 90 }) s m ([.ref (q 0), .int x1, .int x2] : List Value).toArray below meth c H locs 0 0 (MQ below (QE (some (.int (fX6_printPart v x1 x2).2)) (fun H => PW G (mdW G q (fX6_printPart v x1 x2).1 hs) H) (mdA q)) ([.ref (q 0), .int x1, .int x2] : List Value).toArray s 0 0 (mdA q)) (F0 m 174 ls []) := by
    intro  y3_5 v_5 hg hI H locs hP hS ls hl
    refine lv_iload_n hC.1 hC.2.1 dX6_printPart_174 rfl (lv_at hl 0 rfl) ?_
    have e_1 : tX6_printPart_5 v x1 x2 (y3_5, v_5) = (v_5, y3_5) := by exact rfl
    have hg : fX6_printPart v x1 x2 = (v_5, y3_5) := hg.trans (congrArg (fun z => z) e_1)
    exact eE_i hC (by rw [hg]) (by show PW G (mdW G q (fX6_printPart v x1 x2).1 hs) H; rw [hg]; exact hP) hS dX6_printPart_175
  have L5 : ∀ (n5 d5 : Nat), ∀ (y3_5 : Int32) (v_5 : SV), d5 + n5 = 24 → fX6_printPart v x1 x2 = (tX6_printPart_5 v x1 x2 (lpF n5 d5 (bX6_printPart_5 v x1 x2) (y3_5, v_5))) → SI (v_5 0) → ∀ (H : Heap) (locs : List Loc), PW G (mdW G q v_5 hs) H → va_S (mdA q) s.heap H locs → ∀ (ls : Array Slot), lv_has ls 7 [(0, .ref (q 0)), (1, .int x1), (2, .int x2), (3, .int y3_5), (4, .int (nI d5))] → W p l e ({ frames := 4, cells := 0, slots := 0, locals := 90 }) s m ([.ref (q 0), .int x1, .int x2] : List Value).toArray below meth c H locs 0 0 (MQ below (QE (some (.int (fX6_printPart v x1 x2).2)) (fun H => PW G (mdW G q (fX6_printPart v x1 x2).1 hs) H) (mdA q)) ([.ref (q 0), .int x1, .int x2] : List Value).toArray s 0 0 (mdA q)) (F0 m 5 ls []) := by
    intro n5
    induction n5 with
    | zero =>
      intro d5 y3_5 v_5 hd hg hI H locs hP hS ls hl
      refine lv_iload hC.1 hC.2.1 dX6_printPart_5 (lv_at hl 4 rfl) ?_
      refine lv_bipush (v := 24) hC.1 hC.2.1 dX6_printPart_7 (by decide +kernel) ?_
      refine lv_icmp_ge (tgt := 174) hC.1 hC.2.1 dX6_printPart_9 (by decide) (fun k9 => ?_) (fun k9 => ?_)
      · exact A5  y3_5 v_5 hg hI _ _ hP hS _ (lv_sub hl [3] rfl)
      · exact absurd (nI_le (a := 24) (b := d5) (by omega) (by omega)) k9
    | succ n5 ih =>
      intro d5 y3_5 v_5 hd hg hI H locs hP hS ls hl
      have hg : fX6_printPart v x1 x2 = (tX6_printPart_5 v x1 x2 (lpF n5 (d5 + 1) (bX6_printPart_5 v x1 x2) (bX6_printPart_5 v x1 x2 d5 (y3_5, v_5)))) := hg
      refine lv_iload hC.1 hC.2.1 dX6_printPart_5 (lv_at hl 4 rfl) ?_
      refine lv_bipush (v := 24) hC.1 hC.2.1 dX6_printPart_7 (by decide +kernel) ?_
      refine lv_icmp_ge (tgt := 174) hC.1 hC.2.1 dX6_printPart_9 (by decide) (fun k9 => ?_) (fun k9 => ?_)
      · exact absurd k9 (nI_ge (a := d5) (b := 24) (by omega) (by omega))
      · refine lv_iload_n hC.1 hC.2.1 dX6_printPart_12 rfl (lv_at hl 2 rfl) ?_
        refine lv_iload hC.1 hC.2.1 dX6_printPart_13 (lv_at hl 4 rfl) ?_
        refine runP (rS (B := fun U H => True) (As := [.int x2, .int (nI d5)]) (rest := []) hC mwX6_bit (c_X6_bit l G x2 (nI d5)) wd_997 wd_996 ⟨rfl, rfl⟩ ⟨Nat.le_of_ble_eq_true rfl, Nat.le_of_ble_eq_true rfl⟩ (fun _ _ _ _ h => h) (hKN.go hAL hS) trivial rfl hl.1 rfl (Nat.le_of_ble_eq_true rfl) dX6_printPart_15 ⟨Nat.zero_le _, Nat.zero_le _⟩) ?_
        refine lv_iconst (v := 1) hC.1 hC.2.1 dX6_printPart_18 (by decide) ?_
        refine lv_icmp_ne (tgt := 168) hC.1 hC.2.1 dX6_printPart_19 (by decide) (fun k19 => ?_) (fun k19 => ?_)
        · refine lv_iinc (v := nI (d5 + 1)) (lv' := [(4, .int (nI (d5 + 1))), (0, .ref (q 0)), (1, .int x1), (2, .int x2), (3, .int y3_5)]) hC.1 hC.2.1 dX6_printPart_168 hl (k := 4) rfl (nI_1 _) (by decide) rfl (fun ls hl => ?_)
          refine lv_goto (tgt := 5) hC.1 hC.2.1 dX6_printPart_171 (by decide) ?_
          have e_2 : bX6_printPart_5 v x1 x2 d5 (y3_5, v_5) = (y3_5, v_5) := by exact Eq.trans (if_neg k19) rfl
          have hg : fX6_printPart v x1 x2 = (tX6_printPart_5 v x1 x2 (lpF n5 (d5 + 1) (bX6_printPart_5 v x1 x2) (y3_5, v_5))) := hg.trans (congrArg (fun z => (tX6_printPart_5 v x1 x2 (lpF n5 (d5 + 1) (bX6_printPart_5 v x1 x2) z))) e_2)
          exact ih (d5 + 1) y3_5 v_5 (by omega) hg hI _ _ hP hS _ (lv_sub hl [1, 2, 3, 4, 0] rfl)
        · refine lv_aload_n hC.1 hC.2.1 dX6_printPart_22 rfl (lv_at hl 0 rfl) ?_
          refine lv_iload_n hC.1 hC.2.1 dX6_printPart_23 rfl (lv_at hl 1 rfl) ?_
          refine lv_iload hC.1 hC.2.1 dX6_printPart_24 (lv_at hl 4 rfl) ?_
          refine runP (rV (B := fun U H => PW G (mdW G q v_5 hs) H) (As := [.int x1, .int (nI d5)]) (rest := []) hC mwX6_pulse (c_X6_pulse l G q v_5 hs x1 (nI d5)) iwX6_pulse wd_1003 ⟨rfl, rfl⟩ ⟨Nat.le_of_ble_eq_true rfl, Nat.le_of_ble_eq_true rfl⟩ (stb_h (fun H => PW G (mdW G q v_5 hs) H)) (hKN.go hAL hS) hP (va_recv (hKN.go hAL hS).k hP (ci := 6) (q0 := 0) rfl rfl) rfl hl.1 rfl (Nat.le_of_ble_eq_true rfl) dX6_printPart_26 ⟨Nat.zero_le _, Nat.zero_le _⟩) ?_
          refine lv_istore (lv' := [(5, .int (fX6_pulse v_5 x1 (nI d5))), (0, .ref (q 0)), (1, .int x1), (2, .int x2), (3, .int y3_5), (4, .int (nI d5))]) hC.1 hC.2.1 dX6_printPart_29 hl (by decide) rfl (fun ls hl => ?_)
          refine lv_iload hC.1 hC.2.1 dX6_printPart_31 (lv_at hl 0 rfl) ?_
          refine lv_iload_n hC.1 hC.2.1 dX6_printPart_33 rfl (lv_at hl 4 rfl) ?_
          have J43 : ∀ (y5_43 : Int32) (z0_43 : Int32) (v_43 : SV), fX6_printPart v x1 x2 = (tX6_printPart_5 v x1 x2 (lpF n5 (d5 + 1) (bX6_printPart_5 v x1 x2) (tX6_printPart_J43 v x1 x2 d5 y5_43 z0_43 v_43))) → SI (v_43 0) → ∀ (H : Heap) (locs : List Loc), PW G (mdW G q v_43 hs) H → va_S (mdA q) s.heap H locs → ∀ (ls : Array Slot), lv_has ls 7 [(0, .ref (q 0)), (1, .int x1), (2, .int x2), (4, .int (nI d5)), (5, .int y5_43)] → W p l e ({ frames := 4, cells := 0, slots := 0, locals := 90 }) s m ([.ref (q 0), .int x1, .int x2] : List Value).toArray below meth c H locs 0 0 (MQ below (QE (some (.int (fX6_printPart v x1 x2).2)) (fun H => PW G (mdW G q (fX6_printPart v x1 x2).1 hs) H) (mdA q)) ([.ref (q 0), .int x1, .int x2] : List Value).toArray s 0 0 (mdA q)) (F0 m 43 ls [.int z0_43]) := by
            intro y5_43 z0_43 v_43 hg hI H locs hP hS ls hl
            refine lv_istore_n (lv' := [(3, .int z0_43), (0, .ref (q 0)), (1, .int x1), (2, .int x2), (4, .int (nI d5)), (5, .int y5_43)]) hC.1 hC.2.1 dX6_printPart_43 rfl hl (by decide) rfl (fun ls hl => ?_)
            refine lv_aload_n hC.1 hC.2.1 dX6_printPart_44 rfl (lv_at hl 1 rfl) ?_
            refine gf (v := .ref (q 1)) hC fwX6 (hKN.go hAL hS) hP 0 rfl rfl 0 (by decide) rfl wd_887 rfl dX6_printPart_45 ?_
            refine lv_iload hC.1 hC.2.1 dX6_printPart_48 (lv_at hl 4 rfl) ?_
            refine lv_dup2_11 hC.1 hC.2.1 dX6_printPart_50 rfl rfl ?_
            refine iald_k hC (hKN.go hAL hS) hP 1 rfl (n := 124) (f := (v_43 0)) d5 (rfl) (by omega) (by decide) dX6_printPart_51 ?_
            refine lv_iload hC.1 hC.2.1 dX6_printPart_52 (lv_at hl 5 rfl) ?_
            refine lv_iadd hC.1 hC.2.1 dX6_printPart_54 ?_
            refine lv_topi (fun w_3 ew_3 => ?_)
            refine iast_k hC (hKN.go hAL hS) hP (mdD_D hq v_43 hs) hS 1 rfl (n := 124) (f := (v_43 0)) d5 (rfl) (by omega) (by decide) dX6_printPart_55 (fun H locs hq_4 hS => ?_)
            have hP : PW G (mdW G q (mkM (upd (v_43 0) d5 w_3) (v_43 1) (v_43 2) (v_43 3) (v_43 4) (v_43 5) (v_43 6) (v_43 7) (v_43 8 0) (v_43 8 1) (v_43 8 2) (v_43 8 3) (v_43 8 4) (v_43 8 5) (v_43 8 6) (v_43 8 7) (v_43 8 8)) hs) H := hq_4
            have hI : SI ((mkM (upd (v_43 0) d5 w_3) (v_43 1) (v_43 2) (v_43 3) (v_43 4) (v_43 5) (v_43 6) (v_43 7) (v_43 8 0) (v_43 8 1) (v_43 8 2) (v_43 8 3) (v_43 8 4) (v_43 8 5) (v_43 8 6) (v_43 8 7) (v_43 8 8)) 0) := (SI_upd hI (Or.inl (by omega)))
            refine lv_aload_n hC.1 hC.2.1 dX6_printPart_56 rfl (lv_at hl 1 rfl) ?_
            refine lv_aload_n hC.1 hC.2.1 dX6_printPart_57 rfl (lv_at hl 1 rfl) ?_
            refine gf (v := .ref (q 1)) hC fwX6 (hKN.go hAL hS) hP 0 rfl rfl 0 (by decide) rfl wd_887 rfl dX6_printPart_58 ?_
            refine lv_iload hC.1 hC.2.1 dX6_printPart_61 (lv_at hl 4 rfl) ?_
            refine iald_k hC (hKN.go hAL hS) hP 1 rfl (n := 124) (f := (upd (v_43 0) d5 w_3)) d5 (rfl) (by omega) (by decide) dX6_printPart_63 ?_
            refine lv_aload_n hC.1 hC.2.1 dX6_printPart_64 rfl (lv_at hl 1 rfl) ?_
            refine gf (v := .int (v_43 8 5)) hC fwX6 (hKN.go hAL hS) hP 0 rfl rfl 9 (by decide) rfl wd_896 rfl dX6_printPart_65 ?_
            have J85 : ∀ (y3_85 : Int32) (z1_85 : Int32) (v_85 : SV), fX6_printPart v x1 x2 = (tX6_printPart_5 v x1 x2 (lpF n5 (d5 + 1) (bX6_printPart_5 v x1 x2) (tX6_printPart_J85 v x1 x2 d5 y3_85 z1_85 v_85))) → SI (v_85 0) → ∀ (H : Heap) (locs : List Loc), PW G (mdW G q v_85 hs) H → va_S (mdA q) s.heap H locs → ∀ (ls : Array Slot), lv_has ls 7 [(0, .ref (q 0)), (1, .int x1), (2, .int x2), (3, .int y3_85), (4, .int (nI d5))] → W p l e ({ frames := 4, cells := 0, slots := 0, locals := 90 }) s m ([.ref (q 0), .int x1, .int x2] : List Value).toArray below meth c H locs 0 0 (MQ below (QE (some (.int (fX6_printPart v x1 x2).2)) (fun H => PW G (mdW G q (fX6_printPart v x1 x2).1 hs) H) (mdA q)) ([.ref (q 0), .int x1, .int x2] : List Value).toArray s 0 0 (mdA q)) (F0 m 85 ls [.int z1_85, .ref (q 0)]) := by
              intro y3_85 z1_85 v_85 hg hI H locs hP hS ls hl
              refine pf (v := .int z1_85) (tv := .int) hC fwX6 (hKN.go hAL hS) hP (mdD_D hq v_85 hs) hS 0 rfl rfl 9 (by decide) rfl wd_896 rfl rfl rfl (Nat.le_of_ble_eq_true rfl) dX6_printPart_85 (fun H locs hq_5 hS => ?_)
              have hP : PW G (mdW G q (mkM (v_85 0) (v_85 1) (v_85 2) (v_85 3) (v_85 4) (v_85 5) (v_85 6) (v_85 7) (v_85 8 0) (v_85 8 1) (v_85 8 2) (v_85 8 3) (v_85 8 4) z1_85 (v_85 8 6) (v_85 8 7) (v_85 8 8)) hs) H := hq_5
              have hI : SI ((mkM (v_85 0) (v_85 1) (v_85 2) (v_85 3) (v_85 4) (v_85 5) (v_85 6) (v_85 7) (v_85 8 0) (v_85 8 1) (v_85 8 2) (v_85 8 3) (v_85 8 4) z1_85 (v_85 8 6) (v_85 8 7) (v_85 8 8)) 0) := hI
              refine lv_aload_n hC.1 hC.2.1 dX6_printPart_88 rfl (lv_at hl 0 rfl) ?_
              refine gf (v := .ref (q 1)) hC fwX6 (hKN.go hAL hS) hP 0 rfl rfl 0 (by decide) rfl wd_887 rfl dX6_printPart_89 ?_
              refine lv_iload hC.1 hC.2.1 dX6_printPart_92 (lv_at hl 4 rfl) ?_
              refine iald_k hC (hKN.go hAL hS) hP 1 rfl (n := 124) (f := (v_85 0)) d5 (rfl) (by omega) (by decide) dX6_printPart_94 ?_
              refine lv_aload_n hC.1 hC.2.1 dX6_printPart_95 rfl (lv_at hl 0 rfl) ?_
              refine runP (rV (B := fun U H => PW G (mdW G q (mkM (v_85 0) (v_85 1) (v_85 2) (v_85 3) (v_85 4) (v_85 5) (v_85 6) (v_85 7) (v_85 8 0) (v_85 8 1) (v_85 8 2) (v_85 8 3) (v_85 8 4) z1_85 (v_85 8 6) (v_85 8 7) (v_85 8 8)) hs) H) (As := []) (rest := [.int ((v_85 0) d5)]) hC mwX6_darkHeat (c_X6_darkHeat l G q (mkM (v_85 0) (v_85 1) (v_85 2) (v_85 3) (v_85 4) (v_85 5) (v_85 6) (v_85 7) (v_85 8 0) (v_85 8 1) (v_85 8 2) (v_85 8 3) (v_85 8 4) z1_85 (v_85 8 6) (v_85 8 7) (v_85 8 8)) hs) iwX6_darkHeat wd_1023 ⟨rfl, rfl⟩ ⟨Nat.le_of_ble_eq_true rfl, Nat.le_of_ble_eq_true rfl⟩ (stb_h (fun H => PW G (mdW G q (mkM (v_85 0) (v_85 1) (v_85 2) (v_85 3) (v_85 4) (v_85 5) (v_85 6) (v_85 7) (v_85 8 0) (v_85 8 1) (v_85 8 2) (v_85 8 3) (v_85 8 4) z1_85 (v_85 8 6) (v_85 8 7) (v_85 8 8)) hs) H)) (hKN.go hAL hS) hP (va_recv (hKN.go hAL hS).k hP (ci := 6) (q0 := 0) rfl rfl) rfl hl.1 rfl (Nat.le_of_ble_eq_true rfl) dX6_printPart_96 ⟨Nat.zero_le _, Nat.zero_le _⟩) ?_
              have J107 : ∀ (y3_107 : Int32) (z0_107 : Int32) (v_107 : SV), fX6_printPart v x1 x2 = (tX6_printPart_5 v x1 x2 (lpF n5 (d5 + 1) (bX6_printPart_5 v x1 x2) (tX6_printPart_J107 v x1 x2 d5 y3_107 z0_107 v_107))) → SI (v_107 0) → ∀ (H : Heap) (locs : List Loc), PW G (mdW G q v_107 hs) H → va_S (mdA q) s.heap H locs → ∀ (ls : Array Slot), lv_has ls 7 [(0, .ref (q 0)), (1, .int x1), (2, .int x2), (3, .int y3_107), (4, .int (nI d5))] → W p l e ({ frames := 4, cells := 0, slots := 0, locals := 90 }) s m ([.ref (q 0), .int x1, .int x2] : List Value).toArray below meth c H locs 0 0 (MQ below (QE (some (.int (fX6_printPart v x1 x2).2)) (fun H => PW G (mdW G q (fX6_printPart v x1 x2).1 hs) H) (mdA q)) ([.ref (q 0), .int x1, .int x2] : List Value).toArray s 0 0 (mdA q)) (F0 m 107 ls [.int z0_107]) := by
                intro y3_107 z0_107 v_107 hg hI H locs hP hS ls hl
                refine lv_istore (lv' := [(6, .int z0_107), (0, .ref (q 0)), (1, .int x1), (2, .int x2), (3, .int y3_107), (4, .int (nI d5))]) hC.1 hC.2.1 dX6_printPart_107 hl (by decide) rfl (fun ls hl => ?_)
                refine lv_aload_n hC.1 hC.2.1 dX6_printPart_109 rfl (lv_at hl 1 rfl) ?_
                refine lv_dup hC.1 hC.2.1 dX6_printPart_110 rfl ?_
                refine gf (v := .int (v_107 8 4)) hC fwX6 (hKN.go hAL hS) hP 0 rfl rfl 8 (by decide) rfl wd_895 rfl dX6_printPart_111 ?_
                refine lv_iload hC.1 hC.2.1 dX6_printPart_114 (lv_at hl 0 rfl) ?_
                have J127 : ∀ (y3_127 : Int32) (y6_127 : Int32) (z1_127 : Int32) (z2_127 : Int32) (v_127 : SV), fX6_printPart v x1 x2 = (tX6_printPart_5 v x1 x2 (lpF n5 (d5 + 1) (bX6_printPart_5 v x1 x2) (tX6_printPart_J127 v x1 x2 d5 y3_127 y6_127 z1_127 z2_127 v_127))) → SI (v_127 0) → ∀ (H : Heap) (locs : List Loc), PW G (mdW G q v_127 hs) H → va_S (mdA q) s.heap H locs → ∀ (ls : Array Slot), lv_has ls 7 [(0, .ref (q 0)), (1, .int x1), (2, .int x2), (3, .int y3_127), (4, .int (nI d5)), (6, .int y6_127)] → W p l e ({ frames := 4, cells := 0, slots := 0, locals := 90 }) s m ([.ref (q 0), .int x1, .int x2] : List Value).toArray below meth c H locs 0 0 (MQ below (QE (some (.int (fX6_printPart v x1 x2).2)) (fun H => PW G (mdW G q (fX6_printPart v x1 x2).1 hs) H) (mdA q)) ([.ref (q 0), .int x1, .int x2] : List Value).toArray s 0 0 (mdA q)) (F0 m 127 ls [.int z2_127, .int z1_127, .ref (q 0)]) := by
                  intro y3_127 y6_127 z1_127 z2_127 v_127 hg hI H locs hP hS ls hl
                  refine lv_ior hC.1 hC.2.1 dX6_printPart_127 ?_
                  refine lv_topi (fun w_6 ew_6 => ?_)
                  refine pf (v := .int w_6) (tv := .int) hC fwX6 (hKN.go hAL hS) hP (mdD_D hq v_127 hs) hS 0 rfl rfl 8 (by decide) rfl wd_895 rfl rfl rfl (Nat.le_of_ble_eq_true rfl) dX6_printPart_128 (fun H locs hq_7 hS => ?_)
                  have hP : PW G (mdW G q (mkM (v_127 0) (v_127 1) (v_127 2) (v_127 3) (v_127 4) (v_127 5) (v_127 6) (v_127 7) (v_127 8 0) (v_127 8 1) (v_127 8 2) (v_127 8 3) w_6 (v_127 8 5) (v_127 8 6) (v_127 8 7) (v_127 8 8)) hs) H := hq_7
                  have hI : SI ((mkM (v_127 0) (v_127 1) (v_127 2) (v_127 3) (v_127 4) (v_127 5) (v_127 6) (v_127 7) (v_127 8 0) (v_127 8 1) (v_127 8 2) (v_127 8 3) w_6 (v_127 8 5) (v_127 8 6) (v_127 8 7) (v_127 8 8)) 0) := hI
                  refine lv_aload_n hC.1 hC.2.1 dX6_printPart_131 rfl (lv_at hl 0 rfl) ?_
                  refine gf (v := .ref (q 1)) hC fwX6 (hKN.go hAL hS) hP 0 rfl rfl 0 (by decide) rfl wd_887 rfl dX6_printPart_132 ?_
                  refine lv_bipush (v := 26) hC.1 hC.2.1 dX6_printPart_135 (by decide +kernel) ?_
                  refine lv_iload hC.1 hC.2.1 dX6_printPart_137 (lv_at hl 4 rfl) ?_
                  refine lv_iadd hC.1 hC.2.1 dX6_printPart_139 ?_
                  refine lv_dup2_11 hC.1 hC.2.1 dX6_printPart_140 rfl rfl ?_
                  refine iald_k hC (hKN.go hAL hS) hP 1 rfl (n := 124) (f := (v_127 0)) (26 + d5) (nE_add (rfl) (rfl)) (by omega) (by decide) dX6_printPart_141 ?_
                  refine lv_iconst (v := 1) hC.1 hC.2.1 dX6_printPart_142 (by decide) ?_
                  refine lv_iadd hC.1 hC.2.1 dX6_printPart_143 ?_
                  refine lv_topi (fun w_8 ew_8 => ?_)
                  refine iast_k hC (hKN.go hAL hS) hP (mdD_D hq (mkM (v_127 0) (v_127 1) (v_127 2) (v_127 3) (v_127 4) (v_127 5) (v_127 6) (v_127 7) (v_127 8 0) (v_127 8 1) (v_127 8 2) (v_127 8 3) w_6 (v_127 8 5) (v_127 8 6) (v_127 8 7) (v_127 8 8)) hs) hS 1 rfl (n := 124) (f := (v_127 0)) (26 + d5) (nE_add (rfl) (rfl)) (by omega) (by decide) dX6_printPart_144 (fun H locs hq_9 hS => ?_)
                  have hP : PW G (mdW G q (mkM (upd (v_127 0) (26 + d5) w_8) (v_127 1) (v_127 2) (v_127 3) (v_127 4) (v_127 5) (v_127 6) (v_127 7) (v_127 8 0) (v_127 8 1) (v_127 8 2) (v_127 8 3) w_6 (v_127 8 5) (v_127 8 6) (v_127 8 7) (v_127 8 8)) hs) H := hq_9
                  have hI : SI ((mkM (upd (v_127 0) (26 + d5) w_8) (v_127 1) (v_127 2) (v_127 3) (v_127 4) (v_127 5) (v_127 6) (v_127 7) (v_127 8 0) (v_127 8 1) (v_127 8 2) (v_127 8 3) w_6 (v_127 8 5) (v_127 8 6) (v_127 8 7) (v_127 8 8)) 0) := (SI_upd hI (Or.inl (by omega)))
                  refine lv_aload_n hC.1 hC.2.1 dX6_printPart_145 rfl (lv_at hl 0 rfl) ?_
                  refine gf (v := .ref (q 1)) hC fwX6 (hKN.go hAL hS) hP 0 rfl rfl 0 (by decide) rfl wd_887 rfl dX6_printPart_146 ?_
                  refine lv_bipush (v := 50) hC.1 hC.2.1 dX6_printPart_149 (by decide +kernel) ?_
                  refine lv_iload hC.1 hC.2.1 dX6_printPart_151 (lv_at hl 4 rfl) ?_
                  refine lv_iadd hC.1 hC.2.1 dX6_printPart_153 ?_
                  refine lv_dup2_11 hC.1 hC.2.1 dX6_printPart_154 rfl rfl ?_
                  refine iald_k hC (hKN.go hAL hS) hP 1 rfl (n := 124) (f := (upd (v_127 0) (26 + d5) w_8)) (50 + d5) (nE_add (rfl) (rfl)) (by omega) (by decide) dX6_printPart_155 ?_
                  refine lv_iload hC.1 hC.2.1 dX6_printPart_156 (lv_at hl 5 rfl) ?_
                  refine lv_if_eq (tgt := 165) hC.1 hC.2.1 dX6_printPart_158 (by decide) (fun k158 => ?_) (fun k158 => ?_)
                  · refine lv_iconst (v := 1) hC.1 hC.2.1 dX6_printPart_165 (by decide) ?_
                    refine lv_iadd hC.1 hC.2.1 dX6_printPart_166 ?_
                    refine lv_topi (fun w_10 ew_10 => ?_)
                    refine iast_k hC (hKN.go hAL hS) hP (mdD_D hq (mkM (upd (v_127 0) (26 + d5) w_8) (v_127 1) (v_127 2) (v_127 3) (v_127 4) (v_127 5) (v_127 6) (v_127 7) (v_127 8 0) (v_127 8 1) (v_127 8 2) (v_127 8 3) w_6 (v_127 8 5) (v_127 8 6) (v_127 8 7) (v_127 8 8)) hs) hS 1 rfl (n := 124) (f := (upd (v_127 0) (26 + d5) w_8)) (50 + d5) (nE_add (rfl) (rfl)) (by omega) (by decide) dX6_printPart_167 (fun H locs hq_11 hS => ?_)
                    have hP : PW G (mdW G q (mkM (upd (upd (v_127 0) (26 + d5) w_8) (50 + d5) w_10) (v_127 1) (v_127 2) (v_127 3) (v_127 4) (v_127 5) (v_127 6) (v_127 7) (v_127 8 0) (v_127 8 1) (v_127 8 2) (v_127 8 3) w_6 (v_127 8 5) (v_127 8 6) (v_127 8 7) (v_127 8 8)) hs) H := hq_11
                    have hI : SI ((mkM (upd (upd (v_127 0) (26 + d5) w_8) (50 + d5) w_10) (v_127 1) (v_127 2) (v_127 3) (v_127 4) (v_127 5) (v_127 6) (v_127 7) (v_127 8 0) (v_127 8 1) (v_127 8 2) (v_127 8 3) w_6 (v_127 8 5) (v_127 8 6) (v_127 8 7) (v_127 8 8)) 0) := (SI_upd hI (Or.inl (by omega)))
                    refine lv_iinc (v := nI (d5 + 1)) (lv' := [(4, .int (nI (d5 + 1))), (0, .ref (q 0)), (1, .int x1), (2, .int x2), (3, .int y3_127), (6, .int y6_127)]) hC.1 hC.2.1 dX6_printPart_168 hl (k := 4) rfl (nI_1 _) (by decide) rfl (fun ls hl => ?_)
                    refine lv_goto (tgt := 5) hC.1 hC.2.1 dX6_printPart_171 (by decide) ?_
                    have e_12 : tX6_printPart_J127 v x1 x2 d5 y3_127 y6_127 z1_127 z2_127 v_127 = (y3_127, mkM (upd (upd (v_127 0) (26 + d5) w_8) (50 + d5) w_10) (v_127 1) (v_127 2) (v_127 3) (v_127 4) (v_127 5) (v_127 6) (v_127 7) (v_127 8 0) (v_127 8 1) (v_127 8 2) (v_127 8 3) w_6 (v_127 8 5) (v_127 8 6) (v_127 8 7) (v_127 8 8)) := by subst ew_10; subst ew_8; subst ew_6; exact Eq.trans (if_pos k158) rfl
                    have hg : fX6_printPart v x1 x2 = (tX6_printPart_5 v x1 x2 (lpF n5 (d5 + 1) (bX6_printPart_5 v x1 x2) (y3_127, mkM (upd (upd (v_127 0) (26 + d5) w_8) (50 + d5) w_10) (v_127 1) (v_127 2) (v_127 3) (v_127 4) (v_127 5) (v_127 6) (v_127 7) (v_127 8 0) (v_127 8 1) (v_127 8 2) (v_127 8 3) w_6 (v_127 8 5) (v_127 8 6) (v_127 8 7) (v_127 8 8)))) := hg.trans (congrArg (fun z => (tX6_printPart_5 v x1 x2 (lpF n5 (d5 + 1) (bX6_printPart_5 v x1 x2) z))) e_12)
                    exact ih (d5 + 1) y3_127 (mkM (upd (upd (v_127 0) (26 + d5) w_8) (50 + d5) w_10) (v_127 1) (v_127 2) (v_127 3) (v_127 4) (v_127 5) (v_127 6) (v_127 7) (v_127 8 0) (v_127 8 1) (v_127 8 2) (v_127 8 3) w_6 (v_127 8 5) (v_127 8 6) (v_127 8 7) (v_127 8 8)) (by omega) hg hI _ _ hP hS _ (lv_sub hl [1, 2, 3, 4, 0] rfl)
                  · refine lv_iconst (v := 0) hC.1 hC.2.1 dX6_printPart_161 (by decide) ?_
                    refine lv_goto (tgt := 166) hC.1 hC.2.1 dX6_printPart_162 (by decide) ?_
                    refine lv_iadd hC.1 hC.2.1 dX6_printPart_166 ?_
                    refine lv_topi (fun w_13 ew_13 => ?_)
                    refine iast_k hC (hKN.go hAL hS) hP (mdD_D hq (mkM (upd (v_127 0) (26 + d5) w_8) (v_127 1) (v_127 2) (v_127 3) (v_127 4) (v_127 5) (v_127 6) (v_127 7) (v_127 8 0) (v_127 8 1) (v_127 8 2) (v_127 8 3) w_6 (v_127 8 5) (v_127 8 6) (v_127 8 7) (v_127 8 8)) hs) hS 1 rfl (n := 124) (f := (upd (v_127 0) (26 + d5) w_8)) (50 + d5) (nE_add (rfl) (rfl)) (by omega) (by decide) dX6_printPart_167 (fun H locs hq_14 hS => ?_)
                    have hP : PW G (mdW G q (mkM (upd (upd (v_127 0) (26 + d5) w_8) (50 + d5) w_13) (v_127 1) (v_127 2) (v_127 3) (v_127 4) (v_127 5) (v_127 6) (v_127 7) (v_127 8 0) (v_127 8 1) (v_127 8 2) (v_127 8 3) w_6 (v_127 8 5) (v_127 8 6) (v_127 8 7) (v_127 8 8)) hs) H := hq_14
                    have hI : SI ((mkM (upd (upd (v_127 0) (26 + d5) w_8) (50 + d5) w_13) (v_127 1) (v_127 2) (v_127 3) (v_127 4) (v_127 5) (v_127 6) (v_127 7) (v_127 8 0) (v_127 8 1) (v_127 8 2) (v_127 8 3) w_6 (v_127 8 5) (v_127 8 6) (v_127 8 7) (v_127 8 8)) 0) := (SI_upd hI (Or.inl (by omega)))
                    refine lv_iinc (v := nI (d5 + 1)) (lv' := [(4, .int (nI (d5 + 1))), (0, .ref (q 0)), (1, .int x1), (2, .int x2), (3, .int y3_127), (6, .int y6_127)]) hC.1 hC.2.1 dX6_printPart_168 hl (k := 4) rfl (nI_1 _) (by decide) rfl (fun ls hl => ?_)
                    refine lv_goto (tgt := 5) hC.1 hC.2.1 dX6_printPart_171 (by decide) ?_
                    have e_15 : tX6_printPart_J127 v x1 x2 d5 y3_127 y6_127 z1_127 z2_127 v_127 = (y3_127, mkM (upd (upd (v_127 0) (26 + d5) w_8) (50 + d5) w_13) (v_127 1) (v_127 2) (v_127 3) (v_127 4) (v_127 5) (v_127 6) (v_127 7) (v_127 8 0) (v_127 8 1) (v_127 8 2) (v_127 8 3) w_6 (v_127 8 5) (v_127 8 6) (v_127 8 7) (v_127 8 8)) := by subst ew_13; subst ew_8; subst ew_6; exact Eq.trans (if_neg k158) rfl
                    have hg : fX6_printPart v x1 x2 = (tX6_printPart_5 v x1 x2 (lpF n5 (d5 + 1) (bX6_printPart_5 v x1 x2) (y3_127, mkM (upd (upd (v_127 0) (26 + d5) w_8) (50 + d5) w_13) (v_127 1) (v_127 2) (v_127 3) (v_127 4) (v_127 5) (v_127 6) (v_127 7) (v_127 8 0) (v_127 8 1) (v_127 8 2) (v_127 8 3) w_6 (v_127 8 5) (v_127 8 6) (v_127 8 7) (v_127 8 8)))) := hg.trans (congrArg (fun z => (tX6_printPart_5 v x1 x2 (lpF n5 (d5 + 1) (bX6_printPart_5 v x1 x2) z))) e_15)
                    exact ih (d5 + 1) y3_127 (mkM (upd (upd (v_127 0) (26 + d5) w_8) (50 + d5) w_13) (v_127 1) (v_127 2) (v_127 3) (v_127 4) (v_127 5) (v_127 6) (v_127 7) (v_127 8 0) (v_127 8 1) (v_127 8 2) (v_127 8 3) w_6 (v_127 8 5) (v_127 8 6) (v_127 8 7) (v_127 8 8)) (by omega) hg hI _ _ hP hS _ (lv_sub hl [1, 2, 3, 4, 0] rfl)
                refine lv_if_eq (tgt := 126) hC.1 hC.2.1 dX6_printPart_116 (by decide) (fun k116 => ?_) (fun k116 => ?_)
                · refine lv_iconst (v := 0) hC.1 hC.2.1 dX6_printPart_126 (by decide) ?_
                  have e_16 : tX6_printPart_J107 v x1 x2 d5 y3_107 z0_107 v_107 = tX6_printPart_J127 v x1 x2 d5 y3_107 z0_107 (v_107 8 4) 0 v_107 := by exact Eq.trans (if_pos k116) rfl
                  have hg : fX6_printPart v x1 x2 = (tX6_printPart_5 v x1 x2 (lpF n5 (d5 + 1) (bX6_printPart_5 v x1 x2) (tX6_printPart_J127 v x1 x2 d5 y3_107 z0_107 (v_107 8 4) 0 v_107))) := hg.trans (congrArg (fun z => (tX6_printPart_5 v x1 x2 (lpF n5 (d5 + 1) (bX6_printPart_5 v x1 x2) z))) e_16)
                  exact J127 y3_107 z0_107 (v_107 8 4) 0 v_107 hg hI _ _ hP hS _ (lv_sub hl [1, 2, 3, 4, 5, 0] rfl)
                · refine lv_iconst (v := 1) hC.1 hC.2.1 dX6_printPart_119 (by decide) ?_
                  refine lv_iload hC.1 hC.2.1 dX6_printPart_120 (lv_at hl 5 rfl) ?_
                  refine lv_ishl hC.1 hC.2.1 dX6_printPart_122 ?_
                  refine lv_goto (tgt := 127) hC.1 hC.2.1 dX6_printPart_123 (by decide) ?_
                  have e_17 : tX6_printPart_J107 v x1 x2 d5 y3_107 z0_107 v_107 = tX6_printPart_J127 v x1 x2 d5 y3_107 z0_107 (v_107 8 4) (1 <<< ((nI d5) &&& 31)) v_107 := by exact Eq.trans (if_neg k116) rfl
                  have hg : fX6_printPart v x1 x2 = (tX6_printPart_5 v x1 x2 (lpF n5 (d5 + 1) (bX6_printPart_5 v x1 x2) (tX6_printPart_J127 v x1 x2 d5 y3_107 z0_107 (v_107 8 4) (1 <<< ((nI d5) &&& 31)) v_107))) := hg.trans (congrArg (fun z => (tX6_printPart_5 v x1 x2 (lpF n5 (d5 + 1) (bX6_printPart_5 v x1 x2) z))) e_17)
                  exact J127 y3_107 z0_107 (v_107 8 4) (1 <<< ((nI d5) &&& 31)) v_107 hg hI _ _ hP hS _ (lv_sub hl [1, 2, 3, 4, 5, 0] rfl)
              refine lv_icmp_lt (tgt := 106) hC.1 hC.2.1 dX6_printPart_99 (by decide) (fun k99 => ?_) (fun k99 => ?_)
              · refine lv_iconst (v := 0) hC.1 hC.2.1 dX6_printPart_106 (by decide) ?_
                have e_18 : tX6_printPart_J85 v x1 x2 d5 y3_85 z1_85 v_85 = tX6_printPart_J107 v x1 x2 d5 y3_85 0 (mkM (v_85 0) (v_85 1) (v_85 2) (v_85 3) (v_85 4) (v_85 5) (v_85 6) (v_85 7) (v_85 8 0) (v_85 8 1) (v_85 8 2) (v_85 8 3) (v_85 8 4) z1_85 (v_85 8 6) (v_85 8 7) (v_85 8 8)) := by exact Eq.trans (if_pos k99) rfl
                have hg : fX6_printPart v x1 x2 = (tX6_printPart_5 v x1 x2 (lpF n5 (d5 + 1) (bX6_printPart_5 v x1 x2) (tX6_printPart_J107 v x1 x2 d5 y3_85 0 (mkM (v_85 0) (v_85 1) (v_85 2) (v_85 3) (v_85 4) (v_85 5) (v_85 6) (v_85 7) (v_85 8 0) (v_85 8 1) (v_85 8 2) (v_85 8 3) (v_85 8 4) z1_85 (v_85 8 6) (v_85 8 7) (v_85 8 8))))) := hg.trans (congrArg (fun z => (tX6_printPart_5 v x1 x2 (lpF n5 (d5 + 1) (bX6_printPart_5 v x1 x2) z))) e_18)
                exact J107 y3_85 0 (mkM (v_85 0) (v_85 1) (v_85 2) (v_85 3) (v_85 4) (v_85 5) (v_85 6) (v_85 7) (v_85 8 0) (v_85 8 1) (v_85 8 2) (v_85 8 3) (v_85 8 4) z1_85 (v_85 8 6) (v_85 8 7) (v_85 8 8)) hg hI _ _ hP hS _ (lv_sub hl [0, 1, 2, 3, 4] rfl)
              · refine lv_iconst (v := 1) hC.1 hC.2.1 dX6_printPart_102 (by decide) ?_
                refine lv_goto (tgt := 107) hC.1 hC.2.1 dX6_printPart_103 (by decide) ?_
                have e_19 : tX6_printPart_J85 v x1 x2 d5 y3_85 z1_85 v_85 = tX6_printPart_J107 v x1 x2 d5 y3_85 1 (mkM (v_85 0) (v_85 1) (v_85 2) (v_85 3) (v_85 4) (v_85 5) (v_85 6) (v_85 7) (v_85 8 0) (v_85 8 1) (v_85 8 2) (v_85 8 3) (v_85 8 4) z1_85 (v_85 8 6) (v_85 8 7) (v_85 8 8)) := by exact Eq.trans (if_neg k99) rfl
                have hg : fX6_printPart v x1 x2 = (tX6_printPart_5 v x1 x2 (lpF n5 (d5 + 1) (bX6_printPart_5 v x1 x2) (tX6_printPart_J107 v x1 x2 d5 y3_85 1 (mkM (v_85 0) (v_85 1) (v_85 2) (v_85 3) (v_85 4) (v_85 5) (v_85 6) (v_85 7) (v_85 8 0) (v_85 8 1) (v_85 8 2) (v_85 8 3) (v_85 8 4) z1_85 (v_85 8 6) (v_85 8 7) (v_85 8 8))))) := hg.trans (congrArg (fun z => (tX6_printPart_5 v x1 x2 (lpF n5 (d5 + 1) (bX6_printPart_5 v x1 x2) z))) e_19)
                exact J107 y3_85 1 (mkM (v_85 0) (v_85 1) (v_85 2) (v_85 3) (v_85 4) (v_85 5) (v_85 6) (v_85 7) (v_85 8 0) (v_85 8 1) (v_85 8 2) (v_85 8 3) (v_85 8 4) z1_85 (v_85 8 6) (v_85 8 7) (v_85 8 8)) hg hI _ _ hP hS _ (lv_sub hl [0, 1, 2, 3, 4] rfl)
            refine lv_icmp_le (tgt := 81) hC.1 hC.2.1 dX6_printPart_68 (by decide) (fun k68 => ?_) (fun k68 => ?_)
            · refine lv_aload_n hC.1 hC.2.1 dX6_printPart_81 rfl (lv_at hl 1 rfl) ?_
              refine gf (v := .int (v_43 8 5)) hC fwX6 (hKN.go hAL hS) hP 0 rfl rfl 9 (by decide) rfl wd_896 rfl dX6_printPart_82 ?_
              have e_20 : tX6_printPart_J43 v x1 x2 d5 y5_43 z0_43 v_43 = tX6_printPart_J85 v x1 x2 d5 z0_43 (v_43 8 5) (mkM (upd (v_43 0) d5 w_3) (v_43 1) (v_43 2) (v_43 3) (v_43 4) (v_43 5) (v_43 6) (v_43 7) (v_43 8 0) (v_43 8 1) (v_43 8 2) (v_43 8 3) (v_43 8 4) (v_43 8 5) (v_43 8 6) (v_43 8 7) (v_43 8 8)) := by subst ew_3; exact Eq.trans (if_pos k68) rfl
              have hg : fX6_printPart v x1 x2 = (tX6_printPart_5 v x1 x2 (lpF n5 (d5 + 1) (bX6_printPart_5 v x1 x2) (tX6_printPart_J85 v x1 x2 d5 z0_43 (v_43 8 5) (mkM (upd (v_43 0) d5 w_3) (v_43 1) (v_43 2) (v_43 3) (v_43 4) (v_43 5) (v_43 6) (v_43 7) (v_43 8 0) (v_43 8 1) (v_43 8 2) (v_43 8 3) (v_43 8 4) (v_43 8 5) (v_43 8 6) (v_43 8 7) (v_43 8 8))))) := hg.trans (congrArg (fun z => (tX6_printPart_5 v x1 x2 (lpF n5 (d5 + 1) (bX6_printPart_5 v x1 x2) z))) e_20)
              exact J85 z0_43 (v_43 8 5) (mkM (upd (v_43 0) d5 w_3) (v_43 1) (v_43 2) (v_43 3) (v_43 4) (v_43 5) (v_43 6) (v_43 7) (v_43 8 0) (v_43 8 1) (v_43 8 2) (v_43 8 3) (v_43 8 4) (v_43 8 5) (v_43 8 6) (v_43 8 7) (v_43 8 8)) hg hI _ _ hP hS _ (lv_sub hl [1, 2, 3, 0, 4] rfl)
            · refine lv_aload_n hC.1 hC.2.1 dX6_printPart_71 rfl (lv_at hl 1 rfl) ?_
              refine gf (v := .ref (q 1)) hC fwX6 (hKN.go hAL hS) hP 0 rfl rfl 0 (by decide) rfl wd_887 rfl dX6_printPart_72 ?_
              refine lv_iload hC.1 hC.2.1 dX6_printPart_75 (lv_at hl 4 rfl) ?_
              refine iald_k hC (hKN.go hAL hS) hP 1 rfl (n := 124) (f := (upd (v_43 0) d5 w_3)) d5 (rfl) (by omega) (by decide) dX6_printPart_77 ?_
              refine lv_goto (tgt := 85) hC.1 hC.2.1 dX6_printPart_78 (by decide) ?_
              have e_21 : tX6_printPart_J43 v x1 x2 d5 y5_43 z0_43 v_43 = tX6_printPart_J85 v x1 x2 d5 z0_43 ((upd (v_43 0) d5 w_3) d5) (mkM (upd (v_43 0) d5 w_3) (v_43 1) (v_43 2) (v_43 3) (v_43 4) (v_43 5) (v_43 6) (v_43 7) (v_43 8 0) (v_43 8 1) (v_43 8 2) (v_43 8 3) (v_43 8 4) (v_43 8 5) (v_43 8 6) (v_43 8 7) (v_43 8 8)) := by subst ew_3; exact Eq.trans (if_neg k68) rfl
              have hg : fX6_printPart v x1 x2 = (tX6_printPart_5 v x1 x2 (lpF n5 (d5 + 1) (bX6_printPart_5 v x1 x2) (tX6_printPart_J85 v x1 x2 d5 z0_43 ((upd (v_43 0) d5 w_3) d5) (mkM (upd (v_43 0) d5 w_3) (v_43 1) (v_43 2) (v_43 3) (v_43 4) (v_43 5) (v_43 6) (v_43 7) (v_43 8 0) (v_43 8 1) (v_43 8 2) (v_43 8 3) (v_43 8 4) (v_43 8 5) (v_43 8 6) (v_43 8 7) (v_43 8 8))))) := hg.trans (congrArg (fun z => (tX6_printPart_5 v x1 x2 (lpF n5 (d5 + 1) (bX6_printPart_5 v x1 x2) z))) e_21)
              exact J85 z0_43 ((upd (v_43 0) d5 w_3) d5) (mkM (upd (v_43 0) d5 w_3) (v_43 1) (v_43 2) (v_43 3) (v_43 4) (v_43 5) (v_43 6) (v_43 7) (v_43 8 0) (v_43 8 1) (v_43 8 2) (v_43 8 3) (v_43 8 4) (v_43 8 5) (v_43 8 6) (v_43 8 7) (v_43 8 8)) hg hI _ _ hP hS _ (lv_sub hl [1, 2, 3, 0, 4] rfl)
          refine lv_icmp_le (tgt := 42) hC.1 hC.2.1 dX6_printPart_34 (by decide) (fun k34 => ?_) (fun k34 => ?_)
          · refine lv_iload_n hC.1 hC.2.1 dX6_printPart_42 rfl (lv_at hl 4 rfl) ?_
            have e_22 : bX6_printPart_5 v x1 x2 d5 (y3_5, v_5) = tX6_printPart_J43 v x1 x2 d5 (fX6_pulse v_5 x1 (nI d5)) y3_5 v_5 := by exact Eq.trans (if_pos k19) (Eq.trans (if_pos k34) rfl)
            have hg : fX6_printPart v x1 x2 = (tX6_printPart_5 v x1 x2 (lpF n5 (d5 + 1) (bX6_printPart_5 v x1 x2) (tX6_printPart_J43 v x1 x2 d5 (fX6_pulse v_5 x1 (nI d5)) y3_5 v_5))) := hg.trans (congrArg (fun z => (tX6_printPart_5 v x1 x2 (lpF n5 (d5 + 1) (bX6_printPart_5 v x1 x2) z))) e_22)
            exact J43 (fX6_pulse v_5 x1 (nI d5)) y3_5 v_5 hg hI _ _ hP hS _ (lv_sub hl [1, 2, 3, 5, 0] rfl)
          · refine lv_iload hC.1 hC.2.1 dX6_printPart_37 (lv_at hl 0 rfl) ?_
            refine lv_goto (tgt := 43) hC.1 hC.2.1 dX6_printPart_39 (by decide) ?_
            have e_23 : bX6_printPart_5 v x1 x2 d5 (y3_5, v_5) = tX6_printPart_J43 v x1 x2 d5 (fX6_pulse v_5 x1 (nI d5)) (fX6_pulse v_5 x1 (nI d5)) v_5 := by exact Eq.trans (if_pos k19) (Eq.trans (if_neg k34) rfl)
            have hg : fX6_printPart v x1 x2 = (tX6_printPart_5 v x1 x2 (lpF n5 (d5 + 1) (bX6_printPart_5 v x1 x2) (tX6_printPart_J43 v x1 x2 d5 (fX6_pulse v_5 x1 (nI d5)) (fX6_pulse v_5 x1 (nI d5)) v_5))) := hg.trans (congrArg (fun z => (tX6_printPart_5 v x1 x2 (lpF n5 (d5 + 1) (bX6_printPart_5 v x1 x2) z))) e_23)
            exact J43 (fX6_pulse v_5 x1 (nI d5)) (fX6_pulse v_5 x1 (nI d5)) v_5 hg hI _ _ hP hS _ (lv_sub hl [1, 2, 3, 5, 0] rfl)
  have e_24 : fX6_printPart v x1 x2 = tX6_printPart_5 v x1 x2 (lpF 24 0 (bX6_printPart_5 v x1 x2) (0, v)) := by exact rfl
  have hg : fX6_printPart v x1 x2 = (tX6_printPart_5 v x1 x2 (lpF 24 0 (bX6_printPart_5 v x1 x2) (0, v))) := hg.trans (congrArg (fun z => z) e_24)
  exact L5  24 0 0 v (by omega) hg hI _ _ hP hS _ (lv_sub hl [2, 3, 4, 1, 0] rfl)

theorem dX6_keepLine_0 : decode cX6_keepLine 0 = .ok (.bipush 35, 2) := by decide +kernel
theorem dX6_keepLine_2 : decode cX6_keepLine 2 = .ok (.istore_n 3, 1) := by decide +kernel
theorem dX6_keepLine_3 : decode cX6_keepLine 3 = .ok (.iload_n 3, 1) := by decide +kernel
theorem dX6_keepLine_4 : decode cX6_keepLine 4 = .ok (.iconst 2, 1) := by decide +kernel
theorem dX6_keepLine_5 : decode cX6_keepLine 5 = .ok (.if_icmp .le 29, 3) := by decide +kernel
theorem dX6_keepLine_8 : decode cX6_keepLine 8 = .ok (.aload_n 0, 1) := by decide +kernel
theorem dX6_keepLine_9 : decode cX6_keepLine 9 = .ok (.getfield 7, 3) := by decide +kernel
theorem dX6_keepLine_12 : decode cX6_keepLine 12 = .ok (.bipush 88, 2) := by decide +kernel
theorem dX6_keepLine_14 : decode cX6_keepLine 14 = .ok (.iload_n 3, 1) := by decide +kernel
theorem dX6_keepLine_15 : decode cX6_keepLine 15 = .ok (.iadd, 1) := by decide +kernel
theorem dX6_keepLine_16 : decode cX6_keepLine 16 = .ok (.aload_n 0, 1) := by decide +kernel
theorem dX6_keepLine_17 : decode cX6_keepLine 17 = .ok (.getfield 7, 3) := by decide +kernel
theorem dX6_keepLine_20 : decode cX6_keepLine 20 = .ok (.bipush 88, 2) := by decide +kernel
theorem dX6_keepLine_22 : decode cX6_keepLine 22 = .ok (.iload_n 3, 1) := by decide +kernel
theorem dX6_keepLine_23 : decode cX6_keepLine 23 = .ok (.iadd, 1) := by decide +kernel
theorem dX6_keepLine_24 : decode cX6_keepLine 24 = .ok (.iconst 3, 1) := by decide +kernel
theorem dX6_keepLine_25 : decode cX6_keepLine 25 = .ok (.isub, 1) := by decide +kernel
theorem dX6_keepLine_26 : decode cX6_keepLine 26 = .ok (.iaload, 1) := by decide +kernel
theorem dX6_keepLine_27 : decode cX6_keepLine 27 = .ok (.iastore, 1) := by decide +kernel
theorem dX6_keepLine_28 : decode cX6_keepLine 28 = .ok (.iinc 3 (-1), 3) := by decide +kernel
theorem dX6_keepLine_31 : decode cX6_keepLine 31 = .ok (.goto (-28), 3) := by decide +kernel
theorem dX6_keepLine_34 : decode cX6_keepLine 34 = .ok (.aload_n 0, 1) := by decide +kernel
theorem dX6_keepLine_35 : decode cX6_keepLine 35 = .ok (.getfield 7, 3) := by decide +kernel
theorem dX6_keepLine_38 : decode cX6_keepLine 38 = .ok (.bipush 88, 2) := by decide +kernel
theorem dX6_keepLine_40 : decode cX6_keepLine 40 = .ok (.aload_n 0, 1) := by decide +kernel
theorem dX6_keepLine_41 : decode cX6_keepLine 41 = .ok (.getfield 87, 3) := by decide +kernel
theorem dX6_keepLine_44 : decode cX6_keepLine 44 = .ok (.iastore, 1) := by decide +kernel
theorem dX6_keepLine_45 : decode cX6_keepLine 45 = .ok (.aload_n 0, 1) := by decide +kernel
theorem dX6_keepLine_46 : decode cX6_keepLine 46 = .ok (.getfield 7, 3) := by decide +kernel
theorem dX6_keepLine_49 : decode cX6_keepLine 49 = .ok (.bipush 89, 2) := by decide +kernel
theorem dX6_keepLine_51 : decode cX6_keepLine 51 = .ok (.iload_n 1, 1) := by decide +kernel
theorem dX6_keepLine_52 : decode cX6_keepLine 52 = .ok (.aload_n 0, 1) := by decide +kernel
theorem dX6_keepLine_53 : decode cX6_keepLine 53 = .ok (.getfield 87, 3) := by decide +kernel
theorem dX6_keepLine_56 : decode cX6_keepLine 56 = .ok (.iconst (-1), 1) := by decide +kernel
theorem dX6_keepLine_57 : decode cX6_keepLine 57 = .ok (.ixor, 1) := by decide +kernel
theorem dX6_keepLine_58 : decode cX6_keepLine 58 = .ok (.iand, 1) := by decide +kernel
theorem dX6_keepLine_59 : decode cX6_keepLine 59 = .ok (.iastore, 1) := by decide +kernel
theorem dX6_keepLine_60 : decode cX6_keepLine 60 = .ok (.aload_n 0, 1) := by decide +kernel
theorem dX6_keepLine_61 : decode cX6_keepLine 61 = .ok (.getfield 7, 3) := by decide +kernel
theorem dX6_keepLine_64 : decode cX6_keepLine 64 = .ok (.bipush 90, 2) := by decide +kernel
theorem dX6_keepLine_66 : decode cX6_keepLine 66 = .ok (.iload_n 2, 1) := by decide +kernel
theorem dX6_keepLine_67 : decode cX6_keepLine 67 = .ok (.iastore, 1) := by decide +kernel
theorem dX6_keepLine_68 : decode cX6_keepLine 68 = .ok (.aload_n 0, 1) := by decide +kernel
theorem dX6_keepLine_69 : decode cX6_keepLine 69 = .ok (.getfield 7, 3) := by decide +kernel
theorem dX6_keepLine_72 : decode cX6_keepLine 72 = .ok (.bipush 87, 2) := by decide +kernel
theorem dX6_keepLine_74 : decode cX6_keepLine 74 = .ok (.aload_n 0, 1) := by decide +kernel
theorem dX6_keepLine_75 : decode cX6_keepLine 75 = .ok (.getfield 7, 3) := by decide +kernel
theorem dX6_keepLine_78 : decode cX6_keepLine 78 = .ok (.bipush 87, 2) := by decide +kernel
theorem dX6_keepLine_80 : decode cX6_keepLine 80 = .ok (.iaload, 1) := by decide +kernel
theorem dX6_keepLine_81 : decode cX6_keepLine 81 = .ok (.bipush 12, 2) := by decide +kernel
theorem dX6_keepLine_83 : decode cX6_keepLine 83 = .ok (.if_icmp .ge 15, 3) := by decide +kernel
theorem dX6_keepLine_86 : decode cX6_keepLine 86 = .ok (.aload_n 0, 1) := by decide +kernel
theorem dX6_keepLine_87 : decode cX6_keepLine 87 = .ok (.getfield 7, 3) := by decide +kernel
theorem dX6_keepLine_90 : decode cX6_keepLine 90 = .ok (.bipush 87, 2) := by decide +kernel
theorem dX6_keepLine_92 : decode cX6_keepLine 92 = .ok (.iaload, 1) := by decide +kernel
theorem dX6_keepLine_93 : decode cX6_keepLine 93 = .ok (.iconst 1, 1) := by decide +kernel
theorem dX6_keepLine_94 : decode cX6_keepLine 94 = .ok (.iadd, 1) := by decide +kernel
theorem dX6_keepLine_95 : decode cX6_keepLine 95 = .ok (.goto 5, 3) := by decide +kernel
theorem dX6_keepLine_98 : decode cX6_keepLine 98 = .ok (.bipush 12, 2) := by decide +kernel
theorem dX6_keepLine_100 : decode cX6_keepLine 100 = .ok (.iastore, 1) := by decide +kernel
theorem dX6_keepLine_101 : decode cX6_keepLine 101 = .ok (.return_, 1) := by decide +kernel
set_option maxHeartbeats 1000000 in
set_option maxRecDepth 100000 in
theorem c_X6_keepLine (l : Launch) (G : GT) (q : Nat → Nat) (v : SV) (hs : Int64) (x1 : Int32) (x2 : Int32) (hq : mdD G q) (hI : SI (v 0)) : Met l yX6_keepLine (Cond.code yX6_keepLine cX6_keepLine 4 none :: bigW) ({ frames := 0, cells := 0, slots := 0, locals := 0 }) (BP G [.ref (q 0), .int x1, .int x2] (fun U H => PW G (mdW G q v hs) H)) (QE (none) (fun H => PW G (mdW G q (fX6_keepLine v x1 x2) hs) H) (mdA q)) 0 0 (mdA q) := by
  refine met_of (by decide) (Nat.le_of_ble_eq_true rfl) ?_
  intro p e s m below meth c ls hC hKN hB0 hl
  have hP := hB0
  have hl : lv_has ls 4 [(0, .ref (q 0)), (1, .int x1), (2, .int x2)] := hl
  have hS : va_S (mdA q) s.heap s.heap [] := va_S.rf
  have hAL : ∀ a, (mdA q) a → gL G ≤ a := mdD_low hq
  have hg : fX6_keepLine v x1 x2 = fX6_keepLine v x1 x2 := rfl
  refine lv_bipush (v := 35) hC.1 hC.2.1 dX6_keepLine_0 (by decide +kernel) ?_
  refine lv_istore_n (lv' := [(3, .int 35), (0, .ref (q 0)), (1, .int x1), (2, .int x2)]) hC.1 hC.2.1 dX6_keepLine_2 rfl hl (by decide) rfl (fun ls hl => ?_)
  have A3 : ∀ (v_3 : SV), fX6_keepLine v x1 x2 = (tX6_keepLine_3 v x1 x2 v_3) → SI (v_3 0) → ∀ (H : Heap) (locs : List Loc), PW G (mdW G q v_3 hs) H → va_S (mdA q) s.heap H locs → ∀ (ls : Array Slot), lv_has ls 4 [(0, .ref (q 0)), (1, .int x1), (2, .int x2)] → W p l e ({ frames := 0, cells := 0, slots := 0, locals := 0 }) s m ([.ref (q 0), .int x1, .int x2] : List Value).toArray below meth c H locs 0 0 (MQ below (QE (none) (fun H => PW G (mdW G q (fX6_keepLine v x1 x2) hs) H) (mdA q)) ([.ref (q 0), .int x1, .int x2] : List Value).toArray s 0 0 (mdA q)) (F0 m 34 ls []) := by
    intro  v_3 hg hI H locs hP hS ls hl
    refine lv_aload_n hC.1 hC.2.1 dX6_keepLine_34 rfl (lv_at hl 0 rfl) ?_
    refine gf (v := .ref (q 1)) hC fwX6 (hKN.go hAL hS) hP 0 rfl rfl 0 (by decide) rfl wd_887 rfl dX6_keepLine_35 ?_
    refine lv_bipush (v := 88) hC.1 hC.2.1 dX6_keepLine_38 (by decide +kernel) ?_
    refine lv_aload_n hC.1 hC.2.1 dX6_keepLine_40 rfl (lv_at hl 0 rfl) ?_
    refine gf (v := .int (v_3 8 4)) hC fwX6 (hKN.go hAL hS) hP 0 rfl rfl 8 (by decide) rfl wd_895 rfl dX6_keepLine_41 ?_
    refine lv_topi (fun w_1 ew_1 => ?_)
    refine iast_k hC (hKN.go hAL hS) hP (mdD_D hq v_3 hs) hS 1 rfl (n := 124) (f := (v_3 0)) 88 (rfl) (by omega) (by decide) dX6_keepLine_44 (fun H locs hq_2 hS => ?_)
    have hP : PW G (mdW G q (mkM (upd (v_3 0) 88 w_1) (v_3 1) (v_3 2) (v_3 3) (v_3 4) (v_3 5) (v_3 6) (v_3 7) (v_3 8 0) (v_3 8 1) (v_3 8 2) (v_3 8 3) (v_3 8 4) (v_3 8 5) (v_3 8 6) (v_3 8 7) (v_3 8 8)) hs) H := hq_2
    have hI : SI ((mkM (upd (v_3 0) 88 w_1) (v_3 1) (v_3 2) (v_3 3) (v_3 4) (v_3 5) (v_3 6) (v_3 7) (v_3 8 0) (v_3 8 1) (v_3 8 2) (v_3 8 3) (v_3 8 4) (v_3 8 5) (v_3 8 6) (v_3 8 7) (v_3 8 8)) 0) := (SI_upd hI (Or.inr (by omega)))
    refine lv_aload_n hC.1 hC.2.1 dX6_keepLine_45 rfl (lv_at hl 0 rfl) ?_
    refine gf (v := .ref (q 1)) hC fwX6 (hKN.go hAL hS) hP 0 rfl rfl 0 (by decide) rfl wd_887 rfl dX6_keepLine_46 ?_
    refine lv_bipush (v := 89) hC.1 hC.2.1 dX6_keepLine_49 (by decide +kernel) ?_
    refine lv_iload_n hC.1 hC.2.1 dX6_keepLine_51 rfl (lv_at hl 1 rfl) ?_
    refine lv_aload_n hC.1 hC.2.1 dX6_keepLine_52 rfl (lv_at hl 0 rfl) ?_
    refine gf (v := .int (v_3 8 4)) hC fwX6 (hKN.go hAL hS) hP 0 rfl rfl 8 (by decide) rfl wd_895 rfl dX6_keepLine_53 ?_
    refine lv_iconst (v := (-1)) hC.1 hC.2.1 dX6_keepLine_56 (by decide) ?_
    refine lv_ixor hC.1 hC.2.1 dX6_keepLine_57 ?_
    refine lv_iand hC.1 hC.2.1 dX6_keepLine_58 ?_
    refine lv_topi (fun w_3 ew_3 => ?_)
    refine iast_k hC (hKN.go hAL hS) hP (mdD_D hq (mkM (upd (v_3 0) 88 w_1) (v_3 1) (v_3 2) (v_3 3) (v_3 4) (v_3 5) (v_3 6) (v_3 7) (v_3 8 0) (v_3 8 1) (v_3 8 2) (v_3 8 3) (v_3 8 4) (v_3 8 5) (v_3 8 6) (v_3 8 7) (v_3 8 8)) hs) hS 1 rfl (n := 124) (f := (upd (v_3 0) 88 w_1)) 89 (rfl) (by omega) (by decide) dX6_keepLine_59 (fun H locs hq_4 hS => ?_)
    have hP : PW G (mdW G q (mkM (upd (upd (v_3 0) 88 w_1) 89 w_3) (v_3 1) (v_3 2) (v_3 3) (v_3 4) (v_3 5) (v_3 6) (v_3 7) (v_3 8 0) (v_3 8 1) (v_3 8 2) (v_3 8 3) (v_3 8 4) (v_3 8 5) (v_3 8 6) (v_3 8 7) (v_3 8 8)) hs) H := hq_4
    have hI : SI ((mkM (upd (upd (v_3 0) 88 w_1) 89 w_3) (v_3 1) (v_3 2) (v_3 3) (v_3 4) (v_3 5) (v_3 6) (v_3 7) (v_3 8 0) (v_3 8 1) (v_3 8 2) (v_3 8 3) (v_3 8 4) (v_3 8 5) (v_3 8 6) (v_3 8 7) (v_3 8 8)) 0) := (SI_upd hI (Or.inr (by omega)))
    refine lv_aload_n hC.1 hC.2.1 dX6_keepLine_60 rfl (lv_at hl 0 rfl) ?_
    refine gf (v := .ref (q 1)) hC fwX6 (hKN.go hAL hS) hP 0 rfl rfl 0 (by decide) rfl wd_887 rfl dX6_keepLine_61 ?_
    refine lv_bipush (v := 90) hC.1 hC.2.1 dX6_keepLine_64 (by decide +kernel) ?_
    refine lv_iload_n hC.1 hC.2.1 dX6_keepLine_66 rfl (lv_at hl 2 rfl) ?_
    refine iast_k hC (hKN.go hAL hS) hP (mdD_D hq (mkM (upd (upd (v_3 0) 88 w_1) 89 w_3) (v_3 1) (v_3 2) (v_3 3) (v_3 4) (v_3 5) (v_3 6) (v_3 7) (v_3 8 0) (v_3 8 1) (v_3 8 2) (v_3 8 3) (v_3 8 4) (v_3 8 5) (v_3 8 6) (v_3 8 7) (v_3 8 8)) hs) hS 1 rfl (n := 124) (f := (upd (upd (v_3 0) 88 w_1) 89 w_3)) 90 (rfl) (by omega) (by decide) dX6_keepLine_67 (fun H locs hq_5 hS => ?_)
    have hP : PW G (mdW G q (mkM (upd (upd (upd (v_3 0) 88 w_1) 89 w_3) 90 x2) (v_3 1) (v_3 2) (v_3 3) (v_3 4) (v_3 5) (v_3 6) (v_3 7) (v_3 8 0) (v_3 8 1) (v_3 8 2) (v_3 8 3) (v_3 8 4) (v_3 8 5) (v_3 8 6) (v_3 8 7) (v_3 8 8)) hs) H := hq_5
    have hI : SI ((mkM (upd (upd (upd (v_3 0) 88 w_1) 89 w_3) 90 x2) (v_3 1) (v_3 2) (v_3 3) (v_3 4) (v_3 5) (v_3 6) (v_3 7) (v_3 8 0) (v_3 8 1) (v_3 8 2) (v_3 8 3) (v_3 8 4) (v_3 8 5) (v_3 8 6) (v_3 8 7) (v_3 8 8)) 0) := (SI_upd hI (Or.inr (by omega)))
    refine lv_aload_n hC.1 hC.2.1 dX6_keepLine_68 rfl (lv_at hl 0 rfl) ?_
    refine gf (v := .ref (q 1)) hC fwX6 (hKN.go hAL hS) hP 0 rfl rfl 0 (by decide) rfl wd_887 rfl dX6_keepLine_69 ?_
    refine lv_bipush (v := 87) hC.1 hC.2.1 dX6_keepLine_72 (by decide +kernel) ?_
    refine lv_aload_n hC.1 hC.2.1 dX6_keepLine_74 rfl (lv_at hl 0 rfl) ?_
    refine gf (v := .ref (q 1)) hC fwX6 (hKN.go hAL hS) hP 0 rfl rfl 0 (by decide) rfl wd_887 rfl dX6_keepLine_75 ?_
    refine lv_bipush (v := 87) hC.1 hC.2.1 dX6_keepLine_78 (by decide +kernel) ?_
    refine iald_k hC (hKN.go hAL hS) hP 1 rfl (n := 124) (f := (upd (upd (upd (v_3 0) 88 w_1) 89 w_3) 90 x2)) 87 (rfl) (by omega) (by decide) dX6_keepLine_80 ?_
    refine lv_bipush (v := 12) hC.1 hC.2.1 dX6_keepLine_81 (by decide +kernel) ?_
    refine lv_icmp_ge (tgt := 98) hC.1 hC.2.1 dX6_keepLine_83 (by decide) (fun k83 => ?_) (fun k83 => ?_)
    · refine lv_bipush (v := 12) hC.1 hC.2.1 dX6_keepLine_98 (by decide +kernel) ?_
      refine iast_k hC (hKN.go hAL hS) hP (mdD_D hq (mkM (upd (upd (upd (v_3 0) 88 w_1) 89 w_3) 90 x2) (v_3 1) (v_3 2) (v_3 3) (v_3 4) (v_3 5) (v_3 6) (v_3 7) (v_3 8 0) (v_3 8 1) (v_3 8 2) (v_3 8 3) (v_3 8 4) (v_3 8 5) (v_3 8 6) (v_3 8 7) (v_3 8 8)) hs) hS 1 rfl (n := 124) (f := (upd (upd (upd (v_3 0) 88 w_1) 89 w_3) 90 x2)) 87 (rfl) (by omega) (by decide) dX6_keepLine_100 (fun H locs hq_6 hS => ?_)
      have hP : PW G (mdW G q (mkM (upd (upd (upd (upd (v_3 0) 88 w_1) 89 w_3) 90 x2) 87 12) (v_3 1) (v_3 2) (v_3 3) (v_3 4) (v_3 5) (v_3 6) (v_3 7) (v_3 8 0) (v_3 8 1) (v_3 8 2) (v_3 8 3) (v_3 8 4) (v_3 8 5) (v_3 8 6) (v_3 8 7) (v_3 8 8)) hs) H := hq_6
      have hI : SI ((mkM (upd (upd (upd (upd (v_3 0) 88 w_1) 89 w_3) 90 x2) 87 12) (v_3 1) (v_3 2) (v_3 3) (v_3 4) (v_3 5) (v_3 6) (v_3 7) (v_3 8 0) (v_3 8 1) (v_3 8 2) (v_3 8 3) (v_3 8 4) (v_3 8 5) (v_3 8 6) (v_3 8 7) (v_3 8 8)) 0) := (SI_upd hI (Or.inr (by omega)))
      have e_7 : tX6_keepLine_3 v x1 x2 v_3 = mkM (upd (upd (upd (upd (v_3 0) 88 w_1) 89 w_3) 90 x2) 87 12) (v_3 1) (v_3 2) (v_3 3) (v_3 4) (v_3 5) (v_3 6) (v_3 7) (v_3 8 0) (v_3 8 1) (v_3 8 2) (v_3 8 3) (v_3 8 4) (v_3 8 5) (v_3 8 6) (v_3 8 7) (v_3 8 8) := by subst ew_3; subst ew_1; exact Eq.trans (if_pos k83) rfl
      have hg : fX6_keepLine v x1 x2 = mkM (upd (upd (upd (upd (v_3 0) 88 w_1) 89 w_3) 90 x2) 87 12) (v_3 1) (v_3 2) (v_3 3) (v_3 4) (v_3 5) (v_3 6) (v_3 7) (v_3 8 0) (v_3 8 1) (v_3 8 2) (v_3 8 3) (v_3 8 4) (v_3 8 5) (v_3 8 6) (v_3 8 7) (v_3 8 8) := hg.trans (congrArg (fun z => z) e_7)
      exact eE_v hC (by show PW G (mdW G q (fX6_keepLine v x1 x2) hs) H; rw [hg]; exact hP) hS dX6_keepLine_101
    · refine lv_aload_n hC.1 hC.2.1 dX6_keepLine_86 rfl (lv_at hl 0 rfl) ?_
      refine gf (v := .ref (q 1)) hC fwX6 (hKN.go hAL hS) hP 0 rfl rfl 0 (by decide) rfl wd_887 rfl dX6_keepLine_87 ?_
      refine lv_bipush (v := 87) hC.1 hC.2.1 dX6_keepLine_90 (by decide +kernel) ?_
      refine iald_k hC (hKN.go hAL hS) hP 1 rfl (n := 124) (f := (upd (upd (upd (v_3 0) 88 w_1) 89 w_3) 90 x2)) 87 (rfl) (by omega) (by decide) dX6_keepLine_92 ?_
      refine lv_iconst (v := 1) hC.1 hC.2.1 dX6_keepLine_93 (by decide) ?_
      refine lv_iadd hC.1 hC.2.1 dX6_keepLine_94 ?_
      refine lv_goto (tgt := 100) hC.1 hC.2.1 dX6_keepLine_95 (by decide) ?_
      refine lv_topi (fun w_8 ew_8 => ?_)
      refine iast_k hC (hKN.go hAL hS) hP (mdD_D hq (mkM (upd (upd (upd (v_3 0) 88 w_1) 89 w_3) 90 x2) (v_3 1) (v_3 2) (v_3 3) (v_3 4) (v_3 5) (v_3 6) (v_3 7) (v_3 8 0) (v_3 8 1) (v_3 8 2) (v_3 8 3) (v_3 8 4) (v_3 8 5) (v_3 8 6) (v_3 8 7) (v_3 8 8)) hs) hS 1 rfl (n := 124) (f := (upd (upd (upd (v_3 0) 88 w_1) 89 w_3) 90 x2)) 87 (rfl) (by omega) (by decide) dX6_keepLine_100 (fun H locs hq_9 hS => ?_)
      have hP : PW G (mdW G q (mkM (upd (upd (upd (upd (v_3 0) 88 w_1) 89 w_3) 90 x2) 87 w_8) (v_3 1) (v_3 2) (v_3 3) (v_3 4) (v_3 5) (v_3 6) (v_3 7) (v_3 8 0) (v_3 8 1) (v_3 8 2) (v_3 8 3) (v_3 8 4) (v_3 8 5) (v_3 8 6) (v_3 8 7) (v_3 8 8)) hs) H := hq_9
      have hI : SI ((mkM (upd (upd (upd (upd (v_3 0) 88 w_1) 89 w_3) 90 x2) 87 w_8) (v_3 1) (v_3 2) (v_3 3) (v_3 4) (v_3 5) (v_3 6) (v_3 7) (v_3 8 0) (v_3 8 1) (v_3 8 2) (v_3 8 3) (v_3 8 4) (v_3 8 5) (v_3 8 6) (v_3 8 7) (v_3 8 8)) 0) := (SI_upd hI (Or.inr (by omega)))
      have e_10 : tX6_keepLine_3 v x1 x2 v_3 = mkM (upd (upd (upd (upd (v_3 0) 88 w_1) 89 w_3) 90 x2) 87 w_8) (v_3 1) (v_3 2) (v_3 3) (v_3 4) (v_3 5) (v_3 6) (v_3 7) (v_3 8 0) (v_3 8 1) (v_3 8 2) (v_3 8 3) (v_3 8 4) (v_3 8 5) (v_3 8 6) (v_3 8 7) (v_3 8 8) := by subst ew_8; subst ew_3; subst ew_1; exact Eq.trans (if_neg k83) rfl
      have hg : fX6_keepLine v x1 x2 = mkM (upd (upd (upd (upd (v_3 0) 88 w_1) 89 w_3) 90 x2) 87 w_8) (v_3 1) (v_3 2) (v_3 3) (v_3 4) (v_3 5) (v_3 6) (v_3 7) (v_3 8 0) (v_3 8 1) (v_3 8 2) (v_3 8 3) (v_3 8 4) (v_3 8 5) (v_3 8 6) (v_3 8 7) (v_3 8 8) := hg.trans (congrArg (fun z => z) e_10)
      exact eE_v hC (by show PW G (mdW G q (fX6_keepLine v x1 x2) hs) H; rw [hg]; exact hP) hS dX6_keepLine_101
  have L3 : ∀ (n3 : Nat), ∀ (v_3 : SV), n3 ≤ 33 → fX6_keepLine v x1 x2 = (tX6_keepLine_3 v x1 x2 (lpD n3 (bX6_keepLine_3 v x1 x2) v_3)) → SI (v_3 0) → ∀ (H : Heap) (locs : List Loc), PW G (mdW G q v_3 hs) H → va_S (mdA q) s.heap H locs → ∀ (ls : Array Slot), lv_has ls 4 [(0, .ref (q 0)), (1, .int x1), (2, .int x2), (3, .int (nI (n3 + 2)))] → W p l e ({ frames := 0, cells := 0, slots := 0, locals := 0 }) s m ([.ref (q 0), .int x1, .int x2] : List Value).toArray below meth c H locs 0 0 (MQ below (QE (none) (fun H => PW G (mdW G q (fX6_keepLine v x1 x2) hs) H) (mdA q)) ([.ref (q 0), .int x1, .int x2] : List Value).toArray s 0 0 (mdA q)) (F0 m 3 ls []) := by
    intro n3
    induction n3 with
    | zero =>
      intro v_3 hd hg hI H locs hP hS ls hl
      refine lv_iload_n hC.1 hC.2.1 dX6_keepLine_3 rfl (lv_at hl 3 rfl) ?_
      refine lv_iconst (v := 2) hC.1 hC.2.1 dX6_keepLine_4 (by decide) ?_
      refine lv_icmp_le (tgt := 34) hC.1 hC.2.1 dX6_keepLine_5 (by decide) (fun k5 => ?_) (fun k5 => ?_)
      · exact A3  v_3 hg hI _ _ hP hS _ (lv_sub hl [0, 1, 2] rfl)
      · exact absurd (by decide) k5
    | succ n3 ih =>
      intro v_3 hd hg hI H locs hP hS ls hl
      have hg : fX6_keepLine v x1 x2 = (tX6_keepLine_3 v x1 x2 (lpD n3 (bX6_keepLine_3 v x1 x2) (bX6_keepLine_3 v x1 x2 (n3 + 1) v_3))) := hg
      refine lv_iload_n hC.1 hC.2.1 dX6_keepLine_3 rfl (lv_at hl 3 rfl) ?_
      refine lv_iconst (v := 2) hC.1 hC.2.1 dX6_keepLine_4 (by decide) ?_
      refine lv_icmp_le (tgt := 34) hC.1 hC.2.1 dX6_keepLine_5 (by decide) (fun k5 => ?_) (fun k5 => ?_)
      · exact absurd k5 (nI_ge (a := 2) (by omega) (by omega))
      · refine lv_aload_n hC.1 hC.2.1 dX6_keepLine_8 rfl (lv_at hl 0 rfl) ?_
        refine gf (v := .ref (q 1)) hC fwX6 (hKN.go hAL hS) hP 0 rfl rfl 0 (by decide) rfl wd_887 rfl dX6_keepLine_9 ?_
        refine lv_bipush (v := 88) hC.1 hC.2.1 dX6_keepLine_12 (by decide +kernel) ?_
        refine lv_iload_n hC.1 hC.2.1 dX6_keepLine_14 rfl (lv_at hl 3 rfl) ?_
        refine lv_iadd hC.1 hC.2.1 dX6_keepLine_15 ?_
        refine lv_aload_n hC.1 hC.2.1 dX6_keepLine_16 rfl (lv_at hl 0 rfl) ?_
        refine gf (v := .ref (q 1)) hC fwX6 (hKN.go hAL hS) hP 0 rfl rfl 0 (by decide) rfl wd_887 rfl dX6_keepLine_17 ?_
        refine lv_bipush (v := 88) hC.1 hC.2.1 dX6_keepLine_20 (by decide +kernel) ?_
        refine lv_iload_n hC.1 hC.2.1 dX6_keepLine_22 rfl (lv_at hl 3 rfl) ?_
        refine lv_iadd hC.1 hC.2.1 dX6_keepLine_23 ?_
        refine lv_iconst (v := 3) hC.1 hC.2.1 dX6_keepLine_24 (by decide) ?_
        refine lv_isub hC.1 hC.2.1 dX6_keepLine_25 ?_
        refine iald_k hC (hKN.go hAL hS) hP 1 rfl (n := 124) (f := (v_3 0)) ((88 + ((n3 + 1) + 2)) - 3) (nE_sub (nE_add (rfl) (rfl)) (rfl) (by omega)) (by omega) (by decide) dX6_keepLine_26 ?_
        refine lv_topi (fun w_11 ew_11 => ?_)
        refine iast_k hC (hKN.go hAL hS) hP (mdD_D hq v_3 hs) hS 1 rfl (n := 124) (f := (v_3 0)) (88 + ((n3 + 1) + 2)) (nE_add (rfl) (rfl)) (by omega) (by decide) dX6_keepLine_27 (fun H locs hq_12 hS => ?_)
        have hP : PW G (mdW G q (mkM (upd (v_3 0) (88 + ((n3 + 1) + 2)) w_11) (v_3 1) (v_3 2) (v_3 3) (v_3 4) (v_3 5) (v_3 6) (v_3 7) (v_3 8 0) (v_3 8 1) (v_3 8 2) (v_3 8 3) (v_3 8 4) (v_3 8 5) (v_3 8 6) (v_3 8 7) (v_3 8 8)) hs) H := hq_12
        have hI : SI ((mkM (upd (v_3 0) (88 + ((n3 + 1) + 2)) w_11) (v_3 1) (v_3 2) (v_3 3) (v_3 4) (v_3 5) (v_3 6) (v_3 7) (v_3 8 0) (v_3 8 1) (v_3 8 2) (v_3 8 3) (v_3 8 4) (v_3 8 5) (v_3 8 6) (v_3 8 7) (v_3 8 8)) 0) := (SI_upd hI (Or.inr (by omega)))
        refine lv_iinc (v := nI (n3 + 2)) (lv' := [(3, .int (nI (n3 + 2))), (0, .ref (q 0)), (1, .int x1), (2, .int x2)]) hC.1 hC.2.1 dX6_keepLine_28 hl (k := 3) rfl (pk_m1 (n3 + 2)) (by decide) rfl (fun ls hl => ?_)
        refine lv_goto (tgt := 3) hC.1 hC.2.1 dX6_keepLine_31 (by decide) ?_
        have e_13 : bX6_keepLine_3 v x1 x2 (n3 + 1) v_3 = mkM (upd (v_3 0) (88 + ((n3 + 1) + 2)) w_11) (v_3 1) (v_3 2) (v_3 3) (v_3 4) (v_3 5) (v_3 6) (v_3 7) (v_3 8 0) (v_3 8 1) (v_3 8 2) (v_3 8 3) (v_3 8 4) (v_3 8 5) (v_3 8 6) (v_3 8 7) (v_3 8 8) := by subst ew_11; exact rfl
        have hg : fX6_keepLine v x1 x2 = (tX6_keepLine_3 v x1 x2 (lpD n3 (bX6_keepLine_3 v x1 x2) (mkM (upd (v_3 0) (88 + ((n3 + 1) + 2)) w_11) (v_3 1) (v_3 2) (v_3 3) (v_3 4) (v_3 5) (v_3 6) (v_3 7) (v_3 8 0) (v_3 8 1) (v_3 8 2) (v_3 8 3) (v_3 8 4) (v_3 8 5) (v_3 8 6) (v_3 8 7) (v_3 8 8)))) := hg.trans (congrArg (fun z => (tX6_keepLine_3 v x1 x2 (lpD n3 (bX6_keepLine_3 v x1 x2) z))) e_13)
        exact ih (mkM (upd (v_3 0) (88 + ((n3 + 1) + 2)) w_11) (v_3 1) (v_3 2) (v_3 3) (v_3 4) (v_3 5) (v_3 6) (v_3 7) (v_3 8 0) (v_3 8 1) (v_3 8 2) (v_3 8 3) (v_3 8 4) (v_3 8 5) (v_3 8 6) (v_3 8 7) (v_3 8 8)) (by omega) hg hI _ _ hP hS _ (lv_sub hl [1, 2, 3, 0] rfl)
  have e_14 : fX6_keepLine v x1 x2 = tX6_keepLine_3 v x1 x2 (lpD 33 (bX6_keepLine_3 v x1 x2) v) := by exact rfl
  have hg : fX6_keepLine v x1 x2 = (tX6_keepLine_3 v x1 x2 (lpD 33 (bX6_keepLine_3 v x1 x2) v)) := hg.trans (congrArg (fun z => z) e_14)
  exact L3  33 v (Nat.le_refl _) hg hI _ _ hP hS _ (lv_sub hl [1, 2, 3, 0] rfl)

theorem dX6_sum_0 : decode cX6_sum 0 = .ok (.iconst 0, 1) := by decide +kernel
theorem dX6_sum_1 : decode cX6_sum 1 = .ok (.istore_n 2, 1) := by decide +kernel
theorem dX6_sum_2 : decode cX6_sum 2 = .ok (.iconst 0, 1) := by decide +kernel
theorem dX6_sum_3 : decode cX6_sum 3 = .ok (.istore_n 3, 1) := by decide +kernel
theorem dX6_sum_4 : decode cX6_sum 4 = .ok (.iload_n 3, 1) := by decide +kernel
theorem dX6_sum_5 : decode cX6_sum 5 = .ok (.bipush 24, 2) := by decide +kernel
theorem dX6_sum_7 : decode cX6_sum 7 = .ok (.if_icmp .ge 20, 3) := by decide +kernel
theorem dX6_sum_10 : decode cX6_sum 10 = .ok (.iload_n 2, 1) := by decide +kernel
theorem dX6_sum_11 : decode cX6_sum 11 = .ok (.aload_n 0, 1) := by decide +kernel
theorem dX6_sum_12 : decode cX6_sum 12 = .ok (.getfield 7, 3) := by decide +kernel
theorem dX6_sum_15 : decode cX6_sum 15 = .ok (.iload_n 1, 1) := by decide +kernel
theorem dX6_sum_16 : decode cX6_sum 16 = .ok (.iload_n 3, 1) := by decide +kernel
theorem dX6_sum_17 : decode cX6_sum 17 = .ok (.iadd, 1) := by decide +kernel
theorem dX6_sum_18 : decode cX6_sum 18 = .ok (.iaload, 1) := by decide +kernel
theorem dX6_sum_19 : decode cX6_sum 19 = .ok (.iadd, 1) := by decide +kernel
theorem dX6_sum_20 : decode cX6_sum 20 = .ok (.istore_n 2, 1) := by decide +kernel
theorem dX6_sum_21 : decode cX6_sum 21 = .ok (.iinc 3 1, 3) := by decide +kernel
theorem dX6_sum_24 : decode cX6_sum 24 = .ok (.goto (-20), 3) := by decide +kernel
theorem dX6_sum_27 : decode cX6_sum 27 = .ok (.iload_n 2, 1) := by decide +kernel
theorem dX6_sum_28 : decode cX6_sum 28 = .ok (.ireturn, 1) := by decide +kernel
set_option maxHeartbeats 1000000 in
set_option maxRecDepth 100000 in
theorem c_X6_sum (l : Launch) (G : GT) (q : Nat → Nat) (v : SV) (hs : Int64) (x1 : Nat) (hx : x1 + 24 ≤ 124) : Met l yX6_sum (Cond.code yX6_sum cX6_sum 4 (some .int) :: bigW) ({ frames := 0, cells := 0, slots := 0, locals := 0 }) (BP G [.ref (q 0), .int (nI x1)] (fun U H => PW G (mdW G q v hs) H)) (QP (.int (fX6_sum v x1))) 0 0 (fun _ => False) := by
  refine met_of (by decide) (Nat.le_of_ble_eq_true rfl) ?_
  intro p e s m below meth c ls hC hKN hB0 hl
  have hP := hB0
  have hl : lv_has ls 4 [(0, .ref (q 0)), (1, .int (nI x1))] := hl
  have hg : fX6_sum v x1 = fX6_sum v x1 := rfl
  refine lv_iconst (v := 0) hC.1 hC.2.1 dX6_sum_0 (by decide) ?_
  refine lv_istore_n (lv' := [(2, .int 0), (0, .ref (q 0)), (1, .int (nI x1))]) hC.1 hC.2.1 dX6_sum_1 rfl hl (by decide) rfl (fun ls hl => ?_)
  refine lv_iconst (v := 0) hC.1 hC.2.1 dX6_sum_2 (by decide) ?_
  refine lv_istore_n (lv' := [(3, .int 0), (2, .int 0), (0, .ref (q 0)), (1, .int (nI x1))]) hC.1 hC.2.1 dX6_sum_3 rfl hl (by decide) rfl (fun ls hl => ?_)
  have A4 : ∀ (y2_4 : Int32), fX6_sum v x1 = (tX6_sum_4 v x1 y2_4) → ∀ (ls : Array Slot), lv_has ls 4 [(2, .int y2_4)] → W p l e ({ frames := 0, cells := 0, slots := 0, locals := 0 }) s m ([.ref (q 0), .int (nI x1)] : List Value).toArray below meth c s.heap [] 0 0 (MQ below (QP (.int (fX6_sum v x1))) ([.ref (q 0), .int (nI x1)] : List Value).toArray s 0 0 (fun _ => False)) (F0 m 27 ls []) := by
    intro  y2_4 hg ls hl
    refine lv_iload_n hC.1 hC.2.1 dX6_sum_27 rfl (lv_at hl 0 rfl) ?_
    have e_1 : tX6_sum_4 v x1 y2_4 = y2_4 := by exact rfl
    have hg : fX6_sum v x1 = y2_4 := hg.trans (congrArg (fun z => z) e_1)
    exact eP_i hC (congrArg Value.int hg) dX6_sum_28
  have L4 : ∀ (n4 d4 : Nat), ∀ (y2_4 : Int32), d4 + n4 = 24 → fX6_sum v x1 = (tX6_sum_4 v x1 (lpF n4 d4 (bX6_sum_4 v x1) y2_4)) → ∀ (ls : Array Slot), lv_has ls 4 [(0, .ref (q 0)), (1, .int (nI x1)), (2, .int y2_4), (3, .int (nI d4))] → W p l e ({ frames := 0, cells := 0, slots := 0, locals := 0 }) s m ([.ref (q 0), .int (nI x1)] : List Value).toArray below meth c s.heap [] 0 0 (MQ below (QP (.int (fX6_sum v x1))) ([.ref (q 0), .int (nI x1)] : List Value).toArray s 0 0 (fun _ => False)) (F0 m 4 ls []) := by
    intro n4
    induction n4 with
    | zero =>
      intro d4 y2_4 hd hg ls hl
      refine lv_iload_n hC.1 hC.2.1 dX6_sum_4 rfl (lv_at hl 3 rfl) ?_
      refine lv_bipush (v := 24) hC.1 hC.2.1 dX6_sum_5 (by decide +kernel) ?_
      refine lv_icmp_ge (tgt := 27) hC.1 hC.2.1 dX6_sum_7 (by decide) (fun k7 => ?_) (fun k7 => ?_)
      · exact A4  y2_4 hg _ (lv_sub hl [2] rfl)
      · exact absurd (nI_le (a := 24) (b := d4) (by omega) (by omega)) k7
    | succ n4 ih =>
      intro d4 y2_4 hd hg ls hl
      have hg : fX6_sum v x1 = (tX6_sum_4 v x1 (lpF n4 (d4 + 1) (bX6_sum_4 v x1) (bX6_sum_4 v x1 d4 y2_4))) := hg
      refine lv_iload_n hC.1 hC.2.1 dX6_sum_4 rfl (lv_at hl 3 rfl) ?_
      refine lv_bipush (v := 24) hC.1 hC.2.1 dX6_sum_5 (by decide +kernel) ?_
      refine lv_icmp_ge (tgt := 27) hC.1 hC.2.1 dX6_sum_7 (by decide) (fun k7 => ?_) (fun k7 => ?_)
      · exact absurd k7 (nI_ge (a := d4) (b := 24) (by omega) (by omega))
      · refine lv_iload_n hC.1 hC.2.1 dX6_sum_10 rfl (lv_at hl 2 rfl) ?_
        refine lv_aload_n hC.1 hC.2.1 dX6_sum_11 rfl (lv_at hl 0 rfl) ?_
        refine gf (v := .ref (q 1)) hC fwX6 hKN hP 0 rfl rfl 0 (by decide) rfl wd_887 rfl dX6_sum_12 ?_
        refine lv_iload_n hC.1 hC.2.1 dX6_sum_15 rfl (lv_at hl 1 rfl) ?_
        refine lv_iload_n hC.1 hC.2.1 dX6_sum_16 rfl (lv_at hl 3 rfl) ?_
        refine lv_iadd hC.1 hC.2.1 dX6_sum_17 ?_
        refine iald_k hC hKN hP 1 rfl (n := 124) (f := (v 0)) (x1 + d4) (nE_add (rfl) (rfl)) (by omega) (by decide) dX6_sum_18 ?_
        refine lv_iadd hC.1 hC.2.1 dX6_sum_19 ?_
        refine lv_istore_n (lv' := [(2, .int (y2_4 + ((v 0) (x1 + d4)))), (0, .ref (q 0)), (1, .int (nI x1)), (3, .int (nI d4))]) hC.1 hC.2.1 dX6_sum_20 rfl hl (by decide) rfl (fun ls hl => ?_)
        refine lv_iinc (v := nI (d4 + 1)) (lv' := [(3, .int (nI (d4 + 1))), (2, .int (y2_4 + ((v 0) (x1 + d4)))), (0, .ref (q 0)), (1, .int (nI x1))]) hC.1 hC.2.1 dX6_sum_21 hl (k := 3) rfl (nI_1 _) (by decide) rfl (fun ls hl => ?_)
        refine lv_goto (tgt := 4) hC.1 hC.2.1 dX6_sum_24 (by decide) ?_
        have e_2 : bX6_sum_4 v x1 d4 y2_4 = y2_4 + ((v 0) (x1 + d4)) := by exact rfl
        have hg : fX6_sum v x1 = (tX6_sum_4 v x1 (lpF n4 (d4 + 1) (bX6_sum_4 v x1) (y2_4 + ((v 0) (x1 + d4))))) := hg.trans (congrArg (fun z => (tX6_sum_4 v x1 (lpF n4 (d4 + 1) (bX6_sum_4 v x1) z))) e_2)
        exact ih (d4 + 1) (y2_4 + ((v 0) (x1 + d4))) (by omega) hg _ (lv_sub hl [2, 3, 1, 0] rfl)
  have e_3 : fX6_sum v x1 = tX6_sum_4 v x1 (lpF 24 0 (bX6_sum_4 v x1) 0) := by exact rfl
  have hg : fX6_sum v x1 = (tX6_sum_4 v x1 (lpF 24 0 (bX6_sum_4 v x1) 0)) := hg.trans (congrArg (fun z => z) e_3)
  exact L4  24 0 0 (by omega) hg _ (lv_sub hl [2, 3, 1, 0] rfl)

theorem dX6_hottestNow_0 : decode cX6_hottestNow 0 = .ok (.iconst 0, 1) := by decide +kernel
theorem dX6_hottestNow_1 : decode cX6_hottestNow 1 = .ok (.istore_n 1, 1) := by decide +kernel
theorem dX6_hottestNow_2 : decode cX6_hottestNow 2 = .ok (.iconst 0, 1) := by decide +kernel
theorem dX6_hottestNow_3 : decode cX6_hottestNow 3 = .ok (.istore_n 2, 1) := by decide +kernel
theorem dX6_hottestNow_4 : decode cX6_hottestNow 4 = .ok (.iload_n 2, 1) := by decide +kernel
theorem dX6_hottestNow_5 : decode cX6_hottestNow 5 = .ok (.bipush 24, 2) := by decide +kernel
theorem dX6_hottestNow_7 : decode cX6_hottestNow 7 = .ok (.if_icmp .ge 30, 3) := by decide +kernel
theorem dX6_hottestNow_10 : decode cX6_hottestNow 10 = .ok (.aload_n 0, 1) := by decide +kernel
theorem dX6_hottestNow_11 : decode cX6_hottestNow 11 = .ok (.getfield 7, 3) := by decide +kernel
theorem dX6_hottestNow_14 : decode cX6_hottestNow 14 = .ok (.iload_n 2, 1) := by decide +kernel
theorem dX6_hottestNow_15 : decode cX6_hottestNow 15 = .ok (.iaload, 1) := by decide +kernel
theorem dX6_hottestNow_16 : decode cX6_hottestNow 16 = .ok (.iload_n 1, 1) := by decide +kernel
theorem dX6_hottestNow_17 : decode cX6_hottestNow 17 = .ok (.if_icmp .le 12, 3) := by decide +kernel
theorem dX6_hottestNow_20 : decode cX6_hottestNow 20 = .ok (.aload_n 0, 1) := by decide +kernel
theorem dX6_hottestNow_21 : decode cX6_hottestNow 21 = .ok (.getfield 7, 3) := by decide +kernel
theorem dX6_hottestNow_24 : decode cX6_hottestNow 24 = .ok (.iload_n 2, 1) := by decide +kernel
theorem dX6_hottestNow_25 : decode cX6_hottestNow 25 = .ok (.iaload, 1) := by decide +kernel
theorem dX6_hottestNow_26 : decode cX6_hottestNow 26 = .ok (.goto 4, 3) := by decide +kernel
theorem dX6_hottestNow_29 : decode cX6_hottestNow 29 = .ok (.iload_n 1, 1) := by decide +kernel
theorem dX6_hottestNow_30 : decode cX6_hottestNow 30 = .ok (.istore_n 1, 1) := by decide +kernel
theorem dX6_hottestNow_31 : decode cX6_hottestNow 31 = .ok (.iinc 2 1, 3) := by decide +kernel
theorem dX6_hottestNow_34 : decode cX6_hottestNow 34 = .ok (.goto (-30), 3) := by decide +kernel
theorem dX6_hottestNow_37 : decode cX6_hottestNow 37 = .ok (.iload_n 1, 1) := by decide +kernel
theorem dX6_hottestNow_38 : decode cX6_hottestNow 38 = .ok (.ireturn, 1) := by decide +kernel
set_option maxHeartbeats 1000000 in
set_option maxRecDepth 100000 in
theorem c_X6_hottestNow (l : Launch) (G : GT) (q : Nat → Nat) (v : SV) (hs : Int64) : Met l yX6_hottestNow (Cond.code yX6_hottestNow cX6_hottestNow 3 (some .int) :: bigW) ({ frames := 0, cells := 0, slots := 0, locals := 0 }) (BP G [.ref (q 0)] (fun U H => PW G (mdW G q v hs) H)) (QP (.int (fX6_hottestNow v))) 0 0 (fun _ => False) := by
  refine met_of (by decide) (Nat.le_of_ble_eq_true rfl) ?_
  intro p e s m below meth c ls hC hKN hB0 hl
  have hP := hB0
  have hl : lv_has ls 3 [(0, .ref (q 0))] := hl
  have hg : fX6_hottestNow v = fX6_hottestNow v := rfl
  refine lv_iconst (v := 0) hC.1 hC.2.1 dX6_hottestNow_0 (by decide) ?_
  refine lv_istore_n (lv' := [(1, .int 0), (0, .ref (q 0))]) hC.1 hC.2.1 dX6_hottestNow_1 rfl hl (by decide) rfl (fun ls hl => ?_)
  refine lv_iconst (v := 0) hC.1 hC.2.1 dX6_hottestNow_2 (by decide) ?_
  refine lv_istore_n (lv' := [(2, .int 0), (1, .int 0), (0, .ref (q 0))]) hC.1 hC.2.1 dX6_hottestNow_3 rfl hl (by decide) rfl (fun ls hl => ?_)
  have A4 : ∀ (y1_4 : Int32), fX6_hottestNow v = (tX6_hottestNow_4 v y1_4) → ∀ (ls : Array Slot), lv_has ls 3 [(1, .int y1_4)] → W p l e ({ frames := 0, cells := 0, slots := 0, locals := 0 }) s m ([.ref (q 0)] : List Value).toArray below meth c s.heap [] 0 0 (MQ below (QP (.int (fX6_hottestNow v))) ([.ref (q 0)] : List Value).toArray s 0 0 (fun _ => False)) (F0 m 37 ls []) := by
    intro  y1_4 hg ls hl
    refine lv_iload_n hC.1 hC.2.1 dX6_hottestNow_37 rfl (lv_at hl 0 rfl) ?_
    have e_1 : tX6_hottestNow_4 v y1_4 = y1_4 := by exact rfl
    have hg : fX6_hottestNow v = y1_4 := hg.trans (congrArg (fun z => z) e_1)
    exact eP_i hC (congrArg Value.int hg) dX6_hottestNow_38
  have L4 : ∀ (n4 d4 : Nat), ∀ (y1_4 : Int32), d4 + n4 = 24 → fX6_hottestNow v = (tX6_hottestNow_4 v (lpF n4 d4 (bX6_hottestNow_4 v) y1_4)) → ∀ (ls : Array Slot), lv_has ls 3 [(0, .ref (q 0)), (1, .int y1_4), (2, .int (nI d4))] → W p l e ({ frames := 0, cells := 0, slots := 0, locals := 0 }) s m ([.ref (q 0)] : List Value).toArray below meth c s.heap [] 0 0 (MQ below (QP (.int (fX6_hottestNow v))) ([.ref (q 0)] : List Value).toArray s 0 0 (fun _ => False)) (F0 m 4 ls []) := by
    intro n4
    induction n4 with
    | zero =>
      intro d4 y1_4 hd hg ls hl
      refine lv_iload_n hC.1 hC.2.1 dX6_hottestNow_4 rfl (lv_at hl 2 rfl) ?_
      refine lv_bipush (v := 24) hC.1 hC.2.1 dX6_hottestNow_5 (by decide +kernel) ?_
      refine lv_icmp_ge (tgt := 37) hC.1 hC.2.1 dX6_hottestNow_7 (by decide) (fun k7 => ?_) (fun k7 => ?_)
      · exact A4  y1_4 hg _ (lv_sub hl [1] rfl)
      · exact absurd (nI_le (a := 24) (b := d4) (by omega) (by omega)) k7
    | succ n4 ih =>
      intro d4 y1_4 hd hg ls hl
      have hg : fX6_hottestNow v = (tX6_hottestNow_4 v (lpF n4 (d4 + 1) (bX6_hottestNow_4 v) (bX6_hottestNow_4 v d4 y1_4))) := hg
      refine lv_iload_n hC.1 hC.2.1 dX6_hottestNow_4 rfl (lv_at hl 2 rfl) ?_
      refine lv_bipush (v := 24) hC.1 hC.2.1 dX6_hottestNow_5 (by decide +kernel) ?_
      refine lv_icmp_ge (tgt := 37) hC.1 hC.2.1 dX6_hottestNow_7 (by decide) (fun k7 => ?_) (fun k7 => ?_)
      · exact absurd k7 (nI_ge (a := d4) (b := 24) (by omega) (by omega))
      · refine lv_aload_n hC.1 hC.2.1 dX6_hottestNow_10 rfl (lv_at hl 0 rfl) ?_
        refine gf (v := .ref (q 1)) hC fwX6 hKN hP 0 rfl rfl 0 (by decide) rfl wd_887 rfl dX6_hottestNow_11 ?_
        refine lv_iload_n hC.1 hC.2.1 dX6_hottestNow_14 rfl (lv_at hl 2 rfl) ?_
        refine iald_k hC hKN hP 1 rfl (n := 124) (f := (v 0)) d4 (rfl) (by omega) (by decide) dX6_hottestNow_15 ?_
        refine lv_iload_n hC.1 hC.2.1 dX6_hottestNow_16 rfl (lv_at hl 1 rfl) ?_
        refine lv_icmp_le (tgt := 29) hC.1 hC.2.1 dX6_hottestNow_17 (by decide) (fun k17 => ?_) (fun k17 => ?_)
        · refine lv_iload_n hC.1 hC.2.1 dX6_hottestNow_29 rfl (lv_at hl 1 rfl) ?_
          refine lv_istore_n (lv' := [(1, .int y1_4), (0, .ref (q 0)), (2, .int (nI d4))]) hC.1 hC.2.1 dX6_hottestNow_30 rfl hl (by decide) rfl (fun ls hl => ?_)
          refine lv_iinc (v := nI (d4 + 1)) (lv' := [(2, .int (nI (d4 + 1))), (1, .int y1_4), (0, .ref (q 0))]) hC.1 hC.2.1 dX6_hottestNow_31 hl (k := 2) rfl (nI_1 _) (by decide) rfl (fun ls hl => ?_)
          refine lv_goto (tgt := 4) hC.1 hC.2.1 dX6_hottestNow_34 (by decide) ?_
          have e_2 : bX6_hottestNow_4 v d4 y1_4 = y1_4 := by exact Eq.trans (if_pos k17) rfl
          have hg : fX6_hottestNow v = (tX6_hottestNow_4 v (lpF n4 (d4 + 1) (bX6_hottestNow_4 v) y1_4)) := hg.trans (congrArg (fun z => (tX6_hottestNow_4 v (lpF n4 (d4 + 1) (bX6_hottestNow_4 v) z))) e_2)
          exact ih (d4 + 1) y1_4 (by omega) hg _ (lv_sub hl [2, 1, 0] rfl)
        · refine lv_aload_n hC.1 hC.2.1 dX6_hottestNow_20 rfl (lv_at hl 0 rfl) ?_
          refine gf (v := .ref (q 1)) hC fwX6 hKN hP 0 rfl rfl 0 (by decide) rfl wd_887 rfl dX6_hottestNow_21 ?_
          refine lv_iload_n hC.1 hC.2.1 dX6_hottestNow_24 rfl (lv_at hl 2 rfl) ?_
          refine iald_k hC hKN hP 1 rfl (n := 124) (f := (v 0)) d4 (rfl) (by omega) (by decide) dX6_hottestNow_25 ?_
          refine lv_goto (tgt := 30) hC.1 hC.2.1 dX6_hottestNow_26 (by decide) ?_
          refine lv_istore_n (lv' := [(1, .int ((v 0) d4)), (0, .ref (q 0)), (2, .int (nI d4))]) hC.1 hC.2.1 dX6_hottestNow_30 rfl hl (by decide) rfl (fun ls hl => ?_)
          refine lv_iinc (v := nI (d4 + 1)) (lv' := [(2, .int (nI (d4 + 1))), (1, .int ((v 0) d4)), (0, .ref (q 0))]) hC.1 hC.2.1 dX6_hottestNow_31 hl (k := 2) rfl (nI_1 _) (by decide) rfl (fun ls hl => ?_)
          refine lv_goto (tgt := 4) hC.1 hC.2.1 dX6_hottestNow_34 (by decide) ?_
          have e_3 : bX6_hottestNow_4 v d4 y1_4 = (v 0) d4 := by exact Eq.trans (if_neg k17) rfl
          have hg : fX6_hottestNow v = (tX6_hottestNow_4 v (lpF n4 (d4 + 1) (bX6_hottestNow_4 v) ((v 0) d4))) := hg.trans (congrArg (fun z => (tX6_hottestNow_4 v (lpF n4 (d4 + 1) (bX6_hottestNow_4 v) z))) e_3)
          exact ih (d4 + 1) ((v 0) d4) (by omega) hg _ (lv_sub hl [2, 1, 0] rfl)
  have e_4 : fX6_hottestNow v = tX6_hottestNow_4 v (lpF 24 0 (bX6_hottestNow_4 v) 0) := by exact rfl
  have hg : fX6_hottestNow v = (tX6_hottestNow_4 v (lpF 24 0 (bX6_hottestNow_4 v) 0)) := hg.trans (congrArg (fun z => z) e_4)
  exact L4  24 0 0 (by omega) hg _ (lv_sub hl [2, 1, 0] rfl)
