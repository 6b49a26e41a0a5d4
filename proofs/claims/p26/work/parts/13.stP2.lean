def tX2_dotsOfPart_41 (v : SV) (x1 : Int32) (x2 : Int32) (x3 : Int32) (x4 : Int32) (y5_41 : Int32) (s : Int32 × Int32) : Int32 := let y6_41 := s.1; let y7_41 := s.2; y6_41
def tX2_dotsOfPart_J75 (v : SV) (x1 : Int32) (x2 : Int32) (x3 : Int32) (x4 : Int32) (y5_41 : Int32) (d41 : Nat) (y6_75 : Int32) (y7_75 : Int32) (z0_75 : Int32) : Int32 × Int32 := if z0_75 = x2 then ((y6_75 ||| (1 <<< ((nI d41) &&& 31)), y7_75 + 1)) else ((y6_75, y7_75 + 1))
def bX2_dotsOfPart_41 (v : SV) (x1 : Int32) (x2 : Int32) (x3 : Int32) (x4 : Int32) (y5_41 : Int32) (d41 : Nat) (s : Int32 × Int32) : Int32 × Int32 := let y6_41 := s.1; let y7_41 := s.2; if (fX5_bitOf x1 (nI d41)) = 1 then (if y5_41 = 0 then (tX2_dotsOfPart_J75 v x1 x2 x3 x4 y5_41 d41 y6_41 y7_41 (y7_41 / x4)) else (tX2_dotsOfPart_J75 v x1 x2 x3 x4 y5_41 d41 y6_41 y7_41 (y7_41 - y7_41 / x3 * x3))) else ((y6_41, y7_41))
def tX2_dotsOfPart_J30 (v : SV) (x1 : Int32) (x2 : Int32) (x3 : Int32) (x4 : Int32) (z0_30 : Int32) : Int32 := tX2_dotsOfPart_41 v x1 x2 x3 x4 z0_30 (lpF 24 0 (bX2_dotsOfPart_41 v x1 x2 x3 x4 z0_30) (0, 0))
def fX2_dotsOfPart (v : SV) (x1 : Int32) (x2 : Int32) (x3 : Int32) (x4 : Int32) : Int32 := if x3 < 1 then (0) else (if 1 ≤ x4 then (if (fX5_at 7 (v 2) 5) = 1 then (tX2_dotsOfPart_J30 v x1 x2 x3 x4 1) else (tX2_dotsOfPart_J30 v x1 x2 x3 x4 0)) else (0))
def tX2_waitOfPart_14 (v : SV) (x1 : Int32) (y2_14 : Int32) (s : Int32) : Int32 := let y3_14 := s; y3_14
def bX2_waitOfPart_14 (v : SV) (x1 : Int32) (y2_14 : Int32) (d14 : Nat) (s : Int32) : Int32 := let y3_14 := s; if (fX5_bitOf x1 (nI d14)) = 1 then ((if y3_14 < (fX2_timeDownTo v (fX5_at 24 (v 0) (nI d14)) (y2_14 - (fX5_at 24 (v 1) (nI d14)))) then (fX2_timeDownTo v (fX5_at 24 (v 0) (nI d14)) (y2_14 - (fX5_at 24 (v 1) (nI d14)))) else y3_14)) else (y3_14)
def fX2_waitOfPart (v : SV) (x1 : Int32) : Int32 := tX2_waitOfPart_14 v x1 (fX5_at 7 (v 2) 2) (lpF 24 0 (bX2_waitOfPart_14 v x1 (fX5_at 7 (v 2) 2)) 0)
def tX2_longestPulse_4 (v : SV) (x1 : Int32) (s : Int32) : Int32 := let y2_4 := s; y2_4
def bX2_longestPulse_4 (v : SV) (x1 : Int32) (d4 : Nat) (s : Int32) : Int32 := let y2_4 := s; if (fX5_bitOf x1 (nI d4)) = 1 then ((if y2_4 < ((v 1) d4) then ((v 1) d4) else y2_4)) else (y2_4)
def fX2_longestPulse (v : SV) (x1 : Int32) : Int32 := tX2_longestPulse_4 v x1 (lpF 24 0 (bX2_longestPulse_4 v x1) 0)
def fX2_numberOfDot (v : SV) (x1 : Int32) (x2 : Int32) : Int32 := if x2 = 0 then (fX5_at 24 (v 0) x1) else if x2 = 1 then (fX5_bitOf (v 8 8) x1) else if x2 = 2 then (fX5_bitOf (v 8 9) x1) else if x2 = 3 then (fX5_at 24 (v 6) x1) else if x2 = 4 then (fX5_at 24 (v 7) x1) else if x2 = 5 then (fX2_pulseAlone v x1 (fX5_at 7 (v 2) 0)) else (fX2_waitFor v (fX5_at 24 (v 0) x1) (fX2_pulseAlone v x1 (fX5_at 7 (v 2) 0)))
theorem dX2_dotsOfPart_0 : decode cX2_dotsOfPart 0 = .ok (.iload_n 3, 1) := by decide +kernel
theorem dX2_dotsOfPart_1 : decode cX2_dotsOfPart 1 = .ok (.iconst 1, 1) := by decide +kernel
theorem dX2_dotsOfPart_2 : decode cX2_dotsOfPart 2 = .ok (.if_icmp .lt 9, 3) := by decide +kernel
theorem dX2_dotsOfPart_5 : decode cX2_dotsOfPart 5 = .ok (.iload 4, 2) := by decide +kernel
theorem dX2_dotsOfPart_7 : decode cX2_dotsOfPart 7 = .ok (.iconst 1, 1) := by decide +kernel
theorem dX2_dotsOfPart_8 : decode cX2_dotsOfPart 8 = .ok (.if_icmp .ge 5, 3) := by decide +kernel
theorem dX2_dotsOfPart_11 : decode cX2_dotsOfPart 11 = .ok (.iconst 0, 1) := by decide +kernel
theorem dX2_dotsOfPart_12 : decode cX2_dotsOfPart 12 = .ok (.ireturn, 1) := by decide +kernel
theorem dX2_dotsOfPart_13 : decode cX2_dotsOfPart 13 = .ok (.aload_n 0, 1) := by decide +kernel
theorem dX2_dotsOfPart_14 : decode cX2_dotsOfPart 14 = .ok (.getfield 21, 3) := by decide +kernel
theorem dX2_dotsOfPart_17 : decode cX2_dotsOfPart 17 = .ok (.iconst 5, 1) := by decide +kernel
theorem dX2_dotsOfPart_18 : decode cX2_dotsOfPart 18 = .ok (.invokestatic 59, 3) := by decide +kernel
theorem dX2_dotsOfPart_21 : decode cX2_dotsOfPart 21 = .ok (.iconst 1, 1) := by decide +kernel
theorem dX2_dotsOfPart_22 : decode cX2_dotsOfPart 22 = .ok (.if_icmp .ne 7, 3) := by decide +kernel
theorem dX2_dotsOfPart_25 : decode cX2_dotsOfPart 25 = .ok (.iconst 1, 1) := by decide +kernel
theorem dX2_dotsOfPart_26 : decode cX2_dotsOfPart 26 = .ok (.goto 4, 3) := by decide +kernel
theorem dX2_dotsOfPart_29 : decode cX2_dotsOfPart 29 = .ok (.iconst 0, 1) := by decide +kernel
theorem dX2_dotsOfPart_30 : decode cX2_dotsOfPart 30 = .ok (.istore 5, 2) := by decide +kernel
theorem dX2_dotsOfPart_32 : decode cX2_dotsOfPart 32 = .ok (.iconst 0, 1) := by decide +kernel
theorem dX2_dotsOfPart_33 : decode cX2_dotsOfPart 33 = .ok (.istore 6, 2) := by decide +kernel
theorem dX2_dotsOfPart_35 : decode cX2_dotsOfPart 35 = .ok (.iconst 0, 1) := by decide +kernel
theorem dX2_dotsOfPart_36 : decode cX2_dotsOfPart 36 = .ok (.istore 7, 2) := by decide +kernel
theorem dX2_dotsOfPart_38 : decode cX2_dotsOfPart 38 = .ok (.iconst 0, 1) := by decide +kernel
theorem dX2_dotsOfPart_39 : decode cX2_dotsOfPart 39 = .ok (.istore 8, 2) := by decide +kernel
theorem dX2_dotsOfPart_41 : decode cX2_dotsOfPart 41 = .ok (.iload 8, 2) := by decide +kernel
theorem dX2_dotsOfPart_43 : decode cX2_dotsOfPart 43 = .ok (.bipush 24, 2) := by decide +kernel
theorem dX2_dotsOfPart_45 : decode cX2_dotsOfPart 45 = .ok (.if_icmp .ge 56, 3) := by decide +kernel
theorem dX2_dotsOfPart_48 : decode cX2_dotsOfPart 48 = .ok (.iload_n 1, 1) := by decide +kernel
theorem dX2_dotsOfPart_49 : decode cX2_dotsOfPart 49 = .ok (.iload 8, 2) := by decide +kernel
theorem dX2_dotsOfPart_51 : decode cX2_dotsOfPart 51 = .ok (.invokestatic 124, 3) := by decide +kernel
theorem dX2_dotsOfPart_54 : decode cX2_dotsOfPart 54 = .ok (.iconst 1, 1) := by decide +kernel
theorem dX2_dotsOfPart_55 : decode cX2_dotsOfPart 55 = .ok (.if_icmp .ne 40, 3) := by decide +kernel
theorem dX2_dotsOfPart_58 : decode cX2_dotsOfPart 58 = .ok (.iload 5, 2) := by decide +kernel
theorem dX2_dotsOfPart_60 : decode cX2_dotsOfPart 60 = .ok (.ifCond .eq 10, 3) := by decide +kernel
theorem dX2_dotsOfPart_63 : decode cX2_dotsOfPart 63 = .ok (.iload 7, 2) := by decide +kernel
theorem dX2_dotsOfPart_65 : decode cX2_dotsOfPart 65 = .ok (.iload_n 3, 1) := by decide +kernel
theorem dX2_dotsOfPart_66 : decode cX2_dotsOfPart 66 = .ok (.irem, 1) := by decide +kernel
theorem dX2_dotsOfPart_67 : decode cX2_dotsOfPart 67 = .ok (.goto 8, 3) := by decide +kernel
theorem dX2_dotsOfPart_70 : decode cX2_dotsOfPart 70 = .ok (.iload 7, 2) := by decide +kernel
theorem dX2_dotsOfPart_72 : decode cX2_dotsOfPart 72 = .ok (.iload 4, 2) := by decide +kernel
theorem dX2_dotsOfPart_74 : decode cX2_dotsOfPart 74 = .ok (.idiv, 1) := by decide +kernel
theorem dX2_dotsOfPart_75 : decode cX2_dotsOfPart 75 = .ok (.istore 9, 2) := by decide +kernel
theorem dX2_dotsOfPart_77 : decode cX2_dotsOfPart 77 = .ok (.iload 9, 2) := by decide +kernel
theorem dX2_dotsOfPart_79 : decode cX2_dotsOfPart 79 = .ok (.iload_n 2, 1) := by decide +kernel
theorem dX2_dotsOfPart_80 : decode cX2_dotsOfPart 80 = .ok (.if_icmp .ne 12, 3) := by decide +kernel
theorem dX2_dotsOfPart_83 : decode cX2_dotsOfPart 83 = .ok (.iload 6, 2) := by decide +kernel
theorem dX2_dotsOfPart_85 : decode cX2_dotsOfPart 85 = .ok (.iconst 1, 1) := by decide +kernel
theorem dX2_dotsOfPart_86 : decode cX2_dotsOfPart 86 = .ok (.iload 8, 2) := by decide +kernel
theorem dX2_dotsOfPart_88 : decode cX2_dotsOfPart 88 = .ok (.ishl, 1) := by decide +kernel
theorem dX2_dotsOfPart_89 : decode cX2_dotsOfPart 89 = .ok (.ior, 1) := by decide +kernel
theorem dX2_dotsOfPart_90 : decode cX2_dotsOfPart 90 = .ok (.istore 6, 2) := by decide +kernel
theorem dX2_dotsOfPart_92 : decode cX2_dotsOfPart 92 = .ok (.iinc 7 1, 3) := by decide +kernel
theorem dX2_dotsOfPart_95 : decode cX2_dotsOfPart 95 = .ok (.iinc 8 1, 3) := by decide +kernel
theorem dX2_dotsOfPart_98 : decode cX2_dotsOfPart 98 = .ok (.goto (-57), 3) := by decide +kernel
theorem dX2_dotsOfPart_101 : decode cX2_dotsOfPart 101 = .ok (.iload 6, 2) := by decide +kernel
theorem dX2_dotsOfPart_103 : decode cX2_dotsOfPart 103 = .ok (.ireturn, 1) := by decide +kernel
set_option maxHeartbeats 1000000 in
set_option maxRecDepth 100000 in
theorem c_X2_dotsOfPart (l : Launch) (G : GT) (q : Nat → Nat) (v : SV) (x1 : Int32) (x2 : Int32) (x3 : Int32) (x4 : Int32) : Met l yX2_dotsOfPart (Cond.code yX2_dotsOfPart cX2_dotsOfPart 10 (some .int) :: bigW) ({ frames := 1, cells := 0, slots := 0, locals := 21 }) (BP G [.ref (q 0), .int x1, .int x2, .int x3, .int x4] (fun U H => PW G (stW G q v) H)) (QP (.int (fX2_dotsOfPart v x1 x2 x3 x4))) 0 0 (fun _ => False) := by
  refine met_of (by decide) (Nat.le_of_ble_eq_true rfl) ?_
  intro p e s m below meth c ls hC hKN hB0 hl
  have hP := hB0
  have hl : lv_has ls 10 [(0, .ref (q 0)), (1, .int x1), (2, .int x2), (3, .int x3), (4, .int x4)] := hl
  have hg : fX2_dotsOfPart v x1 x2 x3 x4 = fX2_dotsOfPart v x1 x2 x3 x4 := rfl
  refine lv_iload_n hC.1 hC.2.1 dX2_dotsOfPart_0 rfl (lv_at hl 3 rfl) ?_
  refine lv_iconst (v := 1) hC.1 hC.2.1 dX2_dotsOfPart_1 (by decide) ?_
  refine lv_icmp_lt (tgt := 11) hC.1 hC.2.1 dX2_dotsOfPart_2 (by decide) (fun k2 => ?_) (fun k2 => ?_)
  · refine lv_iconst (v := 0) hC.1 hC.2.1 dX2_dotsOfPart_11 (by decide) ?_
    have e_1 : fX2_dotsOfPart v x1 x2 x3 x4 = 0 := by exact Eq.trans (if_pos k2) rfl
    have hg : fX2_dotsOfPart v x1 x2 x3 x4 = 0 := hg.trans (congrArg (fun z => z) e_1)
    exact eP_i hC (congrArg Value.int hg) dX2_dotsOfPart_12
  · refine lv_iload hC.1 hC.2.1 dX2_dotsOfPart_5 (lv_at hl 4 rfl) ?_
    refine lv_iconst (v := 1) hC.1 hC.2.1 dX2_dotsOfPart_7 (by decide) ?_
    refine lv_icmp_ge (tgt := 13) hC.1 hC.2.1 dX2_dotsOfPart_8 (by decide) (fun k8 => ?_) (fun k8 => ?_)
    · refine lv_aload_n hC.1 hC.2.1 dX2_dotsOfPart_13 rfl (lv_at hl 0 rfl) ?_
      refine gf (v := .ref (q 3)) hC fwX2 hKN hP 0 rfl rfl 2 (by decide) rfl wd_110 rfl dX2_dotsOfPart_14 ?_
      refine lv_iconst (v := 5) hC.1 hC.2.1 dX2_dotsOfPart_17 (by decide) ?_
      refine runP (rSN (B := fun U H => RD (q 3) 7 (v 2) U H) (As := [.ref (q 3), .int 5]) (rest := []) hC mwX5_at (c_X5_at l G (q 3) 7 (v 2) 5) wd_328 (nm_1 hKN) ⟨rfl, rfl⟩ ⟨Nat.le_of_ble_eq_true rfl, Nat.le_of_ble_eq_true rfl⟩ (stb_RD _ _ _) hKN (RD.ofP hKN hP 3 rfl) rfl hl.1 rfl (Nat.le_of_ble_eq_true rfl) dX2_dotsOfPart_18 ⟨Nat.zero_le _, Nat.zero_le _⟩) ?_
      refine lv_iconst (v := 1) hC.1 hC.2.1 dX2_dotsOfPart_21 (by decide) ?_
      have J30 : ∀ (z0_30 : Int32), fX2_dotsOfPart v x1 x2 x3 x4 = tX2_dotsOfPart_J30 v x1 x2 x3 x4 z0_30 → ∀ (ls : Array Slot), lv_has ls 10 [(1, .int x1), (2, .int x2), (3, .int x3), (4, .int x4)] → W p l e ({ frames := 1, cells := 0, slots := 0, locals := 21 }) s m ([.ref (q 0), .int x1, .int x2, .int x3, .int x4] : List Value).toArray below meth c s.heap [] 0 0 (MQ below (QP (.int (fX2_dotsOfPart v x1 x2 x3 x4))) ([.ref (q 0), .int x1, .int x2, .int x3, .int x4] : List Value).toArray s 0 0 (fun _ => False)) (F0 m 30 ls [.int z0_30]) := by
        intro z0_30 hg ls hl
        refine lv_istore (lv' := [(5, .int z0_30), (1, .int x1), (2, .int x2), (3, .int x3), (4, .int x4)]) hC.1 hC.2.1 dX2_dotsOfPart_30 hl (by decide) rfl (fun ls hl => ?_)
        refine lv_iconst (v := 0) hC.1 hC.2.1 dX2_dotsOfPart_32 (by decide) ?_
        refine lv_istore (lv' := [(6, .int 0), (5, .int z0_30), (1, .int x1), (2, .int x2), (3, .int x3), (4, .int x4)]) hC.1 hC.2.1 dX2_dotsOfPart_33 hl (by decide) rfl (fun ls hl => ?_)
        refine lv_iconst (v := 0) hC.1 hC.2.1 dX2_dotsOfPart_35 (by decide) ?_
        refine lv_istore (lv' := [(7, .int 0), (6, .int 0), (5, .int z0_30), (1, .int x1), (2, .int x2), (3, .int x3), (4, .int x4)]) hC.1 hC.2.1 dX2_dotsOfPart_36 hl (by decide) rfl (fun ls hl => ?_)
        refine lv_iconst (v := 0) hC.1 hC.2.1 dX2_dotsOfPart_38 (by decide) ?_
        refine lv_istore (lv' := [(8, .int 0), (7, .int 0), (6, .int 0), (5, .int z0_30), (1, .int x1), (2, .int x2), (3, .int x3), (4, .int x4)]) hC.1 hC.2.1 dX2_dotsOfPart_39 hl (by decide) rfl (fun ls hl => ?_)
        have A41 : ∀ (y5_41 : Int32), ∀ (y6_41 : Int32) (y7_41 : Int32), fX2_dotsOfPart v x1 x2 x3 x4 = (tX2_dotsOfPart_41 v x1 x2 x3 x4 y5_41 (y6_41, y7_41)) → ∀ (ls : Array Slot), lv_has ls 10 [(6, .int y6_41)] → W p l e ({ frames := 1, cells := 0, slots := 0, locals := 21 }) s m ([.ref (q 0), .int x1, .int x2, .int x3, .int x4] : List Value).toArray below meth c s.heap [] 0 0 (MQ below (QP (.int (fX2_dotsOfPart v x1 x2 x3 x4))) ([.ref (q 0), .int x1, .int x2, .int x3, .int x4] : List Value).toArray s 0 0 (fun _ => False)) (F0 m 101 ls []) := by
          intro y5_41 y6_41 y7_41 hg ls hl
          refine lv_iload hC.1 hC.2.1 dX2_dotsOfPart_101 (lv_at hl 0 rfl) ?_
          have e_2 : tX2_dotsOfPart_41 v x1 x2 x3 x4 y5_41 (y6_41, y7_41) = y6_41 := by exact rfl
          have hg : fX2_dotsOfPart v x1 x2 x3 x4 = y6_41 := hg.trans (congrArg (fun z => z) e_2)
          exact eP_i hC (congrArg Value.int hg) dX2_dotsOfPart_103
        have L41 : ∀ (y5_41 : Int32), ∀ (n41 d41 : Nat), ∀ (y6_41 : Int32) (y7_41 : Int32), d41 + n41 = 24 → fX2_dotsOfPart v x1 x2 x3 x4 = (tX2_dotsOfPart_41 v x1 x2 x3 x4 y5_41 (lpF n41 d41 (bX2_dotsOfPart_41 v x1 x2 x3 x4 y5_41) (y6_41, y7_41))) → ∀ (ls : Array Slot), lv_has ls 10 [(1, .int x1), (2, .int x2), (3, .int x3), (4, .int x4), (5, .int y5_41), (6, .int y6_41), (7, .int y7_41), (8, .int (nI d41))] → W p l e ({ frames := 1, cells := 0, slots := 0, locals := 21 }) s m ([.ref (q 0), .int x1, .int x2, .int x3, .int x4] : List Value).toArray below meth c s.heap [] 0 0 (MQ below (QP (.int (fX2_dotsOfPart v x1 x2 x3 x4))) ([.ref (q 0), .int x1, .int x2, .int x3, .int x4] : List Value).toArray s 0 0 (fun _ => False)) (F0 m 41 ls []) := by
          intro y5_41
          intro n41
          induction n41 with
          | zero =>
            intro d41 y6_41 y7_41 hd hg ls hl
            refine lv_iload hC.1 hC.2.1 dX2_dotsOfPart_41 (lv_at hl 7 rfl) ?_
            refine lv_bipush (v := 24) hC.1 hC.2.1 dX2_dotsOfPart_43 (by decide +kernel) ?_
            refine lv_icmp_ge (tgt := 101) hC.1 hC.2.1 dX2_dotsOfPart_45 (by decide) (fun k45 => ?_) (fun k45 => ?_)
            · exact A41 y5_41 y6_41 y7_41 hg _ (lv_sub hl [5] rfl)
            · exact absurd (nI_le (a := 24) (b := d41) (by omega) (by omega)) k45
          | succ n41 ih =>
            intro d41 y6_41 y7_41 hd hg ls hl
            have hg : fX2_dotsOfPart v x1 x2 x3 x4 = (tX2_dotsOfPart_41 v x1 x2 x3 x4 y5_41 (lpF n41 (d41 + 1) (bX2_dotsOfPart_41 v x1 x2 x3 x4 y5_41) (bX2_dotsOfPart_41 v x1 x2 x3 x4 y5_41 d41 (y6_41, y7_41)))) := hg
            refine lv_iload hC.1 hC.2.1 dX2_dotsOfPart_41 (lv_at hl 7 rfl) ?_
            refine lv_bipush (v := 24) hC.1 hC.2.1 dX2_dotsOfPart_43 (by decide +kernel) ?_
            refine lv_icmp_ge (tgt := 101) hC.1 hC.2.1 dX2_dotsOfPart_45 (by decide) (fun k45 => ?_) (fun k45 => ?_)
            · exact absurd k45 (nI_ge (a := d41) (b := 24) (by omega) (by omega))
            · refine lv_iload_n hC.1 hC.2.1 dX2_dotsOfPart_48 rfl (lv_at hl 0 rfl) ?_
              refine lv_iload hC.1 hC.2.1 dX2_dotsOfPart_49 (lv_at hl 7 rfl) ?_
              refine runP (rSN (B := fun U H => True) (As := [.int x1, .int (nI d41)]) (rest := []) hC mwX5_bitOf (c_X5_bitOf l G x1 (nI d41)) wd_331 (nm_2 hKN) ⟨rfl, rfl⟩ ⟨Nat.le_of_ble_eq_true rfl, Nat.le_of_ble_eq_true rfl⟩ (fun _ _ _ _ h => h) hKN trivial rfl hl.1 rfl (Nat.le_of_ble_eq_true rfl) dX2_dotsOfPart_51 ⟨Nat.zero_le _, Nat.zero_le _⟩) ?_
              refine lv_iconst (v := 1) hC.1 hC.2.1 dX2_dotsOfPart_54 (by decide) ?_
              refine lv_icmp_ne (tgt := 95) hC.1 hC.2.1 dX2_dotsOfPart_55 (by decide) (fun k55 => ?_) (fun k55 => ?_)
              · refine lv_iinc (v := nI (d41 + 1)) (lv' := [(8, .int (nI (d41 + 1))), (1, .int x1), (2, .int x2), (3, .int x3), (4, .int x4), (5, .int y5_41), (6, .int y6_41), (7, .int y7_41)]) hC.1 hC.2.1 dX2_dotsOfPart_95 hl (k := 7) rfl (nI_1 _) (by decide) rfl (fun ls hl => ?_)
                refine lv_goto (tgt := 41) hC.1 hC.2.1 dX2_dotsOfPart_98 (by decide) ?_
                have e_3 : bX2_dotsOfPart_41 v x1 x2 x3 x4 y5_41 d41 (y6_41, y7_41) = (y6_41, y7_41) := by exact Eq.trans (if_neg k55) rfl
                have hg : fX2_dotsOfPart v x1 x2 x3 x4 = (tX2_dotsOfPart_41 v x1 x2 x3 x4 y5_41 (lpF n41 (d41 + 1) (bX2_dotsOfPart_41 v x1 x2 x3 x4 y5_41) (y6_41, y7_41))) := hg.trans (congrArg (fun z => (tX2_dotsOfPart_41 v x1 x2 x3 x4 y5_41 (lpF n41 (d41 + 1) (bX2_dotsOfPart_41 v x1 x2 x3 x4 y5_41) z))) e_3)
                exact ih (d41 + 1) y6_41 y7_41 (by omega) hg _ (lv_sub hl [1, 2, 3, 4, 5, 6, 7, 0] rfl)
              · refine lv_iload hC.1 hC.2.1 dX2_dotsOfPart_58 (lv_at hl 4 rfl) ?_
                have J75 : ∀ (y6_75 : Int32) (y7_75 : Int32) (z0_75 : Int32), fX2_dotsOfPart v x1 x2 x3 x4 = (tX2_dotsOfPart_41 v x1 x2 x3 x4 y5_41 (lpF n41 (d41 + 1) (bX2_dotsOfPart_41 v x1 x2 x3 x4 y5_41) (tX2_dotsOfPart_J75 v x1 x2 x3 x4 y5_41 d41 y6_75 y7_75 z0_75))) → ∀ (ls : Array Slot), lv_has ls 10 [(1, .int x1), (2, .int x2), (3, .int x3), (4, .int x4), (5, .int y5_41), (6, .int y6_75), (7, .int y7_75), (8, .int (nI d41))] → W p l e ({ frames := 1, cells := 0, slots := 0, locals := 21 }) s m ([.ref (q 0), .int x1, .int x2, .int x3, .int x4] : List Value).toArray below meth c s.heap [] 0 0 (MQ below (QP (.int (fX2_dotsOfPart v x1 x2 x3 x4))) ([.ref (q 0), .int x1, .int x2, .int x3, .int x4] : List Value).toArray s 0 0 (fun _ => False)) (F0 m 75 ls [.int z0_75]) := by
                  intro y6_75 y7_75 z0_75 hg ls hl
                  refine lv_istore (lv' := [(9, .int z0_75), (1, .int x1), (2, .int x2), (3, .int x3), (4, .int x4), (5, .int y5_41), (6, .int y6_75), (7, .int y7_75), (8, .int (nI d41))]) hC.1 hC.2.1 dX2_dotsOfPart_75 hl (by decide) rfl (fun ls hl => ?_)
                  refine lv_iload hC.1 hC.2.1 dX2_dotsOfPart_77 (lv_at hl 0 rfl) ?_
                  refine lv_iload_n hC.1 hC.2.1 dX2_dotsOfPart_79 rfl (lv_at hl 2 rfl) ?_
                  refine lv_icmp_ne (tgt := 92) hC.1 hC.2.1 dX2_dotsOfPart_80 (by decide) (fun k80 => ?_) (fun k80 => ?_)
                  · refine lv_iinc (v := y7_75 + 1) (lv' := [(7, .int (y7_75 + 1)), (9, .int z0_75), (1, .int x1), (2, .int x2), (3, .int x3), (4, .int x4), (5, .int y5_41), (6, .int y6_75), (8, .int (nI d41))]) hC.1 hC.2.1 dX2_dotsOfPart_92 hl (k := 7) rfl rfl (by decide) rfl (fun ls hl => ?_)
                    refine lv_iinc (v := nI (d41 + 1)) (lv' := [(8, .int (nI (d41 + 1))), (7, .int (y7_75 + 1)), (9, .int z0_75), (1, .int x1), (2, .int x2), (3, .int x3), (4, .int x4), (5, .int y5_41), (6, .int y6_75)]) hC.1 hC.2.1 dX2_dotsOfPart_95 hl (k := 8) rfl (nI_1 _) (by decide) rfl (fun ls hl => ?_)
                    refine lv_goto (tgt := 41) hC.1 hC.2.1 dX2_dotsOfPart_98 (by decide) ?_
                    have e_4 : tX2_dotsOfPart_J75 v x1 x2 x3 x4 y5_41 d41 y6_75 y7_75 z0_75 = (y6_75, y7_75 + 1) := by exact Eq.trans (if_neg k80) rfl
                    have hg : fX2_dotsOfPart v x1 x2 x3 x4 = (tX2_dotsOfPart_41 v x1 x2 x3 x4 y5_41 (lpF n41 (d41 + 1) (bX2_dotsOfPart_41 v x1 x2 x3 x4 y5_41) (y6_75, y7_75 + 1))) := hg.trans (congrArg (fun z => (tX2_dotsOfPart_41 v x1 x2 x3 x4 y5_41 (lpF n41 (d41 + 1) (bX2_dotsOfPart_41 v x1 x2 x3 x4 y5_41) z))) e_4)
                    exact ih (d41 + 1) y6_75 (y7_75 + 1) (by omega) hg _ (lv_sub hl [3, 4, 5, 6, 7, 8, 1, 0] rfl)
                  · refine lv_iload hC.1 hC.2.1 dX2_dotsOfPart_83 (lv_at hl 6 rfl) ?_
                    refine lv_iconst (v := 1) hC.1 hC.2.1 dX2_dotsOfPart_85 (by decide) ?_
                    refine lv_iload hC.1 hC.2.1 dX2_dotsOfPart_86 (lv_at hl 8 rfl) ?_
                    refine lv_ishl hC.1 hC.2.1 dX2_dotsOfPart_88 ?_
                    refine lv_ior hC.1 hC.2.1 dX2_dotsOfPart_89 ?_
                    refine lv_istore (lv' := [(6, .int (y6_75 ||| (1 <<< ((nI d41) &&& 31)))), (9, .int z0_75), (1, .int x1), (2, .int x2), (3, .int x3), (4, .int x4), (5, .int y5_41), (7, .int y7_75), (8, .int (nI d41))]) hC.1 hC.2.1 dX2_dotsOfPart_90 hl (by decide) rfl (fun ls hl => ?_)
                    refine lv_iinc (v := y7_75 + 1) (lv' := [(7, .int (y7_75 + 1)), (6, .int (y6_75 ||| (1 <<< ((nI d41) &&& 31)))), (9, .int z0_75), (1, .int x1), (2, .int x2), (3, .int x3), (4, .int x4), (5, .int y5_41), (8, .int (nI d41))]) hC.1 hC.2.1 dX2_dotsOfPart_92 hl (k := 7) rfl rfl (by decide) rfl (fun ls hl => ?_)
                    refine lv_iinc (v := nI (d41 + 1)) (lv' := [(8, .int (nI (d41 + 1))), (7, .int (y7_75 + 1)), (6, .int (y6_75 ||| (1 <<< ((nI d41) &&& 31)))), (9, .int z0_75), (1, .int x1), (2, .int x2), (3, .int x3), (4, .int x4), (5, .int y5_41)]) hC.1 hC.2.1 dX2_dotsOfPart_95 hl (k := 8) rfl (nI_1 _) (by decide) rfl (fun ls hl => ?_)
                    refine lv_goto (tgt := 41) hC.1 hC.2.1 dX2_dotsOfPart_98 (by decide) ?_
                    have e_5 : tX2_dotsOfPart_J75 v x1 x2 x3 x4 y5_41 d41 y6_75 y7_75 z0_75 = (y6_75 ||| (1 <<< ((nI d41) &&& 31)), y7_75 + 1) := by exact Eq.trans (if_pos k80) rfl
                    have hg : fX2_dotsOfPart v x1 x2 x3 x4 = (tX2_dotsOfPart_41 v x1 x2 x3 x4 y5_41 (lpF n41 (d41 + 1) (bX2_dotsOfPart_41 v x1 x2 x3 x4 y5_41) (y6_75 ||| (1 <<< ((nI d41) &&& 31)), y7_75 + 1))) := hg.trans (congrArg (fun z => (tX2_dotsOfPart_41 v x1 x2 x3 x4 y5_41 (lpF n41 (d41 + 1) (bX2_dotsOfPart_41 v x1 x2 x3 x4 y5_41) z))) e_5)
                    exact ih (d41 + 1) (y6_75 ||| (1 <<< ((nI d41) &&& 31))) (y7_75 + 1) (by omega) hg _ (lv_sub hl [4, 5, 6, 7, 8, 2, 1, 0] rfl)
                refine lv_if_eq (tgt := 70) hC.1 hC.2.1 dX2_dotsOfPart_60 (by decide) (fun k60 => ?_) (fun k60 => ?_)
                · refine lv_iload hC.1 hC.2.1 dX2_dotsOfPart_70 (lv_at hl 6 rfl) ?_
                  refine lv_iload hC.1 hC.2.1 dX2_dotsOfPart_72 (lv_at hl 3 rfl) ?_
                  refine lv_idiv hC.1 hC.2.1 dX2_dotsOfPart_74 (fun h => by rw [h] at k8; exact absurd k8 (by decide)) ?_
                  have e_6 : bX2_dotsOfPart_41 v x1 x2 x3 x4 y5_41 d41 (y6_41, y7_41) = tX2_dotsOfPart_J75 v x1 x2 x3 x4 y5_41 d41 y6_41 y7_41 (y7_41 / x4) := by exact Eq.trans (if_pos k55) (Eq.trans (if_pos k60) rfl)
                  have hg : fX2_dotsOfPart v x1 x2 x3 x4 = (tX2_dotsOfPart_41 v x1 x2 x3 x4 y5_41 (lpF n41 (d41 + 1) (bX2_dotsOfPart_41 v x1 x2 x3 x4 y5_41) (tX2_dotsOfPart_J75 v x1 x2 x3 x4 y5_41 d41 y6_41 y7_41 (y7_41 / x4)))) := hg.trans (congrArg (fun z => (tX2_dotsOfPart_41 v x1 x2 x3 x4 y5_41 (lpF n41 (d41 + 1) (bX2_dotsOfPart_41 v x1 x2 x3 x4 y5_41) z))) e_6)
                  exact J75 y6_41 y7_41 (y7_41 / x4) hg _ (lv_sub hl [0, 1, 2, 3, 4, 5, 6, 7] rfl)
                · refine lv_iload hC.1 hC.2.1 dX2_dotsOfPart_63 (lv_at hl 6 rfl) ?_
                  refine lv_iload_n hC.1 hC.2.1 dX2_dotsOfPart_65 rfl (lv_at hl 2 rfl) ?_
                  refine lv_irem hC.1 hC.2.1 dX2_dotsOfPart_66 (fun h => by rw [h] at k2; exact k2 (by decide)) ?_
                  refine lv_goto (tgt := 75) hC.1 hC.2.1 dX2_dotsOfPart_67 (by decide) ?_
                  have e_7 : bX2_dotsOfPart_41 v x1 x2 x3 x4 y5_41 d41 (y6_41, y7_41) = tX2_dotsOfPart_J75 v x1 x2 x3 x4 y5_41 d41 y6_41 y7_41 (y7_41 - y7_41 / x3 * x3) := by exact Eq.trans (if_pos k55) (Eq.trans (if_neg k60) rfl)
                  have hg : fX2_dotsOfPart v x1 x2 x3 x4 = (tX2_dotsOfPart_41 v x1 x2 x3 x4 y5_41 (lpF n41 (d41 + 1) (bX2_dotsOfPart_41 v x1 x2 x3 x4 y5_41) (tX2_dotsOfPart_J75 v x1 x2 x3 x4 y5_41 d41 y6_41 y7_41 (y7_41 - y7_41 / x3 * x3)))) := hg.trans (congrArg (fun z => (tX2_dotsOfPart_41 v x1 x2 x3 x4 y5_41 (lpF n41 (d41 + 1) (bX2_dotsOfPart_41 v x1 x2 x3 x4 y5_41) z))) e_7)
                  exact J75 y6_41 y7_41 (y7_41 - y7_41 / x3 * x3) hg _ (lv_sub hl [0, 1, 2, 3, 4, 5, 6, 7] rfl)
        have e_8 : tX2_dotsOfPart_J30 v x1 x2 x3 x4 z0_30 = tX2_dotsOfPart_41 v x1 x2 x3 x4 z0_30 (lpF 24 0 (bX2_dotsOfPart_41 v x1 x2 x3 x4 z0_30) (0, 0)) := by exact rfl
        have hg : fX2_dotsOfPart v x1 x2 x3 x4 = (tX2_dotsOfPart_41 v x1 x2 x3 x4 z0_30 (lpF 24 0 (bX2_dotsOfPart_41 v x1 x2 x3 x4 z0_30) (0, 0))) := hg.trans (congrArg (fun z => z) e_8)
        exact L41 z0_30 24 0 0 0 (by omega) hg _ (lv_sub hl [4, 5, 6, 7, 3, 2, 1, 0] rfl)
      refine lv_icmp_ne (tgt := 29) hC.1 hC.2.1 dX2_dotsOfPart_22 (by decide) (fun k22 => ?_) (fun k22 => ?_)
      · refine lv_iconst (v := 0) hC.1 hC.2.1 dX2_dotsOfPart_29 (by decide) ?_
        have e_9 : fX2_dotsOfPart v x1 x2 x3 x4 = tX2_dotsOfPart_J30 v x1 x2 x3 x4 0 := by exact Eq.trans (if_neg k2) (Eq.trans (if_pos k8) (Eq.trans (if_neg k22) rfl))
        have hg : fX2_dotsOfPart v x1 x2 x3 x4 = tX2_dotsOfPart_J30 v x1 x2 x3 x4 0 := hg.trans (congrArg (fun z => z) e_9)
        exact J30 0 hg _ (lv_sub hl [1, 2, 3, 4] rfl)
      · refine lv_iconst (v := 1) hC.1 hC.2.1 dX2_dotsOfPart_25 (by decide) ?_
        refine lv_goto (tgt := 30) hC.1 hC.2.1 dX2_dotsOfPart_26 (by decide) ?_
        have e_10 : fX2_dotsOfPart v x1 x2 x3 x4 = tX2_dotsOfPart_J30 v x1 x2 x3 x4 1 := by exact Eq.trans (if_neg k2) (Eq.trans (if_pos k8) (Eq.trans (if_pos k22) rfl))
        have hg : fX2_dotsOfPart v x1 x2 x3 x4 = tX2_dotsOfPart_J30 v x1 x2 x3 x4 1 := hg.trans (congrArg (fun z => z) e_10)
        exact J30 1 hg _ (lv_sub hl [1, 2, 3, 4] rfl)
    · refine lv_iconst (v := 0) hC.1 hC.2.1 dX2_dotsOfPart_11 (by decide) ?_
      have e_11 : fX2_dotsOfPart v x1 x2 x3 x4 = 0 := by exact Eq.trans (if_neg k2) (Eq.trans (if_neg k8) rfl)
      have hg : fX2_dotsOfPart v x1 x2 x3 x4 = 0 := hg.trans (congrArg (fun z => z) e_11)
      exact eP_i hC (congrArg Value.int hg) dX2_dotsOfPart_12

theorem dX2_waitOfPart_0 : decode cX2_waitOfPart 0 = .ok (.aload_n 0, 1) := by decide +kernel
theorem dX2_waitOfPart_1 : decode cX2_waitOfPart 1 = .ok (.getfield 21, 3) := by decide +kernel
theorem dX2_waitOfPart_4 : decode cX2_waitOfPart 4 = .ok (.iconst 2, 1) := by decide +kernel
theorem dX2_waitOfPart_5 : decode cX2_waitOfPart 5 = .ok (.invokestatic 59, 3) := by decide +kernel
theorem dX2_waitOfPart_8 : decode cX2_waitOfPart 8 = .ok (.istore_n 2, 1) := by decide +kernel
theorem dX2_waitOfPart_9 : decode cX2_waitOfPart 9 = .ok (.iconst 0, 1) := by decide +kernel
theorem dX2_waitOfPart_10 : decode cX2_waitOfPart 10 = .ok (.istore_n 3, 1) := by decide +kernel
theorem dX2_waitOfPart_11 : decode cX2_waitOfPart 11 = .ok (.iconst 0, 1) := by decide +kernel
theorem dX2_waitOfPart_12 : decode cX2_waitOfPart 12 = .ok (.istore 4, 2) := by decide +kernel
theorem dX2_waitOfPart_14 : decode cX2_waitOfPart 14 = .ok (.iload 4, 2) := by decide +kernel
theorem dX2_waitOfPart_16 : decode cX2_waitOfPart 16 = .ok (.bipush 24, 2) := by decide +kernel
theorem dX2_waitOfPart_18 : decode cX2_waitOfPart 18 = .ok (.if_icmp .ge 48, 3) := by decide +kernel
theorem dX2_waitOfPart_21 : decode cX2_waitOfPart 21 = .ok (.iload_n 1, 1) := by decide +kernel
theorem dX2_waitOfPart_22 : decode cX2_waitOfPart 22 = .ok (.iload 4, 2) := by decide +kernel
theorem dX2_waitOfPart_24 : decode cX2_waitOfPart 24 = .ok (.invokestatic 124, 3) := by decide +kernel
theorem dX2_waitOfPart_27 : decode cX2_waitOfPart 27 = .ok (.iconst 1, 1) := by decide +kernel
theorem dX2_waitOfPart_28 : decode cX2_waitOfPart 28 = .ok (.if_icmp .ne 32, 3) := by decide +kernel
theorem dX2_waitOfPart_31 : decode cX2_waitOfPart 31 = .ok (.iload_n 3, 1) := by decide +kernel
theorem dX2_waitOfPart_32 : decode cX2_waitOfPart 32 = .ok (.aload_n 0, 1) := by decide +kernel
theorem dX2_waitOfPart_33 : decode cX2_waitOfPart 33 = .ok (.aload_n 0, 1) := by decide +kernel
theorem dX2_waitOfPart_34 : decode cX2_waitOfPart 34 = .ok (.getfield 9, 3) := by decide +kernel
theorem dX2_waitOfPart_37 : decode cX2_waitOfPart 37 = .ok (.iload 4, 2) := by decide +kernel
theorem dX2_waitOfPart_39 : decode cX2_waitOfPart 39 = .ok (.invokestatic 59, 3) := by decide +kernel
theorem dX2_waitOfPart_42 : decode cX2_waitOfPart 42 = .ok (.iload_n 2, 1) := by decide +kernel
theorem dX2_waitOfPart_43 : decode cX2_waitOfPart 43 = .ok (.aload_n 0, 1) := by decide +kernel
theorem dX2_waitOfPart_44 : decode cX2_waitOfPart 44 = .ok (.getfield 15, 3) := by decide +kernel
theorem dX2_waitOfPart_47 : decode cX2_waitOfPart 47 = .ok (.iload 4, 2) := by decide +kernel
theorem dX2_waitOfPart_49 : decode cX2_waitOfPart 49 = .ok (.invokestatic 59, 3) := by decide +kernel
theorem dX2_waitOfPart_52 : decode cX2_waitOfPart 52 = .ok (.isub, 1) := by decide +kernel
theorem dX2_waitOfPart_53 : decode cX2_waitOfPart 53 = .ok (.invokevirtual 127, 3) := by decide +kernel
theorem dX2_waitOfPart_56 : decode cX2_waitOfPart 56 = .ok (.invokestatic 114, 3) := by decide +kernel
theorem dX2_waitOfPart_59 : decode cX2_waitOfPart 59 = .ok (.istore_n 3, 1) := by decide +kernel
theorem dX2_waitOfPart_60 : decode cX2_waitOfPart 60 = .ok (.iinc 4 1, 3) := by decide +kernel
theorem dX2_waitOfPart_63 : decode cX2_waitOfPart 63 = .ok (.goto (-49), 3) := by decide +kernel
theorem dX2_waitOfPart_66 : decode cX2_waitOfPart 66 = .ok (.iload_n 3, 1) := by decide +kernel
theorem dX2_waitOfPart_67 : decode cX2_waitOfPart 67 = .ok (.ireturn, 1) := by decide +kernel
set_option maxHeartbeats 1000000 in
set_option maxRecDepth 100000 in
theorem c_X2_waitOfPart (l : Launch) (G : GT) (q : Nat → Nat) (v : SV) (x1 : Int32) : Met l yX2_waitOfPart (Cond.code yX2_waitOfPart cX2_waitOfPart 5 (some .int) :: bigW) ({ frames := 2, cells := 0, slots := 0, locals := 47 }) (BP G [.ref (q 0), .int x1] (fun U H => PW G (stW G q v) H)) (QP (.int (fX2_waitOfPart v x1))) 0 0 (fun _ => False) := by
  refine met_of (by decide) (Nat.le_of_ble_eq_true rfl) ?_
  intro p e s m below meth c ls hC hKN hB0 hl
  have hP := hB0
  have hl : lv_has ls 5 [(0, .ref (q 0)), (1, .int x1)] := hl
  have hg : fX2_waitOfPart v x1 = fX2_waitOfPart v x1 := rfl
  refine lv_aload_n hC.1 hC.2.1 dX2_waitOfPart_0 rfl (lv_at hl 0 rfl) ?_
  refine gf (v := .ref (q 3)) hC fwX2 hKN hP 0 rfl rfl 2 (by decide) rfl wd_110 rfl dX2_waitOfPart_1 ?_
  refine lv_iconst (v := 2) hC.1 hC.2.1 dX2_waitOfPart_4 (by decide) ?_
  refine runP (rSN (B := fun U H => RD (q 3) 7 (v 2) U H) (As := [.ref (q 3), .int 2]) (rest := []) hC mwX5_at (c_X5_at l G (q 3) 7 (v 2) 2) wd_328 (nm_1 hKN) ⟨rfl, rfl⟩ ⟨Nat.le_of_ble_eq_true rfl, Nat.le_of_ble_eq_true rfl⟩ (stb_RD _ _ _) hKN (RD.ofP hKN hP 3 rfl) rfl hl.1 rfl (Nat.le_of_ble_eq_true rfl) dX2_waitOfPart_5 ⟨Nat.zero_le _, Nat.zero_le _⟩) ?_
  refine lv_istore_n (lv' := [(2, .int (fX5_at 7 (v 2) 2)), (0, .ref (q 0)), (1, .int x1)]) hC.1 hC.2.1 dX2_waitOfPart_8 rfl hl (by decide) rfl (fun ls hl => ?_)
  refine lv_iconst (v := 0) hC.1 hC.2.1 dX2_waitOfPart_9 (by decide) ?_
  refine lv_istore_n (lv' := [(3, .int 0), (2, .int (fX5_at 7 (v 2) 2)), (0, .ref (q 0)), (1, .int x1)]) hC.1 hC.2.1 dX2_waitOfPart_10 rfl hl (by decide) rfl (fun ls hl => ?_)
  refine lv_iconst (v := 0) hC.1 hC.2.1 dX2_waitOfPart_11 (by decide) ?_
  refine lv_istore (lv' := [(4, .int 0), (3, .int 0), (2, .int (fX5_at 7 (v 2) 2)), (0, .ref (q 0)), (1, .int x1)]) hC.1 hC.2.1 dX2_waitOfPart_12 hl (by decide) rfl (fun ls hl => ?_)
  have A14 : ∀ (y2_14 : Int32), ∀ (y3_14 : Int32), fX2_waitOfPart v x1 = (tX2_waitOfPart_14 v x1 y2_14 y3_14) → ∀ (ls : Array Slot), lv_has ls 5 [(3, .int y3_14)] → W p l e ({ frames := 2, cells := 0, slots := 0, locals := 47 }) s m ([.ref (q 0), .int x1] : List Value).toArray below meth c s.heap [] 0 0 (MQ below (QP (.int (fX2_waitOfPart v x1))) ([.ref (q 0), .int x1] : List Value).toArray s 0 0 (fun _ => False)) (F0 m 66 ls []) := by
    intro y2_14 y3_14 hg ls hl
    refine lv_iload_n hC.1 hC.2.1 dX2_waitOfPart_66 rfl (lv_at hl 0 rfl) ?_
    have e_1 : tX2_waitOfPart_14 v x1 y2_14 y3_14 = y3_14 := by exact rfl
    have hg : fX2_waitOfPart v x1 = y3_14 := hg.trans (congrArg (fun z => z) e_1)
    exact eP_i hC (congrArg Value.int hg) dX2_waitOfPart_67
  have L14 : ∀ (y2_14 : Int32), ∀ (n14 d14 : Nat), ∀ (y3_14 : Int32), d14 + n14 = 24 → fX2_waitOfPart v x1 = (tX2_waitOfPart_14 v x1 y2_14 (lpF n14 d14 (bX2_waitOfPart_14 v x1 y2_14) y3_14)) → ∀ (ls : Array Slot), lv_has ls 5 [(0, .ref (q 0)), (1, .int x1), (2, .int y2_14), (3, .int y3_14), (4, .int (nI d14))] → W p l e ({ frames := 2, cells := 0, slots := 0, locals := 47 }) s m ([.ref (q 0), .int x1] : List Value).toArray below meth c s.heap [] 0 0 (MQ below (QP (.int (fX2_waitOfPart v x1))) ([.ref (q 0), .int x1] : List Value).toArray s 0 0 (fun _ => False)) (F0 m 14 ls []) := by
    intro y2_14
    intro n14
    induction n14 with
    | zero =>
      intro d14 y3_14 hd hg ls hl
      refine lv_iload hC.1 hC.2.1 dX2_waitOfPart_14 (lv_at hl 4 rfl) ?_
      refine lv_bipush (v := 24) hC.1 hC.2.1 dX2_waitOfPart_16 (by decide +kernel) ?_
      refine lv_icmp_ge (tgt := 66) hC.1 hC.2.1 dX2_waitOfPart_18 (by decide) (fun k18 => ?_) (fun k18 => ?_)
      · exact A14 y2_14 y3_14 hg _ (lv_sub hl [3] rfl)
      · exact absurd (nI_le (a := 24) (b := d14) (by omega) (by omega)) k18
    | succ n14 ih =>
      intro d14 y3_14 hd hg ls hl
      have hg : fX2_waitOfPart v x1 = (tX2_waitOfPart_14 v x1 y2_14 (lpF n14 (d14 + 1) (bX2_waitOfPart_14 v x1 y2_14) (bX2_waitOfPart_14 v x1 y2_14 d14 y3_14))) := hg
      refine lv_iload hC.1 hC.2.1 dX2_waitOfPart_14 (lv_at hl 4 rfl) ?_
      refine lv_bipush (v := 24) hC.1 hC.2.1 dX2_waitOfPart_16 (by decide +kernel) ?_
      refine lv_icmp_ge (tgt := 66) hC.1 hC.2.1 dX2_waitOfPart_18 (by decide) (fun k18 => ?_) (fun k18 => ?_)
      · exact absurd k18 (nI_ge (a := d14) (b := 24) (by omega) (by omega))
      · refine lv_iload_n hC.1 hC.2.1 dX2_waitOfPart_21 rfl (lv_at hl 1 rfl) ?_
        refine lv_iload hC.1 hC.2.1 dX2_waitOfPart_22 (lv_at hl 4 rfl) ?_
        refine runP (rSN (B := fun U H => True) (As := [.int x1, .int (nI d14)]) (rest := []) hC mwX5_bitOf (c_X5_bitOf l G x1 (nI d14)) wd_331 (nm_2 hKN) ⟨rfl, rfl⟩ ⟨Nat.le_of_ble_eq_true rfl, Nat.le_of_ble_eq_true rfl⟩ (fun _ _ _ _ h => h) hKN trivial rfl hl.1 rfl (Nat.le_of_ble_eq_true rfl) dX2_waitOfPart_24 ⟨Nat.zero_le _, Nat.zero_le _⟩) ?_
        refine lv_iconst (v := 1) hC.1 hC.2.1 dX2_waitOfPart_27 (by decide) ?_
        refine lv_icmp_ne (tgt := 60) hC.1 hC.2.1 dX2_waitOfPart_28 (by decide) (fun k28 => ?_) (fun k28 => ?_)
        · refine lv_iinc (v := nI (d14 + 1)) (lv' := [(4, .int (nI (d14 + 1))), (0, .ref (q 0)), (1, .int x1), (2, .int y2_14), (3, .int y3_14)]) hC.1 hC.2.1 dX2_waitOfPart_60 hl (k := 4) rfl (nI_1 _) (by decide) rfl (fun ls hl => ?_)
          refine lv_goto (tgt := 14) hC.1 hC.2.1 dX2_waitOfPart_63 (by decide) ?_
          have e_2 : bX2_waitOfPart_14 v x1 y2_14 d14 y3_14 = y3_14 := by exact Eq.trans (if_neg k28) rfl
          have hg : fX2_waitOfPart v x1 = (tX2_waitOfPart_14 v x1 y2_14 (lpF n14 (d14 + 1) (bX2_waitOfPart_14 v x1 y2_14) y3_14)) := hg.trans (congrArg (fun z => (tX2_waitOfPart_14 v x1 y2_14 (lpF n14 (d14 + 1) (bX2_waitOfPart_14 v x1 y2_14) z))) e_2)
          exact ih (d14 + 1) y3_14 (by omega) hg _ (lv_sub hl [1, 2, 3, 4, 0] rfl)
        · refine lv_iload_n hC.1 hC.2.1 dX2_waitOfPart_31 rfl (lv_at hl 3 rfl) ?_
          refine lv_aload_n hC.1 hC.2.1 dX2_waitOfPart_32 rfl (lv_at hl 0 rfl) ?_
          refine lv_aload_n hC.1 hC.2.1 dX2_waitOfPart_33 rfl (lv_at hl 0 rfl) ?_
          refine gf (v := .ref (q 1)) hC fwX2 hKN hP 0 rfl rfl 0 (by decide) rfl wd_108 rfl dX2_waitOfPart_34 ?_
          refine lv_iload hC.1 hC.2.1 dX2_waitOfPart_37 (lv_at hl 4 rfl) ?_
          refine runP (rSN (B := fun U H => RD (q 1) 24 (v 0) U H) (As := [.ref (q 1), .int (nI d14)]) (rest := [.ref (q 0), .int y3_14]) hC mwX5_at (c_X5_at l G (q 1) 24 (v 0) (nI d14)) wd_328 (nm_1 hKN) ⟨rfl, rfl⟩ ⟨Nat.le_of_ble_eq_true rfl, Nat.le_of_ble_eq_true rfl⟩ (stb_RD _ _ _) hKN (RD.ofP hKN hP 1 rfl) rfl hl.1 rfl (Nat.le_of_ble_eq_true rfl) dX2_waitOfPart_39 ⟨Nat.zero_le _, Nat.zero_le _⟩) ?_
          refine lv_iload_n hC.1 hC.2.1 dX2_waitOfPart_42 rfl (lv_at hl 2 rfl) ?_
          refine lv_aload_n hC.1 hC.2.1 dX2_waitOfPart_43 rfl (lv_at hl 0 rfl) ?_
          refine gf (v := .ref (q 2)) hC fwX2 hKN hP 0 rfl rfl 1 (by decide) rfl wd_109 rfl dX2_waitOfPart_44 ?_
          refine lv_iload hC.1 hC.2.1 dX2_waitOfPart_47 (lv_at hl 4 rfl) ?_
          refine runP (rSN (B := fun U H => RD (q 2) 24 (v 1) U H) (As := [.ref (q 2), .int (nI d14)]) (rest := [.int y2_14, .int (fX5_at 24 (v 0) (nI d14)), .ref (q 0), .int y3_14]) hC mwX5_at (c_X5_at l G (q 2) 24 (v 1) (nI d14)) wd_328 (nm_1 hKN) ⟨rfl, rfl⟩ ⟨Nat.le_of_ble_eq_true rfl, Nat.le_of_ble_eq_true rfl⟩ (stb_RD _ _ _) hKN (RD.ofP hKN hP 2 rfl) rfl hl.1 rfl (Nat.le_of_ble_eq_true rfl) dX2_waitOfPart_49 ⟨Nat.zero_le _, Nat.zero_le _⟩) ?_
          refine lv_isub hC.1 hC.2.1 dX2_waitOfPart_52 ?_
          refine runP (rV (B := fun U H => PW G (stW G q v) H) (As := [.int (fX5_at 24 (v 0) (nI d14)), .int (y2_14 - (fX5_at 24 (v 1) (nI d14)))]) (rest := [.int y3_14]) hC mwX2_timeDownTo (c_X2_timeDownTo l G q v (fX5_at 24 (v 0) (nI d14)) (y2_14 - (fX5_at 24 (v 1) (nI d14)))) iwX2_timeDownTo wd_350 ⟨rfl, rfl⟩ ⟨Nat.le_of_ble_eq_true rfl, Nat.le_of_ble_eq_true rfl⟩ (stb_h (fun H => PW G (stW G q v) H)) hKN hP (va_recv hKN.k hP (ci := 2) (q0 := 0) rfl rfl) rfl hl.1 rfl (Nat.le_of_ble_eq_true rfl) dX2_waitOfPart_53 ⟨Nat.zero_le _, Nat.zero_le _⟩) ?_
          refine va_mmax hC.1 hC.2.1 (hC.2.2.2.1.trans hl.1.symm) hC.2.2.2.2.1 (hC.2.2.2.2.2.2.1 _ wd_343) (hC.2.2.2.2.2.2.1 _ wd_344) (hC.2.2.2.2.2.2.1 _ wd_3) (hC.2.2.2.2.2.2.1 _ wd_345) (Nat.le_of_ble_eq_true rfl) (Nat.le_of_ble_eq_true rfl) (Nat.zero_le _) (Nat.zero_le _) dX2_waitOfPart_56 ?_
          refine lv_istore_n (lv' := [(3, .int (if y3_14 < (fX2_timeDownTo v (fX5_at 24 (v 0) (nI d14)) (y2_14 - (fX5_at 24 (v 1) (nI d14)))) then (fX2_timeDownTo v (fX5_at 24 (v 0) (nI d14)) (y2_14 - (fX5_at 24 (v 1) (nI d14)))) else y3_14)), (0, .ref (q 0)), (1, .int x1), (2, .int y2_14), (4, .int (nI d14))]) hC.1 hC.2.1 dX2_waitOfPart_59 rfl hl (by decide) rfl (fun ls hl => ?_)
          refine lv_iinc (v := nI (d14 + 1)) (lv' := [(4, .int (nI (d14 + 1))), (3, .int (if y3_14 < (fX2_timeDownTo v (fX5_at 24 (v 0) (nI d14)) (y2_14 - (fX5_at 24 (v 1) (nI d14)))) then (fX2_timeDownTo v (fX5_at 24 (v 0) (nI d14)) (y2_14 - (fX5_at 24 (v 1) (nI d14)))) else y3_14)), (0, .ref (q 0)), (1, .int x1), (2, .int y2_14)]) hC.1 hC.2.1 dX2_waitOfPart_60 hl (k := 4) rfl (nI_1 _) (by decide) rfl (fun ls hl => ?_)
          refine lv_goto (tgt := 14) hC.1 hC.2.1 dX2_waitOfPart_63 (by decide) ?_
          have e_3 : bX2_waitOfPart_14 v x1 y2_14 d14 y3_14 = (if y3_14 < (fX2_timeDownTo v (fX5_at 24 (v 0) (nI d14)) (y2_14 - (fX5_at 24 (v 1) (nI d14)))) then (fX2_timeDownTo v (fX5_at 24 (v 0) (nI d14)) (y2_14 - (fX5_at 24 (v 1) (nI d14)))) else y3_14) := by exact Eq.trans (if_pos k28) rfl
          have hg : fX2_waitOfPart v x1 = (tX2_waitOfPart_14 v x1 y2_14 (lpF n14 (d14 + 1) (bX2_waitOfPart_14 v x1 y2_14) (if y3_14 < (fX2_timeDownTo v (fX5_at 24 (v 0) (nI d14)) (y2_14 - (fX5_at 24 (v 1) (nI d14)))) then (fX2_timeDownTo v (fX5_at 24 (v 0) (nI d14)) (y2_14 - (fX5_at 24 (v 1) (nI d14)))) else y3_14))) := hg.trans (congrArg (fun z => (tX2_waitOfPart_14 v x1 y2_14 (lpF n14 (d14 + 1) (bX2_waitOfPart_14 v x1 y2_14) z))) e_3)
          exact ih (d14 + 1) (if y3_14 < (fX2_timeDownTo v (fX5_at 24 (v 0) (nI d14)) (y2_14 - (fX5_at 24 (v 1) (nI d14)))) then (fX2_timeDownTo v (fX5_at 24 (v 0) (nI d14)) (y2_14 - (fX5_at 24 (v 1) (nI d14)))) else y3_14) (by omega) hg _ (lv_sub hl [2, 3, 4, 1, 0] rfl)
  have e_4 : fX2_waitOfPart v x1 = tX2_waitOfPart_14 v x1 (fX5_at 7 (v 2) 2) (lpF 24 0 (bX2_waitOfPart_14 v x1 (fX5_at 7 (v 2) 2)) 0) := by exact rfl
  have hg : fX2_waitOfPart v x1 = (tX2_waitOfPart_14 v x1 (fX5_at 7 (v 2) 2) (lpF 24 0 (bX2_waitOfPart_14 v x1 (fX5_at 7 (v 2) 2)) 0)) := hg.trans (congrArg (fun z => z) e_4)
  exact L14 (fX5_at 7 (v 2) 2) 24 0 0 (by omega) hg _ (lv_sub hl [3, 4, 2, 1, 0] rfl)

theorem dX2_longestPulse_0 : decode cX2_longestPulse 0 = .ok (.iconst 0, 1) := by decide +kernel
theorem dX2_longestPulse_1 : decode cX2_longestPulse 1 = .ok (.istore_n 2, 1) := by decide +kernel
theorem dX2_longestPulse_2 : decode cX2_longestPulse 2 = .ok (.iconst 0, 1) := by decide +kernel
theorem dX2_longestPulse_3 : decode cX2_longestPulse 3 = .ok (.istore_n 3, 1) := by decide +kernel
theorem dX2_longestPulse_4 : decode cX2_longestPulse 4 = .ok (.iload_n 3, 1) := by decide +kernel
theorem dX2_longestPulse_5 : decode cX2_longestPulse 5 = .ok (.aload_n 0, 1) := by decide +kernel
theorem dX2_longestPulse_6 : decode cX2_longestPulse 6 = .ok (.getfield 15, 3) := by decide +kernel
theorem dX2_longestPulse_9 : decode cX2_longestPulse 9 = .ok (.arraylength, 1) := by decide +kernel
theorem dX2_longestPulse_10 : decode cX2_longestPulse 10 = .ok (.if_icmp .ge 29, 3) := by decide +kernel
theorem dX2_longestPulse_13 : decode cX2_longestPulse 13 = .ok (.iload_n 1, 1) := by decide +kernel
theorem dX2_longestPulse_14 : decode cX2_longestPulse 14 = .ok (.iload_n 3, 1) := by decide +kernel
theorem dX2_longestPulse_15 : decode cX2_longestPulse 15 = .ok (.invokestatic 124, 3) := by decide +kernel
theorem dX2_longestPulse_18 : decode cX2_longestPulse 18 = .ok (.iconst 1, 1) := by decide +kernel
theorem dX2_longestPulse_19 : decode cX2_longestPulse 19 = .ok (.if_icmp .ne 14, 3) := by decide +kernel
theorem dX2_longestPulse_22 : decode cX2_longestPulse 22 = .ok (.iload_n 2, 1) := by decide +kernel
theorem dX2_longestPulse_23 : decode cX2_longestPulse 23 = .ok (.aload_n 0, 1) := by decide +kernel
theorem dX2_longestPulse_24 : decode cX2_longestPulse 24 = .ok (.getfield 15, 3) := by decide +kernel
theorem dX2_longestPulse_27 : decode cX2_longestPulse 27 = .ok (.iload_n 3, 1) := by decide +kernel
theorem dX2_longestPulse_28 : decode cX2_longestPulse 28 = .ok (.iaload, 1) := by decide +kernel
theorem dX2_longestPulse_29 : decode cX2_longestPulse 29 = .ok (.invokestatic 114, 3) := by decide +kernel
theorem dX2_longestPulse_32 : decode cX2_longestPulse 32 = .ok (.istore_n 2, 1) := by decide +kernel
theorem dX2_longestPulse_33 : decode cX2_longestPulse 33 = .ok (.iinc 3 1, 3) := by decide +kernel
theorem dX2_longestPulse_36 : decode cX2_longestPulse 36 = .ok (.goto (-32), 3) := by decide +kernel
theorem dX2_longestPulse_39 : decode cX2_longestPulse 39 = .ok (.iload_n 2, 1) := by decide +kernel
theorem dX2_longestPulse_40 : decode cX2_longestPulse 40 = .ok (.ireturn, 1) := by decide +kernel
set_option maxHeartbeats 1000000 in
set_option maxRecDepth 100000 in
theorem c_X2_longestPulse (l : Launch) (G : GT) (q : Nat → Nat) (v : SV) (x1 : Int32) : Met l yX2_longestPulse (Cond.code yX2_longestPulse cX2_longestPulse 4 (some .int) :: bigW) ({ frames := 1, cells := 0, slots := 0, locals := 24 }) (BP G [.ref (q 0), .int x1] (fun U H => PW G (stW G q v) H)) (QP (.int (fX2_longestPulse v x1))) 0 0 (fun _ => False) := by
  refine met_of (by decide) (Nat.le_of_ble_eq_true rfl) ?_
  intro p e s m below meth c ls hC hKN hB0 hl
  have hP := hB0
  have hl : lv_has ls 4 [(0, .ref (q 0)), (1, .int x1)] := hl
  have hg : fX2_longestPulse v x1 = fX2_longestPulse v x1 := rfl
  refine lv_iconst (v := 0) hC.1 hC.2.1 dX2_longestPulse_0 (by decide) ?_
  refine lv_istore_n (lv' := [(2, .int 0), (0, .ref (q 0)), (1, .int x1)]) hC.1 hC.2.1 dX2_longestPulse_1 rfl hl (by decide) rfl (fun ls hl => ?_)
  refine lv_iconst (v := 0) hC.1 hC.2.1 dX2_longestPulse_2 (by decide) ?_
  refine lv_istore_n (lv' := [(3, .int 0), (2, .int 0), (0, .ref (q 0)), (1, .int x1)]) hC.1 hC.2.1 dX2_longestPulse_3 rfl hl (by decide) rfl (fun ls hl => ?_)
  have A4 : ∀ (y2_4 : Int32), fX2_longestPulse v x1 = (tX2_longestPulse_4 v x1 y2_4) → ∀ (ls : Array Slot), lv_has ls 4 [(2, .int y2_4)] → W p l e ({ frames := 1, cells := 0, slots := 0, locals := 24 }) s m ([.ref (q 0), .int x1] : List Value).toArray below meth c s.heap [] 0 0 (MQ below (QP (.int (fX2_longestPulse v x1))) ([.ref (q 0), .int x1] : List Value).toArray s 0 0 (fun _ => False)) (F0 m 39 ls []) := by
    intro  y2_4 hg ls hl
    refine lv_iload_n hC.1 hC.2.1 dX2_longestPulse_39 rfl (lv_at hl 0 rfl) ?_
    have e_1 : tX2_longestPulse_4 v x1 y2_4 = y2_4 := by exact rfl
    have hg : fX2_longestPulse v x1 = y2_4 := hg.trans (congrArg (fun z => z) e_1)
    exact eP_i hC (congrArg Value.int hg) dX2_longestPulse_40
  have L4 : ∀ (n4 d4 : Nat), ∀ (y2_4 : Int32), d4 + n4 = 24 → fX2_longestPulse v x1 = (tX2_longestPulse_4 v x1 (lpF n4 d4 (bX2_longestPulse_4 v x1) y2_4)) → ∀ (ls : Array Slot), lv_has ls 4 [(0, .ref (q 0)), (1, .int x1), (2, .int y2_4), (3, .int (nI d4))] → W p l e ({ frames := 1, cells := 0, slots := 0, locals := 24 }) s m ([.ref (q 0), .int x1] : List Value).toArray below meth c s.heap [] 0 0 (MQ below (QP (.int (fX2_longestPulse v x1))) ([.ref (q 0), .int x1] : List Value).toArray s 0 0 (fun _ => False)) (F0 m 4 ls []) := by
    intro n4
    induction n4 with
    | zero =>
      intro d4 y2_4 hd hg ls hl
      refine lv_iload_n hC.1 hC.2.1 dX2_longestPulse_4 rfl (lv_at hl 3 rfl) ?_
      refine lv_aload_n hC.1 hC.2.1 dX2_longestPulse_5 rfl (lv_at hl 0 rfl) ?_
      refine gf (v := .ref (q 2)) hC fwX2 hKN hP 0 rfl rfl 1 (by decide) rfl wd_109 rfl dX2_longestPulse_6 ?_
      refine alen_n hC hKN hP 2 rfl dX2_longestPulse_9 ?_
      refine lv_icmp_ge (tgt := 39) hC.1 hC.2.1 dX2_longestPulse_10 (by decide) (fun k10 => ?_) (fun k10 => ?_)
      · exact A4  y2_4 hg _ (lv_sub hl [2] rfl)
      · exact absurd (nI_le (a := 24) (b := d4) (by omega) (by omega)) k10
    | succ n4 ih =>
      intro d4 y2_4 hd hg ls hl
      have hg : fX2_longestPulse v x1 = (tX2_longestPulse_4 v x1 (lpF n4 (d4 + 1) (bX2_longestPulse_4 v x1) (bX2_longestPulse_4 v x1 d4 y2_4))) := hg
      refine lv_iload_n hC.1 hC.2.1 dX2_longestPulse_4 rfl (lv_at hl 3 rfl) ?_
      refine lv_aload_n hC.1 hC.2.1 dX2_longestPulse_5 rfl (lv_at hl 0 rfl) ?_
      refine gf (v := .ref (q 2)) hC fwX2 hKN hP 0 rfl rfl 1 (by decide) rfl wd_109 rfl dX2_longestPulse_6 ?_
      refine alen_n hC hKN hP 2 rfl dX2_longestPulse_9 ?_
      refine lv_icmp_ge (tgt := 39) hC.1 hC.2.1 dX2_longestPulse_10 (by decide) (fun k10 => ?_) (fun k10 => ?_)
      · exact absurd k10 (nI_ge (a := d4) (b := 24) (by omega) (by omega))
      · refine lv_iload_n hC.1 hC.2.1 dX2_longestPulse_13 rfl (lv_at hl 1 rfl) ?_
        refine lv_iload_n hC.1 hC.2.1 dX2_longestPulse_14 rfl (lv_at hl 3 rfl) ?_
        refine runP (rSN (B := fun U H => True) (As := [.int x1, .int (nI d4)]) (rest := []) hC mwX5_bitOf (c_X5_bitOf l G x1 (nI d4)) wd_331 (nm_2 hKN) ⟨rfl, rfl⟩ ⟨Nat.le_of_ble_eq_true rfl, Nat.le_of_ble_eq_true rfl⟩ (fun _ _ _ _ h => h) hKN trivial rfl hl.1 rfl (Nat.le_of_ble_eq_true rfl) dX2_longestPulse_15 ⟨Nat.zero_le _, Nat.zero_le _⟩) ?_
        refine lv_iconst (v := 1) hC.1 hC.2.1 dX2_longestPulse_18 (by decide) ?_
        refine lv_icmp_ne (tgt := 33) hC.1 hC.2.1 dX2_longestPulse_19 (by decide) (fun k19 => ?_) (fun k19 => ?_)
        · refine lv_iinc (v := nI (d4 + 1)) (lv' := [(3, .int (nI (d4 + 1))), (0, .ref (q 0)), (1, .int x1), (2, .int y2_4)]) hC.1 hC.2.1 dX2_longestPulse_33 hl (k := 3) rfl (nI_1 _) (by decide) rfl (fun ls hl => ?_)
          refine lv_goto (tgt := 4) hC.1 hC.2.1 dX2_longestPulse_36 (by decide) ?_
          have e_2 : bX2_longestPulse_4 v x1 d4 y2_4 = y2_4 := by exact Eq.trans (if_neg k19) rfl
          have hg : fX2_longestPulse v x1 = (tX2_longestPulse_4 v x1 (lpF n4 (d4 + 1) (bX2_longestPulse_4 v x1) y2_4)) := hg.trans (congrArg (fun z => (tX2_longestPulse_4 v x1 (lpF n4 (d4 + 1) (bX2_longestPulse_4 v x1) z))) e_2)
          exact ih (d4 + 1) y2_4 (by omega) hg _ (lv_sub hl [1, 2, 3, 0] rfl)
        · refine lv_iload_n hC.1 hC.2.1 dX2_longestPulse_22 rfl (lv_at hl 2 rfl) ?_
          refine lv_aload_n hC.1 hC.2.1 dX2_longestPulse_23 rfl (lv_at hl 0 rfl) ?_
          refine gf (v := .ref (q 2)) hC fwX2 hKN hP 0 rfl rfl 1 (by decide) rfl wd_109 rfl dX2_longestPulse_24 ?_
          refine lv_iload_n hC.1 hC.2.1 dX2_longestPulse_27 rfl (lv_at hl 3 rfl) ?_
          refine iald_k hC hKN hP 2 rfl (n := 24) (f := (v 1)) d4 (rfl) (by omega) (by first | decide | omega) dX2_longestPulse_28 ?_
          refine va_mmax hC.1 hC.2.1 (hC.2.2.2.1.trans hl.1.symm) hC.2.2.2.2.1 (hC.2.2.2.2.2.2.1 _ wd_343) (hC.2.2.2.2.2.2.1 _ wd_344) (hC.2.2.2.2.2.2.1 _ wd_3) (hC.2.2.2.2.2.2.1 _ wd_345) (Nat.le_of_ble_eq_true rfl) (Nat.le_of_ble_eq_true rfl) (Nat.zero_le _) (Nat.zero_le _) dX2_longestPulse_29 ?_
          refine lv_istore_n (lv' := [(2, .int (if y2_4 < ((v 1) d4) then ((v 1) d4) else y2_4)), (0, .ref (q 0)), (1, .int x1), (3, .int (nI d4))]) hC.1 hC.2.1 dX2_longestPulse_32 rfl hl (by decide) rfl (fun ls hl => ?_)
          refine lv_iinc (v := nI (d4 + 1)) (lv' := [(3, .int (nI (d4 + 1))), (2, .int (if y2_4 < ((v 1) d4) then ((v 1) d4) else y2_4)), (0, .ref (q 0)), (1, .int x1)]) hC.1 hC.2.1 dX2_longestPulse_33 hl (k := 3) rfl (nI_1 _) (by decide) rfl (fun ls hl => ?_)
          refine lv_goto (tgt := 4) hC.1 hC.2.1 dX2_longestPulse_36 (by decide) ?_
          have e_3 : bX2_longestPulse_4 v x1 d4 y2_4 = (if y2_4 < ((v 1) d4) then ((v 1) d4) else y2_4) := by exact Eq.trans (if_pos k19) rfl
          have hg : fX2_longestPulse v x1 = (tX2_longestPulse_4 v x1 (lpF n4 (d4 + 1) (bX2_longestPulse_4 v x1) (if y2_4 < ((v 1) d4) then ((v 1) d4) else y2_4))) := hg.trans (congrArg (fun z => (tX2_longestPulse_4 v x1 (lpF n4 (d4 + 1) (bX2_longestPulse_4 v x1) z))) e_3)
          exact ih (d4 + 1) (if y2_4 < ((v 1) d4) then ((v 1) d4) else y2_4) (by omega) hg _ (lv_sub hl [2, 3, 1, 0] rfl)
  have e_4 : fX2_longestPulse v x1 = tX2_longestPulse_4 v x1 (lpF 24 0 (bX2_longestPulse_4 v x1) 0) := by exact rfl
  have hg : fX2_longestPulse v x1 = (tX2_longestPulse_4 v x1 (lpF 24 0 (bX2_longestPulse_4 v x1) 0)) := hg.trans (congrArg (fun z => z) e_4)
  exact L4  24 0 0 (by omega) hg _ (lv_sub hl [2, 3, 1, 0] rfl)

theorem dX2_numberOfDot_0 : decode cX2_numberOfDot 0 = .ok (.iload_n 2, 1) := by decide +kernel
theorem dX2_numberOfDot_1 : decode cX2_numberOfDot 1 = .ok (.tableswitch 104 0 5 #[39, 48, 57, 66, 78, 90], 39) := by decide +kernel
theorem dX2_numberOfDot_40 : decode cX2_numberOfDot 40 = .ok (.aload_n 0, 1) := by decide +kernel
theorem dX2_numberOfDot_41 : decode cX2_numberOfDot 41 = .ok (.getfield 9, 3) := by decide +kernel
theorem dX2_numberOfDot_44 : decode cX2_numberOfDot 44 = .ok (.iload_n 1, 1) := by decide +kernel
theorem dX2_numberOfDot_45 : decode cX2_numberOfDot 45 = .ok (.invokestatic 59, 3) := by decide +kernel
theorem dX2_numberOfDot_48 : decode cX2_numberOfDot 48 = .ok (.ireturn, 1) := by decide +kernel
theorem dX2_numberOfDot_49 : decode cX2_numberOfDot 49 = .ok (.aload_n 0, 1) := by decide +kernel
theorem dX2_numberOfDot_50 : decode cX2_numberOfDot 50 = .ok (.getfield 42, 3) := by decide +kernel
theorem dX2_numberOfDot_53 : decode cX2_numberOfDot 53 = .ok (.iload_n 1, 1) := by decide +kernel
theorem dX2_numberOfDot_54 : decode cX2_numberOfDot 54 = .ok (.invokestatic 124, 3) := by decide +kernel
theorem dX2_numberOfDot_57 : decode cX2_numberOfDot 57 = .ok (.ireturn, 1) := by decide +kernel
theorem dX2_numberOfDot_58 : decode cX2_numberOfDot 58 = .ok (.aload_n 0, 1) := by decide +kernel
theorem dX2_numberOfDot_59 : decode cX2_numberOfDot 59 = .ok (.getfield 46, 3) := by decide +kernel
theorem dX2_numberOfDot_62 : decode cX2_numberOfDot 62 = .ok (.iload_n 1, 1) := by decide +kernel
theorem dX2_numberOfDot_63 : decode cX2_numberOfDot 63 = .ok (.invokestatic 124, 3) := by decide +kernel
theorem dX2_numberOfDot_66 : decode cX2_numberOfDot 66 = .ok (.ireturn, 1) := by decide +kernel
theorem dX2_numberOfDot_67 : decode cX2_numberOfDot 67 = .ok (.aload_n 0, 1) := by decide +kernel
theorem dX2_numberOfDot_68 : decode cX2_numberOfDot 68 = .ok (.getfield 38, 3) := by decide +kernel
theorem dX2_numberOfDot_71 : decode cX2_numberOfDot 71 = .ok (.getfield 166, 3) := by decide +kernel
theorem dX2_numberOfDot_74 : decode cX2_numberOfDot 74 = .ok (.iload_n 1, 1) := by decide +kernel
theorem dX2_numberOfDot_75 : decode cX2_numberOfDot 75 = .ok (.invokestatic 59, 3) := by decide +kernel
theorem dX2_numberOfDot_78 : decode cX2_numberOfDot 78 = .ok (.ireturn, 1) := by decide +kernel
theorem dX2_numberOfDot_79 : decode cX2_numberOfDot 79 = .ok (.aload_n 0, 1) := by decide +kernel
theorem dX2_numberOfDot_80 : decode cX2_numberOfDot 80 = .ok (.getfield 38, 3) := by decide +kernel
theorem dX2_numberOfDot_83 : decode cX2_numberOfDot 83 = .ok (.getfield 169, 3) := by decide +kernel
theorem dX2_numberOfDot_86 : decode cX2_numberOfDot 86 = .ok (.iload_n 1, 1) := by decide +kernel
theorem dX2_numberOfDot_87 : decode cX2_numberOfDot 87 = .ok (.invokestatic 59, 3) := by decide +kernel
theorem dX2_numberOfDot_90 : decode cX2_numberOfDot 90 = .ok (.ireturn, 1) := by decide +kernel
theorem dX2_numberOfDot_91 : decode cX2_numberOfDot 91 = .ok (.aload_n 0, 1) := by decide +kernel
theorem dX2_numberOfDot_92 : decode cX2_numberOfDot 92 = .ok (.iload_n 1, 1) := by decide +kernel
theorem dX2_numberOfDot_93 : decode cX2_numberOfDot 93 = .ok (.aload_n 0, 1) := by decide +kernel
theorem dX2_numberOfDot_94 : decode cX2_numberOfDot 94 = .ok (.getfield 21, 3) := by decide +kernel
theorem dX2_numberOfDot_97 : decode cX2_numberOfDot 97 = .ok (.iconst 0, 1) := by decide +kernel
theorem dX2_numberOfDot_98 : decode cX2_numberOfDot 98 = .ok (.invokestatic 59, 3) := by decide +kernel
theorem dX2_numberOfDot_101 : decode cX2_numberOfDot 101 = .ok (.invokevirtual 159, 3) := by decide +kernel
theorem dX2_numberOfDot_104 : decode cX2_numberOfDot 104 = .ok (.ireturn, 1) := by decide +kernel
theorem dX2_numberOfDot_105 : decode cX2_numberOfDot 105 = .ok (.aload_n 0, 1) := by decide +kernel
theorem dX2_numberOfDot_106 : decode cX2_numberOfDot 106 = .ok (.aload_n 0, 1) := by decide +kernel
theorem dX2_numberOfDot_107 : decode cX2_numberOfDot 107 = .ok (.getfield 9, 3) := by decide +kernel
theorem dX2_numberOfDot_110 : decode cX2_numberOfDot 110 = .ok (.iload_n 1, 1) := by decide +kernel
theorem dX2_numberOfDot_111 : decode cX2_numberOfDot 111 = .ok (.invokestatic 59, 3) := by decide +kernel
theorem dX2_numberOfDot_114 : decode cX2_numberOfDot 114 = .ok (.aload_n 0, 1) := by decide +kernel
theorem dX2_numberOfDot_115 : decode cX2_numberOfDot 115 = .ok (.iload_n 1, 1) := by decide +kernel
theorem dX2_numberOfDot_116 : decode cX2_numberOfDot 116 = .ok (.aload_n 0, 1) := by decide +kernel
theorem dX2_numberOfDot_117 : decode cX2_numberOfDot 117 = .ok (.getfield 21, 3) := by decide +kernel
theorem dX2_numberOfDot_120 : decode cX2_numberOfDot 120 = .ok (.iconst 0, 1) := by decide +kernel
theorem dX2_numberOfDot_121 : decode cX2_numberOfDot 121 = .ok (.invokestatic 59, 3) := by decide +kernel
theorem dX2_numberOfDot_124 : decode cX2_numberOfDot 124 = .ok (.invokevirtual 159, 3) := by decide +kernel
theorem dX2_numberOfDot_127 : decode cX2_numberOfDot 127 = .ok (.invokevirtual 162, 3) := by decide +kernel
theorem dX2_numberOfDot_130 : decode cX2_numberOfDot 130 = .ok (.ireturn, 1) := by decide +kernel
set_option maxHeartbeats 1000000 in
set_option maxRecDepth 100000 in
theorem c_X2_numberOfDot (l : Launch) (G : GT) (q : Nat → Nat) (v : SV) (x1 : Int32) (x2 : Int32) : Met l yX2_numberOfDot (Cond.code yX2_numberOfDot cX2_numberOfDot 3 (some .int) :: bigW) ({ frames := 3, cells := 0, slots := 0, locals := 70 }) (BP G [.ref (q 0), .int x1, .int x2] (fun U H => PW G (stW G q v) H)) (QP (.int (fX2_numberOfDot v x1 x2))) 0 0 (fun _ => False) := by
  refine met_of (by decide) (Nat.le_of_ble_eq_true rfl) ?_
  intro p e s m below meth c ls hC hKN hB0 hl
  have hP := hB0
  have hl : lv_has ls 3 [(0, .ref (q 0)), (1, .int x1), (2, .int x2)] := hl
  have hg : fX2_numberOfDot v x1 x2 = fX2_numberOfDot v x1 x2 := rfl
  refine lv_iload_n hC.1 hC.2.1 dX2_numberOfDot_0 rfl (lv_at hl 2 rfl) ?_
  by_cases k1_0 : x2 = 0
  · refine swIn hC (tgt := 40) 0 k1_0 dX2_numberOfDot_1 (by decide) (by decide) rfl (by decide) ?_
    refine lv_aload_n hC.1 hC.2.1 dX2_numberOfDot_40 rfl (lv_at hl 0 rfl) ?_
    refine gf (v := .ref (q 1)) hC fwX2 hKN hP 0 rfl rfl 0 (by decide) rfl wd_108 rfl dX2_numberOfDot_41 ?_
    refine lv_iload_n hC.1 hC.2.1 dX2_numberOfDot_44 rfl (lv_at hl 1 rfl) ?_
    refine runP (rSN (B := fun U H => RD (q 1) 24 (v 0) U H) (As := [.ref (q 1), .int x1]) (rest := []) hC mwX5_at (c_X5_at l G (q 1) 24 (v 0) x1) wd_328 (nm_1 hKN) ⟨rfl, rfl⟩ ⟨Nat.le_of_ble_eq_true rfl, Nat.le_of_ble_eq_true rfl⟩ (stb_RD _ _ _) hKN (RD.ofP hKN hP 1 rfl) rfl hl.1 rfl (Nat.le_of_ble_eq_true rfl) dX2_numberOfDot_45 ⟨Nat.zero_le _, Nat.zero_le _⟩) ?_
    have e_1 : fX2_numberOfDot v x1 x2 = fX5_at 24 (v 0) x1 := by exact Eq.trans (if_pos k1_0) rfl
    have hg : fX2_numberOfDot v x1 x2 = fX5_at 24 (v 0) x1 := hg.trans (congrArg (fun z => z) e_1)
    exact eP_i hC (congrArg Value.int hg) dX2_numberOfDot_48
  · skip
    by_cases k1_1 : x2 = 1
    · refine swIn hC (tgt := 49) 1 k1_1 dX2_numberOfDot_1 (by decide) (by decide) rfl (by decide) ?_
      refine lv_aload_n hC.1 hC.2.1 dX2_numberOfDot_49 rfl (lv_at hl 0 rfl) ?_
      refine gf (v := .int (v 8 8)) hC fwX2 hKN hP 0 rfl rfl 5 (by decide) rfl wd_115 rfl dX2_numberOfDot_50 ?_
      refine lv_iload_n hC.1 hC.2.1 dX2_numberOfDot_53 rfl (lv_at hl 1 rfl) ?_
      refine runP (rSN (B := fun U H => True) (As := [.int (v 8 8), .int x1]) (rest := []) hC mwX5_bitOf (c_X5_bitOf l G (v 8 8) x1) wd_331 (nm_2 hKN) ⟨rfl, rfl⟩ ⟨Nat.le_of_ble_eq_true rfl, Nat.le_of_ble_eq_true rfl⟩ (fun _ _ _ _ h => h) hKN trivial rfl hl.1 rfl (Nat.le_of_ble_eq_true rfl) dX2_numberOfDot_54 ⟨Nat.zero_le _, Nat.zero_le _⟩) ?_
      have e_2 : fX2_numberOfDot v x1 x2 = fX5_bitOf (v 8 8) x1 := by exact Eq.trans (if_neg k1_0) (Eq.trans (if_pos k1_1) rfl)
      have hg : fX2_numberOfDot v x1 x2 = fX5_bitOf (v 8 8) x1 := hg.trans (congrArg (fun z => z) e_2)
      exact eP_i hC (congrArg Value.int hg) dX2_numberOfDot_57
    · skip
      by_cases k1_2 : x2 = 2
      · refine swIn hC (tgt := 58) 2 k1_2 dX2_numberOfDot_1 (by decide) (by decide) rfl (by decide) ?_
        refine lv_aload_n hC.1 hC.2.1 dX2_numberOfDot_58 rfl (lv_at hl 0 rfl) ?_
        refine gf (v := .int (v 8 9)) hC fwX2 hKN hP 0 rfl rfl 6 (by decide) rfl wd_116 rfl dX2_numberOfDot_59 ?_
        refine lv_iload_n hC.1 hC.2.1 dX2_numberOfDot_62 rfl (lv_at hl 1 rfl) ?_
        refine runP (rSN (B := fun U H => True) (As := [.int (v 8 9), .int x1]) (rest := []) hC mwX5_bitOf (c_X5_bitOf l G (v 8 9) x1) wd_331 (nm_2 hKN) ⟨rfl, rfl⟩ ⟨Nat.le_of_ble_eq_true rfl, Nat.le_of_ble_eq_true rfl⟩ (fun _ _ _ _ h => h) hKN trivial rfl hl.1 rfl (Nat.le_of_ble_eq_true rfl) dX2_numberOfDot_63 ⟨Nat.zero_le _, Nat.zero_le _⟩) ?_
        have e_3 : fX2_numberOfDot v x1 x2 = fX5_bitOf (v 8 9) x1 := by exact Eq.trans (if_neg k1_0) (Eq.trans (if_neg k1_1) (Eq.trans (if_pos k1_2) rfl))
        have hg : fX2_numberOfDot v x1 x2 = fX5_bitOf (v 8 9) x1 := hg.trans (congrArg (fun z => z) e_3)
        exact eP_i hC (congrArg Value.int hg) dX2_numberOfDot_66
      · skip
        by_cases k1_3 : x2 = 3
        · refine swIn hC (tgt := 67) 3 k1_3 dX2_numberOfDot_1 (by decide) (by decide) rfl (by decide) ?_
          refine lv_aload_n hC.1 hC.2.1 dX2_numberOfDot_67 rfl (lv_at hl 0 rfl) ?_
          refine gf (v := .ref (q 8)) hC fwX2 hKN hP 0 rfl rfl 4 (by decide) rfl wd_113 rfl dX2_numberOfDot_68 ?_
          refine gfN (v := .ref (q 9)) hC fwX4 hKN hP 8 rfl rfl 0 (by decide) rfl (nf_3 hKN) rfl dX2_numberOfDot_71 ?_
          refine lv_iload_n hC.1 hC.2.1 dX2_numberOfDot_74 rfl (lv_at hl 1 rfl) ?_
          refine runP (rSN (B := fun U H => RD (q 9) 24 (v 6) U H) (As := [.ref (q 9), .int x1]) (rest := []) hC mwX5_at (c_X5_at l G (q 9) 24 (v 6) x1) wd_328 (nm_1 hKN) ⟨rfl, rfl⟩ ⟨Nat.le_of_ble_eq_true rfl, Nat.le_of_ble_eq_true rfl⟩ (stb_RD _ _ _) hKN (RD.ofP hKN hP 9 rfl) rfl hl.1 rfl (Nat.le_of_ble_eq_true rfl) dX2_numberOfDot_75 ⟨Nat.zero_le _, Nat.zero_le _⟩) ?_
          have e_4 : fX2_numberOfDot v x1 x2 = fX5_at 24 (v 6) x1 := by exact Eq.trans (if_neg k1_0) (Eq.trans (if_neg k1_1) (Eq.trans (if_neg k1_2) (Eq.trans (if_pos k1_3) rfl)))
          have hg : fX2_numberOfDot v x1 x2 = fX5_at 24 (v 6) x1 := hg.trans (congrArg (fun z => z) e_4)
          exact eP_i hC (congrArg Value.int hg) dX2_numberOfDot_78
        · skip
          by_cases k1_4 : x2 = 4
          · refine swIn hC (tgt := 79) 4 k1_4 dX2_numberOfDot_1 (by decide) (by decide) rfl (by decide) ?_
            refine lv_aload_n hC.1 hC.2.1 dX2_numberOfDot_79 rfl (lv_at hl 0 rfl) ?_
            refine gf (v := .ref (q 8)) hC fwX2 hKN hP 0 rfl rfl 4 (by decide) rfl wd_113 rfl dX2_numberOfDot_80 ?_
            refine gfN (v := .ref (q 10)) hC fwX4 hKN hP 8 rfl rfl 1 (by decide) rfl (nf_4 hKN) rfl dX2_numberOfDot_83 ?_
            refine lv_iload_n hC.1 hC.2.1 dX2_numberOfDot_86 rfl (lv_at hl 1 rfl) ?_
            refine runP (rSN (B := fun U H => RD (q 10) 24 (v 7) U H) (As := [.ref (q 10), .int x1]) (rest := []) hC mwX5_at (c_X5_at l G (q 10) 24 (v 7) x1) wd_328 (nm_1 hKN) ⟨rfl, rfl⟩ ⟨Nat.le_of_ble_eq_true rfl, Nat.le_of_ble_eq_true rfl⟩ (stb_RD _ _ _) hKN (RD.ofP hKN hP 10 rfl) rfl hl.1 rfl (Nat.le_of_ble_eq_true rfl) dX2_numberOfDot_87 ⟨Nat.zero_le _, Nat.zero_le _⟩) ?_
            have e_5 : fX2_numberOfDot v x1 x2 = fX5_at 24 (v 7) x1 := by exact Eq.trans (if_neg k1_0) (Eq.trans (if_neg k1_1) (Eq.trans (if_neg k1_2) (Eq.trans (if_neg k1_3) (Eq.trans (if_pos k1_4) rfl))))
            have hg : fX2_numberOfDot v x1 x2 = fX5_at 24 (v 7) x1 := hg.trans (congrArg (fun z => z) e_5)
            exact eP_i hC (congrArg Value.int hg) dX2_numberOfDot_90
          · skip
            by_cases k1_5 : x2 = 5
            · refine swIn hC (tgt := 91) 5 k1_5 dX2_numberOfDot_1 (by decide) (by decide) rfl (by decide) ?_
              refine lv_aload_n hC.1 hC.2.1 dX2_numberOfDot_91 rfl (lv_at hl 0 rfl) ?_
              refine lv_iload_n hC.1 hC.2.1 dX2_numberOfDot_92 rfl (lv_at hl 1 rfl) ?_
              refine lv_aload_n hC.1 hC.2.1 dX2_numberOfDot_93 rfl (lv_at hl 0 rfl) ?_
              refine gf (v := .ref (q 3)) hC fwX2 hKN hP 0 rfl rfl 2 (by decide) rfl wd_110 rfl dX2_numberOfDot_94 ?_
              refine lv_iconst (v := 0) hC.1 hC.2.1 dX2_numberOfDot_97 (by decide) ?_
              refine runP (rSN (B := fun U H => RD (q 3) 7 (v 2) U H) (As := [.ref (q 3), .int 0]) (rest := [.int x1, .ref (q 0)]) hC mwX5_at (c_X5_at l G (q 3) 7 (v 2) 0) wd_328 (nm_1 hKN) ⟨rfl, rfl⟩ ⟨Nat.le_of_ble_eq_true rfl, Nat.le_of_ble_eq_true rfl⟩ (stb_RD _ _ _) hKN (RD.ofP hKN hP 3 rfl) rfl hl.1 rfl (Nat.le_of_ble_eq_true rfl) dX2_numberOfDot_98 ⟨Nat.zero_le _, Nat.zero_le _⟩) ?_
              refine runP (rV (B := fun U H => PW G (stW G q v) H) (As := [.int x1, .int (fX5_at 7 (v 2) 0)]) (rest := []) hC mwX2_pulseAlone (c_X2_pulseAlone l G q v x1 (fX5_at 7 (v 2) 0)) iwX2_pulseAlone wd_333 ⟨rfl, rfl⟩ ⟨Nat.le_of_ble_eq_true rfl, Nat.le_of_ble_eq_true rfl⟩ (stb_h (fun H => PW G (stW G q v) H)) hKN hP (va_recv hKN.k hP (ci := 2) (q0 := 0) rfl rfl) rfl hl.1 rfl (Nat.le_of_ble_eq_true rfl) dX2_numberOfDot_101 ⟨Nat.zero_le _, Nat.zero_le _⟩) ?_
              have e_6 : fX2_numberOfDot v x1 x2 = fX2_pulseAlone v x1 (fX5_at 7 (v 2) 0) := by exact Eq.trans (if_neg k1_0) (Eq.trans (if_neg k1_1) (Eq.trans (if_neg k1_2) (Eq.trans (if_neg k1_3) (Eq.trans (if_neg k1_4) (Eq.trans (if_pos k1_5) rfl)))))
              have hg : fX2_numberOfDot v x1 x2 = fX2_pulseAlone v x1 (fX5_at 7 (v 2) 0) := hg.trans (congrArg (fun z => z) e_6)
              exact eP_i hC (congrArg Value.int hg) dX2_numberOfDot_104
            · skip
              refine lv_tableOut (tgt := 105) hC.1 hC.2.1 dX2_numberOfDot_1 (sw_out 0 5 (by decide) (fun k h1 h2 => by match k, h1, h2 with  | 0, _, _ => exact k1_0 | 1, _, _ => exact k1_1 | 2, _, _ => exact k1_2 | 3, _, _ => exact k1_3 | 4, _, _ => exact k1_4 | 5, _, _ => exact k1_5 | k + 6, _, h => exact absurd h (by omega))) (by decide) ?_
              refine lv_aload_n hC.1 hC.2.1 dX2_numberOfDot_105 rfl (lv_at hl 0 rfl) ?_
              refine lv_aload_n hC.1 hC.2.1 dX2_numberOfDot_106 rfl (lv_at hl 0 rfl) ?_
              refine gf (v := .ref (q 1)) hC fwX2 hKN hP 0 rfl rfl 0 (by decide) rfl wd_108 rfl dX2_numberOfDot_107 ?_
              refine lv_iload_n hC.1 hC.2.1 dX2_numberOfDot_110 rfl (lv_at hl 1 rfl) ?_
              refine runP (rSN (B := fun U H => RD (q 1) 24 (v 0) U H) (As := [.ref (q 1), .int x1]) (rest := [.ref (q 0)]) hC mwX5_at (c_X5_at l G (q 1) 24 (v 0) x1) wd_328 (nm_1 hKN) ⟨rfl, rfl⟩ ⟨Nat.le_of_ble_eq_true rfl, Nat.le_of_ble_eq_true rfl⟩ (stb_RD _ _ _) hKN (RD.ofP hKN hP 1 rfl) rfl hl.1 rfl (Nat.le_of_ble_eq_true rfl) dX2_numberOfDot_111 ⟨Nat.zero_le _, Nat.zero_le _⟩) ?_
              refine lv_aload_n hC.1 hC.2.1 dX2_numberOfDot_114 rfl (lv_at hl 0 rfl) ?_
              refine lv_iload_n hC.1 hC.2.1 dX2_numberOfDot_115 rfl (lv_at hl 1 rfl) ?_
              refine lv_aload_n hC.1 hC.2.1 dX2_numberOfDot_116 rfl (lv_at hl 0 rfl) ?_
              refine gf (v := .ref (q 3)) hC fwX2 hKN hP 0 rfl rfl 2 (by decide) rfl wd_110 rfl dX2_numberOfDot_117 ?_
              refine lv_iconst (v := 0) hC.1 hC.2.1 dX2_numberOfDot_120 (by decide) ?_
              refine runP (rSN (B := fun U H => RD (q 3) 7 (v 2) U H) (As := [.ref (q 3), .int 0]) (rest := [.int x1, .ref (q 0), .int (fX5_at 24 (v 0) x1), .ref (q 0)]) hC mwX5_at (c_X5_at l G (q 3) 7 (v 2) 0) wd_328 (nm_1 hKN) ⟨rfl, rfl⟩ ⟨Nat.le_of_ble_eq_true rfl, Nat.le_of_ble_eq_true rfl⟩ (stb_RD _ _ _) hKN (RD.ofP hKN hP 3 rfl) rfl hl.1 rfl (Nat.le_of_ble_eq_true rfl) dX2_numberOfDot_121 ⟨Nat.zero_le _, Nat.zero_le _⟩) ?_
              refine runP (rV (B := fun U H => PW G (stW G q v) H) (As := [.int x1, .int (fX5_at 7 (v 2) 0)]) (rest := [.int (fX5_at 24 (v 0) x1), .ref (q 0)]) hC mwX2_pulseAlone (c_X2_pulseAlone l G q v x1 (fX5_at 7 (v 2) 0)) iwX2_pulseAlone wd_333 ⟨rfl, rfl⟩ ⟨Nat.le_of_ble_eq_true rfl, Nat.le_of_ble_eq_true rfl⟩ (stb_h (fun H => PW G (stW G q v) H)) hKN hP (va_recv hKN.k hP (ci := 2) (q0 := 0) rfl rfl) rfl hl.1 rfl (Nat.le_of_ble_eq_true rfl) dX2_numberOfDot_124 ⟨Nat.zero_le _, Nat.zero_le _⟩) ?_
              refine runP (rV (B := fun U H => PW G (stW G q v) H) (As := [.int (fX5_at 24 (v 0) x1), .int (fX2_pulseAlone v x1 (fX5_at 7 (v 2) 0))]) (rest := []) hC mwX2_waitFor (c_X2_waitFor l G q v (fX5_at 24 (v 0) x1) (fX2_pulseAlone v x1 (fX5_at 7 (v 2) 0))) iwX2_waitFor wd_346 ⟨rfl, rfl⟩ ⟨Nat.le_of_ble_eq_true rfl, Nat.le_of_ble_eq_true rfl⟩ (stb_h (fun H => PW G (stW G q v) H)) hKN hP (va_recv hKN.k hP (ci := 2) (q0 := 0) rfl rfl) rfl hl.1 rfl (Nat.le_of_ble_eq_true rfl) dX2_numberOfDot_127 ⟨Nat.zero_le _, Nat.zero_le _⟩) ?_
              have e_7 : fX2_numberOfDot v x1 x2 = fX2_waitFor v (fX5_at 24 (v 0) x1) (fX2_pulseAlone v x1 (fX5_at 7 (v 2) 0)) := by exact Eq.trans (if_neg k1_0) (Eq.trans (if_neg k1_1) (Eq.trans (if_neg k1_2) (Eq.trans (if_neg k1_3) (Eq.trans (if_neg k1_4) (Eq.trans (if_neg k1_5) rfl)))))
              have hg : fX2_numberOfDot v x1 x2 = fX2_waitFor v (fX5_at 24 (v 0) x1) (fX2_pulseAlone v x1 (fX5_at 7 (v 2) 0)) := hg.trans (congrArg (fun z => z) e_7)
              exact eP_i hC (congrArg Value.int hg) dX2_numberOfDot_130
