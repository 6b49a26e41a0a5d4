theorem dX2_dotsOfPart_0 : decode cX2_dotsOfPart 0 = .ok (.iload_n 3, 1) := by decide +kernel
theorem dX2_dotsOfPart_1 : decode cX2_dotsOfPart 1 = .ok (.iconst 1, 1) := by decide +kernel
theorem dX2_dotsOfPart_2 : decode cX2_dotsOfPart 2 = .ok (.if_icmp .lt 9, 3) := by decide +kernel
theorem dX2_dotsOfPart_5 : decode cX2_dotsOfPart 5 = .ok (.iload 4, 2) := by decide +kernel
theorem dX2_dotsOfPart_7 : decode cX2_dotsOfPart 7 = .ok (.iconst 1, 1) := by decide +kernel
theorem dX2_dotsOfPart_8 : decode cX2_dotsOfPart 8 = .ok (.if_icmp .ge 5, 3) := by decide +kernel
theorem dX2_dotsOfPart_11 : decode cX2_dotsOfPart 11 = .ok (.iconst 0, 1) := by decide +kernel
theorem dX2_dotsOfPart_12 : decode cX2_dotsOfPart 12 = .ok (.ireturn, 1) := by decide +kernel
theorem dX2_dotsOfPart_13 : decode cX2_dotsOfPart 13 = .ok (.aload_n 0, 1) := by decide +kernel
theorem dX2_dotsOfPart_14 : decode cX2_dotsOfPart 14 = .ok (.getfield 21, 3) := by decide +kernel
theorem dX2_dotsOfPart_17 : decode cX2_dotsOfPart 17 = .ok (.iconst 5, 1) := by decide +kernel
theorem dX2_dotsOfPart_18 : decode cX2_dotsOfPart 18 = .ok (.invokestatic 59, 3) := by decide +kernel
theorem dX2_dotsOfPart_21 : decode cX2_dotsOfPart 21 = .ok (.iconst 1, 1) := by decide +kernel
theorem dX2_dotsOfPart_22 : decode cX2_dotsOfPart 22 = .ok (.if_icmp .ne 7, 3) := by decide +kernel
theorem dX2_dotsOfPart_25 : decode cX2_dotsOfPart 25 = .ok (.iconst 1, 1) := by decide +kernel
theorem dX2_dotsOfPart_26 : decode cX2_dotsOfPart 26 = .ok (.goto 4, 3) := by decide +kernel
theorem dX2_dotsOfPart_29 : decode cX2_dotsOfPart 29 = .ok (.iconst 0, 1) := by decide +kernel
theorem dX2_dotsOfPart_30 : decode cX2_dotsOfPart 30 = .ok (.istore 5, 2) := by decide +kernel
theorem dX2_dotsOfPart_32 : decode cX2_dotsOfPart 32 = .ok (.iconst 0, 1) := by decide +kernel
theorem dX2_dotsOfPart_33 : decode cX2_dotsOfPart 33 = .ok (.istore 6, 2) := by decide +kernel
theorem dX2_dotsOfPart_35 : decode cX2_dotsOfPart 35 = .ok (.iconst 0, 1) := by decide +kernel
theorem dX2_dotsOfPart_36 : decode cX2_dotsOfPart 36 = .ok (.istore 7, 2) := by decide +kernel
theorem dX2_dotsOfPart_38 : decode cX2_dotsOfPart 38 = .ok (.iconst 0, 1) := by decide +kernel
theorem dX2_dotsOfPart_39 : decode cX2_dotsOfPart 39 = .ok (.istore 8, 2) := by decide +kernel
theorem dX2_dotsOfPart_41 : decode cX2_dotsOfPart 41 = .ok (.iload 8, 2) := by decide +kernel
theorem dX2_dotsOfPart_43 : decode cX2_dotsOfPart 43 = .ok (.bipush 24, 2) := by decide +kernel
theorem dX2_dotsOfPart_45 : decode cX2_dotsOfPart 45 = .ok (.if_icmp .ge 56, 3) := by decide +kernel
theorem dX2_dotsOfPart_48 : decode cX2_dotsOfPart 48 = .ok (.iload_n 1, 1) := by decide +kernel
theorem dX2_dotsOfPart_49 : decode cX2_dotsOfPart 49 = .ok (.iload 8, 2) := by decide +kernel
theorem dX2_dotsOfPart_51 : decode cX2_dotsOfPart 51 = .ok (.invokestatic 124, 3) := by decide +kernel
theorem dX2_dotsOfPart_54 : decode cX2_dotsOfPart 54 = .ok (.iconst 1, 1) := by decide +kernel
theorem dX2_dotsOfPart_55 : decode cX2_dotsOfPart 55 = .ok (.if_icmp .ne 40, 3) := by decide +kernel
theorem dX2_dotsOfPart_58 : decode cX2_dotsOfPart 58 = .ok (.iload 5, 2) := by decide +kernel
theorem dX2_dotsOfPart_60 : decode cX2_dotsOfPart 60 = .ok (.ifCond .eq 10, 3) := by decide +kernel
theorem dX2_dotsOfPart_63 : decode cX2_dotsOfPart 63 = .ok (.iload 7, 2) := by decide +kernel
theorem dX2_dotsOfPart_65 : decode cX2_dotsOfPart 65 = .ok (.iload_n 3, 1) := by decide +kernel
theorem dX2_dotsOfPart_66 : decode cX2_dotsOfPart 66 = .ok (.irem, 1) := by decide +kernel
theorem dX2_dotsOfPart_67 : decode cX2_dotsOfPart 67 = .ok (.goto 8, 3) := by decide +kernel
theorem dX2_dotsOfPart_70 : decode cX2_dotsOfPart 70 = .ok (.iload 7, 2) := by decide +kernel
theorem dX2_dotsOfPart_72 : decode cX2_dotsOfPart 72 = .ok (.iload 4, 2) := by decide +kernel
theorem dX2_dotsOfPart_74 : decode cX2_dotsOfPart 74 = .ok (.idiv, 1) := by decide +kernel
theorem dX2_dotsOfPart_75 : decode cX2_dotsOfPart 75 = .ok (.istore 9, 2) := by decide +kernel
theorem dX2_dotsOfPart_77 : decode cX2_dotsOfPart 77 = .ok (.iload 9, 2) := by decide +kernel
theorem dX2_dotsOfPart_79 : decode cX2_dotsOfPart 79 = .ok (.iload_n 2, 1) := by decide +kernel
theorem dX2_dotsOfPart_80 : decode cX2_dotsOfPart 80 = .ok (.if_icmp .ne 12, 3) := by decide +kernel
theorem dX2_dotsOfPart_83 : decode cX2_dotsOfPart 83 = .ok (.iload 6, 2) := by decide +kernel
theorem dX2_dotsOfPart_85 : decode cX2_dotsOfPart 85 = .ok (.iconst 1, 1) := by decide +kernel
theorem dX2_dotsOfPart_86 : decode cX2_dotsOfPart 86 = .ok (.iload 8, 2) := by decide +kernel
theorem dX2_dotsOfPart_88 : decode cX2_dotsOfPart 88 = .ok (.ishl, 1) := by decide +kernel
theorem dX2_dotsOfPart_89 : decode cX2_dotsOfPart 89 = .ok (.ior, 1) := by decide +kernel
theorem dX2_dotsOfPart_90 : decode cX2_dotsOfPart 90 = .ok (.istore 6, 2) := by decide +kernel
theorem dX2_dotsOfPart_92 : decode cX2_dotsOfPart 92 = .ok (.iinc 7 1, 3) := by decide +kernel
theorem dX2_dotsOfPart_95 : decode cX2_dotsOfPart 95 = .ok (.iinc 8 1, 3) := by decide +kernel
theorem dX2_dotsOfPart_98 : decode cX2_dotsOfPart 98 = .ok (.goto (-57), 3) := by decide +kernel
theorem dX2_dotsOfPart_101 : decode cX2_dotsOfPart 101 = .ok (.iload 6, 2) := by decide +kernel
theorem dX2_dotsOfPart_103 : decode cX2_dotsOfPart 103 = .ok (.ireturn, 1) := by decide +kernel
set_option maxHeartbeats 1000000 in
set_option maxRecDepth 100000 in
theorem c_X2_dotsOfPart (l : Launch) (G : GT) (q : Nat → Nat) (v : SV) (x1 : Int32) (x2 : Int32) (x3 : Int32) (x4 : Int32) : Met l yX2_dotsOfPart (Cond.code yX2_dotsOfPart cX2_dotsOfPart 10 (some .int) :: bigW) ({ frames := 1, cells := 0, slots := 0, locals := 21 }) (BP G [.ref (q 0), .int x1, .int x2, .int x3, .int x4] (fun U H => PW G (stW G q v) H)) (QP (.int (fX2_dotsOfPart v x1 x2 x3 x4))) 0 0 (fun _ => False) := by
  refine met_of (by decide) (Nat.le_of_ble_eq_true rfl) ?_
  intro p e s m below meth c ls hC hKN hB0 hl
  have hP := hB0
  have hl : lv_has ls 10 [(0, .ref (q 0)), (1, .int x1), (2, .int x2), (3, .int x3), (4, .int x4)] := hl
  have hg : fX2_dotsOfPart v x1 x2 x3 x4 = fX2_dotsOfPart v x1 x2 x3 x4 := rfl
  refine lv_iload_n hC.1 hC.2.1 dX2_dotsOfPart_0 rfl (lv_at hl 3 rfl) ?_
  refine lv_iconst (v := 1) hC.1 hC.2.1 dX2_dotsOfPart_1 (by decide) ?_
  refine lv_icmp_lt (tgt := 11) hC.1 hC.2.1 dX2_dotsOfPart_2 (by decide) (fun k2 => ?_) (fun k2 => ?_)
  · refine lv_iconst (v := 0) hC.1 hC.2.1 dX2_dotsOfPart_11 (by decide) ?_
    have e_1 : fX2_dotsOfPart v x1 x2 x3 x4 = 0 := by exact Eq.trans (if_pos k2) rfl
    have hg : fX2_dotsOfPart v x1 x2 x3 x4 = 0 := hg.trans (congrArg (fun z => z) e_1)
    exact eP_i hC (congrArg Value.int hg) dX2_dotsOfPart_12
  · refine lv_iload hC.1 hC.2.1 dX2_dotsOfPart_5 (lv_at hl 4 rfl) ?_
    refine lv_iconst (v := 1) hC.1 hC.2.1 dX2_dotsOfPart_7 (by decide) ?_
    refine lv_icmp_ge (tgt := 13) hC.1 hC.2.1 dX2_dotsOfPart_8 (by decide) (fun k8 => ?_) (fun k8 => ?_)
    · refine lv_aload_n hC.1 hC.2.1 dX2_dotsOfPart_13 rfl (lv_at hl 0 rfl) ?_
      refine gf (v := .ref (q 3)) hC fwX2 hKN hP 0 rfl rfl 2 (by decide) rfl wd_118 rfl dX2_dotsOfPart_14 ?_
      refine lv_iconst (v := 5) hC.1 hC.2.1 dX2_dotsOfPart_17 (by decide) ?_
      refine runP (rSN (B := fun U H => RD (q 3) 7 (v 2) U H) (As := [.ref (q 3), .int 5]) (rest := []) hC mwX5_at (c_X5_at l G (q 3) 7 (v 2) 5) wd_249 (nm_5 hKN) ⟨rfl, rfl⟩ ⟨Nat.le_of_ble_eq_true rfl, Nat.le_of_ble_eq_true rfl⟩ (stb_RD _ _ _) hKN (RD.ofP hKN hP 3 rfl) rfl hl.1 rfl (Nat.le_of_ble_eq_true rfl) dX2_dotsOfPart_18 ⟨Nat.zero_le _, Nat.zero_le _⟩) ?_
      refine lv_iconst (v := 1) hC.1 hC.2.1 dX2_dotsOfPart_21 (by decide) ?_
      have J30 : ∀ (z0_30 : Int32), fX2_dotsOfPart v x1 x2 x3 x4 = tX2_dotsOfPart_J30 v x1 x2 x3 x4 z0_30 → ∀ (ls : Array Slot), lv_has ls 10 [(1, .int x1), (2, .int x2), (3, .int x3), (4, .int x4)] → W p l e ({ frames := 1, cells := 0, slots := 0, locals := 21 }) s m ([.ref (q 0), .int x1, .int x2, .int x3, .int x4] : List Value).toArray below meth c s.heap [] 0 0 (MQ below (QP (.int (fX2_dotsOfPart v x1 x2 x3 x4))) ([.ref (q 0), .int x1, .int x2, .int x3, .int x4] : List Value).toArray s 0 0 (fun _ => False)) (F0 m 30 ls [.int z0_30]) := by
        intro z0_30 hg ls hl
        refine lv_istore (lv' := [(5, .int z0_30), (1, .int x1), (2, .int x2), (3, .int x3), (4, .int x4)]) hC.1 hC.2.1 dX2_dotsOfPart_30 hl (by decide) rfl (fun ls hl => ?_)
        refine lv_iconst (v := 0) hC.1 hC.2.1 dX2_dotsOfPart_32 (by decide) ?_
        refine lv_istore (lv' := [(6, .int 0), (5, .int z0_30), (1, .int x1), (2, .int x2), (3, .int x3), (4, .int x4)]) hC.1 hC.2.1 dX2_dotsOfPart_33 hl (by decide) rfl (fun ls hl => ?_)
        refine lv_iconst (v := 0) hC.1 hC.2.1 dX2_dotsOfPart_35 (by decide) ?_
        refine lv_istore (lv' := [(7, .int 0), (6, .int 0), (5, .int z0_30), (1, .int x1), (2, .int x2), (3, .int x3), (4, .int x4)]) hC.1 hC.2.1 dX2_dotsOfPart_36 hl (by decide) rfl (fun ls hl => ?_)
        refine lv_iconst (v := 0) hC.1 hC.2.1 dX2_dotsOfPart_38 (by decide) ?_
        refine lv_istore (lv' := [(8, .int 0), (7, .int 0), (6, .int 0), (5, .int z0_30), (1, .int x1), (2, .int x2), (3, .int x3), (4, .int x4)]) hC.1 hC.2.1 dX2_dotsOfPart_39 hl (by decide) rfl (fun ls hl => ?_)
        have A41 : ∀ (y5_41 : Int32), ∀ (y6_41 : Int32) (y7_41 : Int32), fX2_dotsOfPart v x1 x2 x3 x4 = (tX2_dotsOfPart_41 v x1 x2 x3 x4 y5_41 (y6_41, y7_41)) → ∀ (ls : Array Slot), lv_has ls 10 [(6, .int y6_41)] → W p l e ({ frames := 1, cells := 0, slots := 0, locals := 21 }) s m ([.ref (q 0), .int x1, .int x2, .int x3, .int x4] : List Value).toArray below meth c s.heap [] 0 0 (MQ below (QP (.int (fX2_dotsOfPart v x1 x2 x3 x4))) ([.ref (q 0), .int x1, .int x2, .int x3, .int x4] : List Value).toArray s 0 0 (fun _ => False)) (F0 m 101 ls []) := by
          intro y5_41 y6_41 y7_41 hg ls hl
          refine lv_iload hC.1 hC.2.1 dX2_dotsOfPart_101 (lv_at hl 0 rfl) ?_
          have e_2 : tX2_dotsOfPart_41 v x1 x2 x3 x4 y5_41 (y6_41, y7_41) = y6_41 := by exact rfl
          have hg : fX2_dotsOfPart v x1 x2 x3 x4 = y6_41 := hg.trans (congrArg (fun z => z) e_2)
          exact eP_i hC (congrArg Value.int hg) dX2_dotsOfPart_103
        have L41 : ∀ (y5_41 : Int32), ∀ (n41 d41 : Nat), ∀ (y6_41 : Int32) (y7_41 : Int32), d41 + n41 = 24 → fX2_dotsOfPart v x1 x2 x3 x4 = (tX2_dotsOfPart_41 v x1 x2 x3 x4 y5_41 (lpF n41 d41 (bX2_dotsOfPart_41 v x1 x2 x3 x4 y5_41) (y6_41, y7_41))) → ∀ (ls : Array Slot), lv_has ls 10 [(1, .int x1), (2, .int x2), (3, .int x3), (4, .int x4), (5, .int y5_41), (6, .int y6_41), (7, .int y7_41), (8, .int (nI d41))] → W p l e ({ frames := 1, cells := 0, slots := 0, locals := 21 }) s m ([.ref (q 0), .int x1, .int x2, .int x3, .int x4] : List Value).toArray below meth c s.heap [] 0 0 (MQ below (QP (.int (fX2_dotsOfPart v x1 x2 x3 x4))) ([.ref (q 0), .int x1, .int x2, .int x3, .int x4] : List Value).toArray s 0 0 (fun _ => False)) (F0 m 41 ls []) := by
          intro y5_41
          intro n41
          induction n41 with
          | zero =>
            intro d41 y6_41 y7_41 hd hg ls hl
            refine lv_iload hC.1 hC.2.1 dX2_dotsOfPart_41 (lv_at hl 7 rfl) ?_
            refine lv_bipush (v := 24) hC.1 hC.2.1 dX2_dotsOfPart_43 (by decide +kernel) ?_
            refine lv_icmp_ge (tgt := 101) hC.1 hC.2.1 dX2_dotsOfPart_45 (by decide) (fun k45 => ?_) (fun k45 => ?_)
            · exact A41 y5_41 y6_41 y7_41 hg _ (lv_sub hl [5] rfl)
            · exact absurd (nI_le (a := 24) (b := d41) (by omega) (by omega)) k45
          | succ n41 ih =>
            intro d41 y6_41 y7_41 hd hg ls hl
            have hg : fX2_dotsOfPart v x1 x2 x3 x4 = (tX2_dotsOfPart_41 v x1 x2 x3 x4 y5_41 (lpF n41 (d41 + 1) (bX2_dotsOfPart_41 v x1 x2 x3 x4 y5_41) (bX2_dotsOfPart_41 v x1 x2 x3 x4 y5_41 d41 (y6_41, y7_41)))) := hg
            refine lv_iload hC.1 hC.2.1 dX2_dotsOfPart_41 (lv_at hl 7 rfl) ?_
            refine lv_bipush (v := 24) hC.1 hC.2.1 dX2_dotsOfPart_43 (by decide +kernel) ?_
            refine lv_icmp_ge (tgt := 101) hC.1 hC.2.1 dX2_dotsOfPart_45 (by decide) (fun k45 => ?_) (fun k45 => ?_)
            · exact absurd k45 (nI_ge (a := d41) (b := 24) (by omega) (by omega))
            · refine lv_iload_n hC.1 hC.2.1 dX2_dotsOfPart_48 rfl (lv_at hl 0 rfl) ?_
              refine lv_iload hC.1 hC.2.1 dX2_dotsOfPart_49 (lv_at hl 7 rfl) ?_
              refine runP (rSN (B := fun U H => True) (As := [.int x1, .int (nI d41)]) (rest := []) hC mwX5_bitOf (c_X5_bitOf l G x1 (nI d41)) wd_433 (nm_6 hKN) ⟨rfl, rfl⟩ ⟨Nat.le_of_ble_eq_true rfl, Nat.le_of_ble_eq_true rfl⟩ (fun _ _ _ _ h => h) hKN trivial rfl hl.1 rfl (Nat.le_of_ble_eq_true rfl) dX2_dotsOfPart_51 ⟨Nat.zero_le _, Nat.zero_le _⟩) ?_
              refine lv_iconst (v := 1) hC.1 hC.2.1 dX2_dotsOfPart_54 (by decide) ?_
              refine lv_icmp_ne (tgt := 95) hC.1 hC.2.1 dX2_dotsOfPart_55 (by decide) (fun k55 => ?_) (fun k55 => ?_)
              · refine lv_iinc (v := nI (d41 + 1)) (lv' := [(8, .int (nI (d41 + 1))), (1, .int x1), (2, .int x2), (3, .int x3), (4, .int x4), (5, .int y5_41), (6, .int y6_41), (7, .int y7_41)]) hC.1 hC.2.1 dX2_dotsOfPart_95 hl (k := 7) rfl (nI_1 _) (by decide) rfl (fun ls hl => ?_)
                refine lv_goto (tgt := 41) hC.1 hC.2.1 dX2_dotsOfPart_98 (by decide) ?_
                have e_3 : bX2_dotsOfPart_41 v x1 x2 x3 x4 y5_41 d41 (y6_41, y7_41) = (y6_41, y7_41) := by exact Eq.trans (if_neg k55) rfl
                have hg : fX2_dotsOfPart v x1 x2 x3 x4 = (tX2_dotsOfPart_41 v x1 x2 x3 x4 y5_41 (lpF n41 (d41 + 1) (bX2_dotsOfPart_41 v x1 x2 x3 x4 y5_41) (y6_41, y7_41))) := hg.trans (congrArg (fun z => (tX2_dotsOfPart_41 v x1 x2 x3 x4 y5_41 (lpF n41 (d41 + 1) (bX2_dotsOfPart_41 v x1 x2 x3 x4 y5_41) z))) e_3)
                exact ih (d41 + 1) y6_41 y7_41 (by omega) hg _ (lv_sub hl [1, 2, 3, 4, 5, 6, 7, 0] rfl)
              · refine lv_iload hC.1 hC.2.1 dX2_dotsOfPart_58 (lv_at hl 4 rfl) ?_
                have J75 : ∀ (y5_75 : Int32) (y6_75 : Int32) (y7_75 : Int32) (z0_75 : Int32), fX2_dotsOfPart v x1 x2 x3 x4 = (tX2_dotsOfPart_41 v x1 x2 x3 x4 y5_41 (lpF n41 (d41 + 1) (bX2_dotsOfPart_41 v x1 x2 x3 x4 y5_41) (tX2_dotsOfPart_J75 v x1 x2 x3 x4 d41 y5_75 y6_75 y7_75 z0_75))) → ∀ (ls : Array Slot), lv_has ls 10 [(1, .int x1), (2, .int x2), (3, .int x3), (4, .int x4), (5, .int y5_75), (6, .int y6_75), (7, .int y7_75), (8, .int (nI d41))] → W p l e ({ frames := 1, cells := 0, slots := 0, locals := 21 }) s m ([.ref (q 0), .int x1, .int x2, .int x3, .int x4] : List Value).toArray below meth c s.heap [] 0 0 (MQ below (QP (.int (fX2_dotsOfPart v x1 x2 x3 x4))) ([.ref (q 0), .int x1, .int x2, .int x3, .int x4] : List Value).toArray s 0 0 (fun _ => False)) (F0 m 75 ls [.int z0_75]) := by
                  intro y5_75 y6_75 y7_75 z0_75 hg ls hl
                  refine lv_istore (lv' := [(9, .int z0_75), (1, .int x1), (2, .int x2), (3, .int x3), (4, .int x4), (5, .int y5_75), (6, .int y6_75), (7, .int y7_75), (8, .int (nI d41))]) hC.1 hC.2.1 dX2_dotsOfPart_75 hl (by decide) rfl (fun ls hl => ?_)
                  refine lv_iload hC.1 hC.2.1 dX2_dotsOfPart_77 (lv_at hl 0 rfl) ?_
                  refine lv_iload_n hC.1 hC.2.1 dX2_dotsOfPart_79 rfl (lv_at hl 2 rfl) ?_
                  refine lv_icmp_ne (tgt := 92) hC.1 hC.2.1 dX2_dotsOfPart_80 (by decide) (fun k80 => ?_) (fun k80 => ?_)
                  · refine lv_iinc (v := y7_75 + 1) (lv' := [(7, .int (y7_75 + 1)), (9, .int z0_75), (1, .int x1), (2, .int x2), (3, .int x3), (4, .int x4), (5, .int y5_75), (6, .int y6_75), (8, .int (nI d41))]) hC.1 hC.2.1 dX2_dotsOfPart_92 hl (k := 7) rfl rfl (by decide) rfl (fun ls hl => ?_)
                    refine lv_iinc (v := nI (d41 + 1)) (lv' := [(8, .int (nI (d41 + 1))), (7, .int (y7_75 + 1)), (9, .int z0_75), (1, .int x1), (2, .int x2), (3, .int x3), (4, .int x4), (5, .int y5_75), (6, .int y6_75)]) hC.1 hC.2.1 dX2_dotsOfPart_95 hl (k := 8) rfl (nI_1 _) (by decide) rfl (fun ls hl => ?_)
                    refine lv_goto (tgt := 41) hC.1 hC.2.1 dX2_dotsOfPart_98 (by decide) ?_
                    have e_4 : tX2_dotsOfPart_J75 v x1 x2 x3 x4 d41 y5_75 y6_75 y7_75 z0_75 = (y6_75, y7_75 + 1) := by exact Eq.trans (if_neg k80) rfl
                    have hg : fX2_dotsOfPart v x1 x2 x3 x4 = (tX2_dotsOfPart_41 v x1 x2 x3 x4 y5_41 (lpF n41 (d41 + 1) (bX2_dotsOfPart_41 v x1 x2 x3 x4 y5_41) (y6_75, y7_75 + 1))) := hg.trans (congrArg (fun z => (tX2_dotsOfPart_41 v x1 x2 x3 x4 y5_41 (lpF n41 (d41 + 1) (bX2_dotsOfPart_41 v x1 x2 x3 x4 y5_41) z))) e_4)
                    exact ih (d41 + 1) y6_75 (y7_75 + 1) (by omega) hg _ (lv_sub hl [3, 4, 5, 6, 7, 8, 1, 0] rfl)
                  · refine lv_iload hC.1 hC.2.1 dX2_dotsOfPart_83 (lv_at hl 6 rfl) ?_
                    refine lv_iconst (v := 1) hC.1 hC.2.1 dX2_dotsOfPart_85 (by decide) ?_
                    refine lv_iload hC.1 hC.2.1 dX2_dotsOfPart_86 (lv_at hl 8 rfl) ?_
                    refine lv_ishl hC.1 hC.2.1 dX2_dotsOfPart_88 ?_
                    refine lv_ior hC.1 hC.2.1 dX2_dotsOfPart_89 ?_
                    refine lv_istore (lv' := [(6, .int (y6_75 ||| (1 <<< ((nI d41) &&& 31)))), (9, .int z0_75), (1, .int x1), (2, .int x2), (3, .int x3), (4, .int x4), (5, .int y5_75), (7, .int y7_75), (8, .int (nI d41))]) hC.1 hC.2.1 dX2_dotsOfPart_90 hl (by decide) rfl (fun ls hl => ?_)
                    refine lv_iinc (v := y7_75 + 1) (lv' := [(7, .int (y7_75 + 1)), (6, .int (y6_75 ||| (1 <<< ((nI d41) &&& 31)))), (9, .int z0_75), (1, .int x1), (2, .int x2), (3, .int x3), (4, .int x4), (5, .int y5_75), (8, .int (nI d41))]) hC.1 hC.2.1 dX2_dotsOfPart_92 hl (k := 7) rfl rfl (by decide) rfl (fun ls hl => ?_)
                    refine lv_iinc (v := nI (d41 + 1)) (lv' := [(8, .int (nI (d41 + 1))), (7, .int (y7_75 + 1)), (6, .int (y6_75 ||| (1 <<< ((nI d41) &&& 31)))), (9, .int z0_75), (1, .int x1), (2, .int x2), (3, .int x3), (4, .int x4), (5, .int y5_75)]) hC.1 hC.2.1 dX2_dotsOfPart_95 hl (k := 8) rfl (nI_1 _) (by decide) rfl (fun ls hl => ?_)
                    refine lv_goto (tgt := 41) hC.1 hC.2.1 dX2_dotsOfPart_98 (by decide) ?_
                    have e_5 : tX2_dotsOfPart_J75 v x1 x2 x3 x4 d41 y5_75 y6_75 y7_75 z0_75 = (y6_75 ||| (1 <<< ((nI d41) &&& 31)), y7_75 + 1) := by exact Eq.trans (if_pos k80) rfl
                    have hg : fX2_dotsOfPart v x1 x2 x3 x4 = (tX2_dotsOfPart_41 v x1 x2 x3 x4 y5_41 (lpF n41 (d41 + 1) (bX2_dotsOfPart_41 v x1 x2 x3 x4 y5_41) (y6_75 ||| (1 <<< ((nI d41) &&& 31)), y7_75 + 1))) := hg.trans (congrArg (fun z => (tX2_dotsOfPart_41 v x1 x2 x3 x4 y5_41 (lpF n41 (d41 + 1) (bX2_dotsOfPart_41 v x1 x2 x3 x4 y5_41) z))) e_5)
                    exact ih (d41 + 1) (y6_75 ||| (1 <<< ((nI d41) &&& 31))) (y7_75 + 1) (by omega) hg _ (lv_sub hl [4, 5, 6, 7, 8, 2, 1, 0] rfl)
                refine lv_if_eq (tgt := 70) hC.1 hC.2.1 dX2_dotsOfPart_60 (by decide) (fun k60 => ?_) (fun k60 => ?_)
                · refine lv_iload hC.1 hC.2.1 dX2_dotsOfPart_70 (lv_at hl 6 rfl) ?_
                  refine lv_iload hC.1 hC.2.1 dX2_dotsOfPart_72 (lv_at hl 3 rfl) ?_
                  refine lv_idiv hC.1 hC.2.1 dX2_dotsOfPart_74 (fun h => by rw [h] at k8; exact absurd k8 (by decide)) ?_
                  have e_6 : bX2_dotsOfPart_41 v x1 x2 x3 x4 y5_41 d41 (y6_41, y7_41) = tX2_dotsOfPart_J75 v x1 x2 x3 x4 d41 y5_41 y6_41 y7_41 (y7_41 / x4) := by exact Eq.trans (if_pos k55) (Eq.trans (if_pos k60) rfl)
                  have hg : fX2_dotsOfPart v x1 x2 x3 x4 = (tX2_dotsOfPart_41 v x1 x2 x3 x4 y5_41 (lpF n41 (d41 + 1) (bX2_dotsOfPart_41 v x1 x2 x3 x4 y5_41) (tX2_dotsOfPart_J75 v x1 x2 x3 x4 d41 y5_41 y6_41 y7_41 (y7_41 / x4)))) := hg.trans (congrArg (fun z => (tX2_dotsOfPart_41 v x1 x2 x3 x4 y5_41 (lpF n41 (d41 + 1) (bX2_dotsOfPart_41 v x1 x2 x3 x4 y5_41) z))) e_6)
                  exact J75 y5_41 y6_41 y7_41 (y7_41 / x4) hg _ (lv_sub hl [0, 1, 2, 3, 4, 5, 6, 7] rfl)
                · refine lv_iload hC.1 hC.2.1 dX2_dotsOfPart_63 (lv_at hl 6 rfl) ?_
                  refine lv_iload_n hC.1 hC.2.1 dX2_dotsOfPart_65 rfl (lv_at hl 2 rfl) ?_
                  refine lv_irem hC.1 hC.2.1 dX2_dotsOfPart_66 (fun h => by rw [h] at k2; exact k2 (by decide)) ?_
                  refine lv_goto (tgt := 75) hC.1 hC.2.1 dX2_dotsOfPart_67 (by decide) ?_
                  have e_7 : bX2_dotsOfPart_41 v x1 x2 x3 x4 y5_41 d41 (y6_41, y7_41) = tX2_dotsOfPart_J75 v x1 x2 x3 x4 d41 y5_41 y6_41 y7_41 (y7_41 - y7_41 / x3 * x3) := by exact Eq.trans (if_pos k55) (Eq.trans (if_neg k60) rfl)
                  have hg : fX2_dotsOfPart v x1 x2 x3 x4 = (tX2_dotsOfPart_41 v x1 x2 x3 x4 y5_41 (lpF n41 (d41 + 1) (bX2_dotsOfPart_41 v x1 x2 x3 x4 y5_41) (tX2_dotsOfPart_J75 v x1 x2 x3 x4 d41 y5_41 y6_41 y7_41 (y7_41 - y7_41 / x3 * x3)))) := hg.trans (congrArg (fun z => (tX2_dotsOfPart_41 v x1 x2 x3 x4 y5_41 (lpF n41 (d41 + 1) (bX2_dotsOfPart_41 v x1 x2 x3 x4 y5_41) z))) e_7)
                  exact J75 y5_41 y6_41 y7_41 (y7_41 - y7_41 / x3 * x3) hg _ (lv_sub hl [0, 1, 2, 3, 4, 5, 6, 7] rfl)
        have e_8 : tX2_dotsOfPart_J30 v x1 x2 x3 x4 z0_30 = tX2_dotsOfPart_41 v x1 x2 x3 x4 z0_30 (lpF 24 0 (bX2_dotsOfPart_41 v x1 x2 x3 x4 z0_30) (0, 0)) := by exact rfl
        have hg : fX2_dotsOfPart v x1 x2 x3 x4 = (tX2_dotsOfPart_41 v x1 x2 x3 x4 z0_30 (lpF 24 0 (bX2_dotsOfPart_41 v x1 x2 x3 x4 z0_30) (0, 0))) := hg.trans (congrArg (fun z => z) e_8)
        exact L41 z0_30 24 0 0 0 (by omega) hg _ (lv_sub hl [4, 5, 6, 7, 3, 2, 1, 0] rfl)
      refine lv_icmp_ne (tgt := 29) hC.1 hC.2.1 dX2_dotsOfPart_22 (by decide) (fun k22 => ?_) (fun k22 => ?_)
      · refine lv_iconst (v := 0) hC.1 hC.2.1 dX2_dotsOfPart_29 (by decide) ?_
        have e_9 : fX2_dotsOfPart v x1 x2 x3 x4 = tX2_dotsOfPart_J30 v x1 x2 x3 x4 0 := by exact Eq.trans (if_neg k2) (Eq.trans (if_pos k8) (Eq.trans (if_neg k22) rfl))
        have hg : fX2_dotsOfPart v x1 x2 x3 x4 = tX2_dotsOfPart_J30 v x1 x2 x3 x4 0 := hg.trans (congrArg (fun z => z) e_9)
        exact J30 0 hg _ (lv_sub hl [1, 2, 3, 4] rfl)
      · refine lv_iconst (v := 1) hC.1 hC.2.1 dX2_dotsOfPart_25 (by decide) ?_
        refine lv_goto (tgt := 30) hC.1 hC.2.1 dX2_dotsOfPart_26 (by decide) ?_
        have e_10 : fX2_dotsOfPart v x1 x2 x3 x4 = tX2_dotsOfPart_J30 v x1 x2 x3 x4 1 := by exact Eq.trans (if_neg k2) (Eq.trans (if_pos k8) (Eq.trans (if_pos k22) rfl))
        have hg : fX2_dotsOfPart v x1 x2 x3 x4 = tX2_dotsOfPart_J30 v x1 x2 x3 x4 1 := hg.trans (congrArg (fun z => z) e_10)
        exact J30 1 hg _ (lv_sub hl [1, 2, 3, 4] rfl)
    · refine lv_iconst (v := 0) hC.1 hC.2.1 dX2_dotsOfPart_11 (by decide) ?_
      have e_11 : fX2_dotsOfPart v x1 x2 x3 x4 = 0 := by exact Eq.trans (if_neg k2) (Eq.trans (if_neg k8) rfl)
      have hg : fX2_dotsOfPart v x1 x2 x3 x4 = 0 := hg.trans (congrArg (fun z => z) e_11)
      exact eP_i hC (congrArg Value.int hg) dX2_dotsOfPart_12
