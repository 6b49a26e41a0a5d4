theorem dX2_leastDarkSetting_0 : decode cX2_leastDarkSetting 0 = .ok (.getstatic 153, 3) := by decide +kernel
theorem dX2_leastDarkSetting_3 : decode cX2_leastDarkSetting 3 = .ok (.iconst 0, 1) := by decide +kernel
theorem dX2_leastDarkSetting_4 : decode cX2_leastDarkSetting 4 = .ok (.invokestatic 59, 3) := by decide +kernel
theorem dX2_leastDarkSetting_7 : decode cX2_leastDarkSetting 7 = .ok (.istore_n 2, 1) := by decide +kernel
theorem dX2_leastDarkSetting_8 : decode cX2_leastDarkSetting 8 = .ok (.getstatic 156, 3) := by decide +kernel
theorem dX2_leastDarkSetting_11 : decode cX2_leastDarkSetting 11 = .ok (.iconst 0, 1) := by decide +kernel
theorem dX2_leastDarkSetting_12 : decode cX2_leastDarkSetting 12 = .ok (.invokestatic 59, 3) := by decide +kernel
theorem dX2_leastDarkSetting_15 : decode cX2_leastDarkSetting 15 = .ok (.istore_n 3, 1) := by decide +kernel
theorem dX2_leastDarkSetting_16 : decode cX2_leastDarkSetting 16 = .ok (.iload_n 3, 1) := by decide +kernel
theorem dX2_leastDarkSetting_17 : decode cX2_leastDarkSetting 17 = .ok (.iload_n 2, 1) := by decide +kernel
theorem dX2_leastDarkSetting_18 : decode cX2_leastDarkSetting 18 = .ok (.if_icmp .gt 53, 3) := by decide +kernel
theorem dX2_leastDarkSetting_21 : decode cX2_leastDarkSetting 21 = .ok (.aload_n 0, 1) := by decide +kernel
theorem dX2_leastDarkSetting_22 : decode cX2_leastDarkSetting 22 = .ok (.iload_n 1, 1) := by decide +kernel
theorem dX2_leastDarkSetting_23 : decode cX2_leastDarkSetting 23 = .ok (.iload_n 3, 1) := by decide +kernel
theorem dX2_leastDarkSetting_24 : decode cX2_leastDarkSetting 24 = .ok (.invokevirtual 159, 3) := by decide +kernel
theorem dX2_leastDarkSetting_27 : decode cX2_leastDarkSetting 27 = .ok (.istore 4, 2) := by decide +kernel
theorem dX2_leastDarkSetting_29 : decode cX2_leastDarkSetting 29 = .ok (.aload_n 0, 1) := by decide +kernel
theorem dX2_leastDarkSetting_30 : decode cX2_leastDarkSetting 30 = .ok (.getfield 9, 3) := by decide +kernel
theorem dX2_leastDarkSetting_33 : decode cX2_leastDarkSetting 33 = .ok (.iload_n 1, 1) := by decide +kernel
theorem dX2_leastDarkSetting_34 : decode cX2_leastDarkSetting 34 = .ok (.invokestatic 59, 3) := by decide +kernel
theorem dX2_leastDarkSetting_37 : decode cX2_leastDarkSetting 37 = .ok (.istore 5, 2) := by decide +kernel
theorem dX2_leastDarkSetting_39 : decode cX2_leastDarkSetting 39 = .ok (.aload_n 0, 1) := by decide +kernel
theorem dX2_leastDarkSetting_40 : decode cX2_leastDarkSetting 40 = .ok (.aload_n 0, 1) := by decide +kernel
theorem dX2_leastDarkSetting_41 : decode cX2_leastDarkSetting 41 = .ok (.iload 5, 2) := by decide +kernel
theorem dX2_leastDarkSetting_43 : decode cX2_leastDarkSetting 43 = .ok (.aload_n 0, 1) := by decide +kernel
theorem dX2_leastDarkSetting_44 : decode cX2_leastDarkSetting 44 = .ok (.iload 5, 2) := by decide +kernel
theorem dX2_leastDarkSetting_46 : decode cX2_leastDarkSetting 46 = .ok (.iload 4, 2) := by decide +kernel
theorem dX2_leastDarkSetting_48 : decode cX2_leastDarkSetting 48 = .ok (.invokevirtual 162, 3) := by decide +kernel
theorem dX2_leastDarkSetting_51 : decode cX2_leastDarkSetting 51 = .ok (.invokevirtual 143, 3) := by decide +kernel
theorem dX2_leastDarkSetting_54 : decode cX2_leastDarkSetting 54 = .ok (.iload 4, 2) := by decide +kernel
theorem dX2_leastDarkSetting_56 : decode cX2_leastDarkSetting 56 = .ok (.iadd, 1) := by decide +kernel
theorem dX2_leastDarkSetting_57 : decode cX2_leastDarkSetting 57 = .ok (.invokevirtual 133, 3) := by decide +kernel
theorem dX2_leastDarkSetting_60 : decode cX2_leastDarkSetting 60 = .ok (.ifCond .eq 5, 3) := by decide +kernel
theorem dX2_leastDarkSetting_63 : decode cX2_leastDarkSetting 63 = .ok (.iload_n 3, 1) := by decide +kernel
theorem dX2_leastDarkSetting_64 : decode cX2_leastDarkSetting 64 = .ok (.ireturn, 1) := by decide +kernel
theorem dX2_leastDarkSetting_65 : decode cX2_leastDarkSetting 65 = .ok (.iinc 3 1, 3) := by decide +kernel
theorem dX2_leastDarkSetting_68 : decode cX2_leastDarkSetting 68 = .ok (.goto (-52), 3) := by decide +kernel
theorem dX2_leastDarkSetting_71 : decode cX2_leastDarkSetting 71 = .ok (.iconst (-1), 1) := by decide +kernel
theorem dX2_leastDarkSetting_72 : decode cX2_leastDarkSetting 72 = .ok (.ireturn, 1) := by decide +kernel
set_option maxHeartbeats 1000000 in
set_option maxRecDepth 100000 in
theorem c_X2_leastDarkSetting (l : Launch) (G : GT) (q : Nat → Nat) (v : SV) (x1 : Int32) : Met l yX2_leastDarkSetting (Cond.code yX2_leastDarkSetting cX2_leastDarkSetting 6 (some .int) :: bigW) ({ frames := 3, cells := 0, slots := 0, locals := 70 }) (BP G [.ref (q 0), .int x1] (fun U H => PW G (stW G q v) H)) (QP (.int (fX2_leastDarkSetting v x1))) 0 0 (fun _ => False) := by
  refine met_of (by decide) (Nat.le_of_ble_eq_true rfl) ?_
  intro p e s m below meth c ls hC hKN hB0 hl
  have hP := hB0
  have hl : lv_has ls 6 [(0, .ref (q 0)), (1, .int x1)] := hl
  have hg : fX2_leastDarkSetting v x1 = fX2_leastDarkSetting v x1 := rfl
  refine gsN hC (hKN.2.2.1 2 (by decide)).1 (nf_26 hKN) dX2_leastDarkSetting_0 ?_
  refine lv_iconst (v := 0) hC.1 hC.2.1 dX2_leastDarkSetting_3 (by decide) ?_
  refine runP (rSN (B := fun U H => RD (gA G 2) 7 st2 U H) (As := [.ref (gA G 2), .int 0]) (rest := []) hC mwX5_at (c_X5_at l G (gA G 2) 7 st2 0) wd_249 (nm_5 hKN) ⟨rfl, rfl⟩ ⟨Nat.le_of_ble_eq_true rfl, Nat.le_of_ble_eq_true rfl⟩ (stb_RD _ _ _) hKN (hKN.rd 2 (by decide)) rfl hl.1 rfl (Nat.le_of_ble_eq_true rfl) dX2_leastDarkSetting_4 ⟨Nat.zero_le _, Nat.zero_le _⟩) ?_
  rw [show fX5_at 7 st2 0 = nI 300 from (by decide)]
  refine lv_istore_n (lv' := [(2, .int (nI 300)), (0, .ref (q 0)), (1, .int x1)]) hC.1 hC.2.1 dX2_leastDarkSetting_7 rfl hl (by decide) rfl (fun ls hl => ?_)
  refine gsN hC (hKN.2.2.1 1 (by decide)).1 (nf_27 hKN) dX2_leastDarkSetting_8 ?_
  refine lv_iconst (v := 0) hC.1 hC.2.1 dX2_leastDarkSetting_11 (by decide) ?_
  refine runP (rSN (B := fun U H => RD (gA G 1) 7 st1 U H) (As := [.ref (gA G 1), .int 0]) (rest := []) hC mwX5_at (c_X5_at l G (gA G 1) 7 st1 0) wd_249 (nm_5 hKN) ⟨rfl, rfl⟩ ⟨Nat.le_of_ble_eq_true rfl, Nat.le_of_ble_eq_true rfl⟩ (stb_RD _ _ _) hKN (hKN.rd 1 (by decide)) rfl hl.1 rfl (Nat.le_of_ble_eq_true rfl) dX2_leastDarkSetting_12 ⟨Nat.zero_le _, Nat.zero_le _⟩) ?_
  rw [show fX5_at 7 st1 0 = nI 50 from (by decide)]
  refine lv_istore_n (lv' := [(3, .int (nI 50)), (2, .int (nI 300)), (0, .ref (q 0)), (1, .int x1)]) hC.1 hC.2.1 dX2_leastDarkSetting_15 rfl hl (by decide) rfl (fun ls hl => ?_)
  have A16 : ∀ (y2_16 : Int32), fX2_leastDarkSetting v x1 = (tX2_leastDarkSetting_16 v x1 y2_16 ()) → ∀ (ls : Array Slot), lv_has ls 6 [] → W p l e ({ frames := 3, cells := 0, slots := 0, locals := 70 }) s m ([.ref (q 0), .int x1] : List Value).toArray below meth c s.heap [] 0 0 (MQ below (QP (.int (fX2_leastDarkSetting v x1))) ([.ref (q 0), .int x1] : List Value).toArray s 0 0 (fun _ => False)) (F0 m 71 ls []) := by
    intro y2_16  hg ls hl
    refine lv_iconst (v := (-1)) hC.1 hC.2.1 dX2_leastDarkSetting_71 (by decide) ?_
    have e_1 : tX2_leastDarkSetting_16 v x1 y2_16 () = (-1) := by exact rfl
    have hg : fX2_leastDarkSetting v x1 = (-1) := hg.trans (congrArg (fun z => z) e_1)
    exact eP_i hC (congrArg Value.int hg) dX2_leastDarkSetting_72
  have L16 : ∀ (y2_16 : Int32), ∀ (n16 d16 : Nat), d16 + n16 = 301 → fX2_leastDarkSetting v x1 = (Sum.elim (tX2_leastDarkSetting_16 v x1 y2_16) id (lpR n16 d16 (bX2_leastDarkSetting_16 v x1 y2_16) ())) → ∀ (ls : Array Slot), lv_has ls 6 [(0, .ref (q 0)), (1, .int x1), (2, .int y2_16), (3, .int (nI d16))] → W p l e ({ frames := 3, cells := 0, slots := 0, locals := 70 }) s m ([.ref (q 0), .int x1] : List Value).toArray below meth c s.heap [] 0 0 (MQ below (QP (.int (fX2_leastDarkSetting v x1))) ([.ref (q 0), .int x1] : List Value).toArray s 0 0 (fun _ => False)) (F0 m 16 ls []) := by
    intro y2_16
    intro n16
    induction n16 with
    | zero =>
      intro d16  hd hg ls hl
      refine lv_iload_n hC.1 hC.2.1 dX2_leastDarkSetting_16 rfl (lv_at hl 3 rfl) ?_
      refine lv_iload_n hC.1 hC.2.1 dX2_leastDarkSetting_17 rfl (lv_at hl 2 rfl) ?_
      refine lv_icmp_gt (tgt := 71) hC.1 hC.2.1 dX2_leastDarkSetting_18 (by decide) (fun k18 => ?_) (fun k18 => ?_)
      · exact A16 y2_16  hg _ (lv_sub hl [] rfl)
      · exact absurd (nI_lt (by omega) (by omega)) k18
    | succ n16 ih =>
      intro d16  hd hg ls hl
      have hg : fX2_leastDarkSetting v x1 = (Sum.elim (tX2_leastDarkSetting_16 v x1 y2_16) id (lpRs n16 d16 (bX2_leastDarkSetting_16 v x1 y2_16) (bX2_leastDarkSetting_16 v x1 y2_16 d16 ()))) := hg
      refine lv_iload_n hC.1 hC.2.1 dX2_leastDarkSetting_16 rfl (lv_at hl 3 rfl) ?_
      refine lv_iload_n hC.1 hC.2.1 dX2_leastDarkSetting_17 rfl (lv_at hl 2 rfl) ?_
      refine lv_icmp_gt (tgt := 71) hC.1 hC.2.1 dX2_leastDarkSetting_18 (by decide) (fun k18 => ?_) (fun k18 => ?_)
      · exact absurd k18 (nI_nlt (by omega) (by omega))
      · refine lv_aload_n hC.1 hC.2.1 dX2_leastDarkSetting_21 rfl (lv_at hl 0 rfl) ?_
        refine lv_iload_n hC.1 hC.2.1 dX2_leastDarkSetting_22 rfl (lv_at hl 1 rfl) ?_
        refine lv_iload_n hC.1 hC.2.1 dX2_leastDarkSetting_23 rfl (lv_at hl 3 rfl) ?_
        refine runP (rV (B := fun U H => PW G (stW G q v) H) (As := [.int x1, .int (nI d16)]) (rest := []) hC mwX2_pulseAlone (c_X2_pulseAlone l G q v x1 (nI d16)) iwX2_pulseAlone wd_435 ⟨rfl, rfl⟩ ⟨Nat.le_of_ble_eq_true rfl, Nat.le_of_ble_eq_true rfl⟩ (stb_h (fun H => PW G (stW G q v) H)) hKN hP (va_recv hKN.k hP (ci := 2) (q0 := 0) rfl rfl) rfl hl.1 rfl (Nat.le_of_ble_eq_true rfl) dX2_leastDarkSetting_24 ⟨Nat.zero_le _, Nat.zero_le _⟩) ?_
        refine lv_istore (lv' := [(4, .int (fX2_pulseAlone v x1 (nI d16))), (0, .ref (q 0)), (1, .int x1), (2, .int y2_16), (3, .int (nI d16))]) hC.1 hC.2.1 dX2_leastDarkSetting_27 hl (by decide) rfl (fun ls hl => ?_)
        refine lv_aload_n hC.1 hC.2.1 dX2_leastDarkSetting_29 rfl (lv_at hl 1 rfl) ?_
        refine gf (v := .ref (q 1)) hC fwX2 hKN hP 0 rfl rfl 0 (by decide) rfl wd_116 rfl dX2_leastDarkSetting_30 ?_
        refine lv_iload_n hC.1 hC.2.1 dX2_leastDarkSetting_33 rfl (lv_at hl 2 rfl) ?_
        refine runP (rSN (B := fun U H => RD (q 1) 24 (v 0) U H) (As := [.ref (q 1), .int x1]) (rest := []) hC mwX5_at (c_X5_at l G (q 1) 24 (v 0) x1) wd_249 (nm_5 hKN) ⟨rfl, rfl⟩ ⟨Nat.le_of_ble_eq_true rfl, Nat.le_of_ble_eq_true rfl⟩ (stb_RD _ _ _) hKN (RD.ofP hKN hP 1 rfl) rfl hl.1 rfl (Nat.le_of_ble_eq_true rfl) dX2_leastDarkSetting_34 ⟨Nat.zero_le _, Nat.zero_le _⟩) ?_
        refine lv_istore (lv' := [(5, .int (fX5_at 24 (v 0) x1)), (4, .int (fX2_pulseAlone v x1 (nI d16))), (0, .ref (q 0)), (1, .int x1), (2, .int y2_16), (3, .int (nI d16))]) hC.1 hC.2.1 dX2_leastDarkSetting_37 hl (by decide) rfl (fun ls hl => ?_)
        refine lv_aload_n hC.1 hC.2.1 dX2_leastDarkSetting_39 rfl (lv_at hl 2 rfl) ?_
        refine lv_aload_n hC.1 hC.2.1 dX2_leastDarkSetting_40 rfl (lv_at hl 2 rfl) ?_
        refine lv_iload hC.1 hC.2.1 dX2_leastDarkSetting_41 (lv_at hl 0 rfl) ?_
        refine lv_aload_n hC.1 hC.2.1 dX2_leastDarkSetting_43 rfl (lv_at hl 2 rfl) ?_
        refine lv_iload hC.1 hC.2.1 dX2_leastDarkSetting_44 (lv_at hl 0 rfl) ?_
        refine lv_iload hC.1 hC.2.1 dX2_leastDarkSetting_46 (lv_at hl 1 rfl) ?_
        refine runP (rV (B := fun U H => PW G (stW G q v) H) (As := [.int (fX5_at 24 (v 0) x1), .int (fX2_pulseAlone v x1 (nI d16))]) (rest := [.int (fX5_at 24 (v 0) x1), .ref (q 0), .ref (q 0)]) hC mwX2_waitFor (c_X2_waitFor l G q v (fX5_at 24 (v 0) x1) (fX2_pulseAlone v x1 (nI d16))) iwX2_waitFor wd_445 ⟨rfl, rfl⟩ ⟨Nat.le_of_ble_eq_true rfl, Nat.le_of_ble_eq_true rfl⟩ (stb_h (fun H => PW G (stW G q v) H)) hKN hP (va_recv hKN.k hP (ci := 2) (q0 := 0) rfl rfl) rfl hl.1 rfl (Nat.le_of_ble_eq_true rfl) dX2_leastDarkSetting_48 ⟨Nat.zero_le _, Nat.zero_le _⟩) ?_
        refine runP (rV (B := fun U H => PW G (stW G q v) H) (As := [.int (fX5_at 24 (v 0) x1), .int (fX2_waitFor v (fX5_at 24 (v 0) x1) (fX2_pulseAlone v x1 (nI d16)))]) (rest := [.ref (q 0)]) hC mwX2_cooledFor (c_X2_cooledFor l G q v (fX5_at 24 (v 0) x1) (fX2_waitFor v (fX5_at 24 (v 0) x1) (fX2_pulseAlone v x1 (nI d16)))) iwX2_cooledFor wd_524 ⟨rfl, rfl⟩ ⟨Nat.le_of_ble_eq_true rfl, Nat.le_of_ble_eq_true rfl⟩ (stb_h (fun H => PW G (stW G q v) H)) hKN hP (va_recv hKN.k hP (ci := 2) (q0 := 0) rfl rfl) rfl hl.1 rfl (Nat.le_of_ble_eq_true rfl) dX2_leastDarkSetting_51 ⟨Nat.zero_le _, Nat.zero_le _⟩) ?_
        refine lv_iload hC.1 hC.2.1 dX2_leastDarkSetting_54 (lv_at hl 1 rfl) ?_
        refine lv_iadd hC.1 hC.2.1 dX2_leastDarkSetting_56 ?_
        refine runP (rV (B := fun U H => PW G (stW G q v) H) (As := [.int ((fX2_cooledFor v (fX5_at 24 (v 0) x1) (fX2_waitFor v (fX5_at 24 (v 0) x1) (fX2_pulseAlone v x1 (nI d16)))) + (fX2_pulseAlone v x1 (nI d16)))]) (rest := []) hC mwX2_isDark (c_X2_isDark l G q v ((fX2_cooledFor v (fX5_at 24 (v 0) x1) (fX2_waitFor v (fX5_at 24 (v 0) x1) (fX2_pulseAlone v x1 (nI d16)))) + (fX2_pulseAlone v x1 (nI d16)))) iwX2_isDark wd_532 ⟨rfl, rfl⟩ ⟨Nat.le_of_ble_eq_true rfl, Nat.le_of_ble_eq_true rfl⟩ (stb_h (fun H => PW G (stW G q v) H)) hKN hP (va_recv hKN.k hP (ci := 2) (q0 := 0) rfl rfl) rfl hl.1 rfl (Nat.le_of_ble_eq_true rfl) dX2_leastDarkSetting_57 ⟨Nat.zero_le _, Nat.zero_le _⟩) ?_
        refine lv_if_eq (tgt := 65) hC.1 hC.2.1 dX2_leastDarkSetting_60 (by decide) (fun k60 => ?_) (fun k60 => ?_)
        · refine lv_iinc (v := nI (d16 + 1)) (lv' := [(3, .int (nI (d16 + 1))), (5, .int (fX5_at 24 (v 0) x1)), (4, .int (fX2_pulseAlone v x1 (nI d16))), (0, .ref (q 0)), (1, .int x1), (2, .int y2_16)]) hC.1 hC.2.1 dX2_leastDarkSetting_65 hl (k := 5) rfl (nI_1 _) (by decide) rfl (fun ls hl => ?_)
          refine lv_goto (tgt := 16) hC.1 hC.2.1 dX2_leastDarkSetting_68 (by decide) ?_
          have e_2 : bX2_leastDarkSetting_16 v x1 y2_16 d16 () = Sum.inl () := by exact Eq.trans (if_pos k60) rfl
          have hg : fX2_leastDarkSetting v x1 = (Sum.elim (tX2_leastDarkSetting_16 v x1 y2_16) id (lpR n16 (d16 + 1) (bX2_leastDarkSetting_16 v x1 y2_16) ())) := hg.trans (congrArg (fun z => (Sum.elim (tX2_leastDarkSetting_16 v x1 y2_16) id (lpRs n16 d16 (bX2_leastDarkSetting_16 v x1 y2_16) z))) e_2)
          exact ih (d16 + 1)  (by omega) hg _ (lv_sub hl [3, 4, 5, 0] rfl)
        · refine lv_iload_n hC.1 hC.2.1 dX2_leastDarkSetting_63 rfl (lv_at hl 5 rfl) ?_
          have e_3 : bX2_leastDarkSetting_16 v x1 y2_16 d16 () = Sum.inr (nI d16) := by exact Eq.trans (if_neg k60) rfl
          have hg : fX2_leastDarkSetting v x1 = nI d16 := hg.trans (congrArg (fun z => (Sum.elim (tX2_leastDarkSetting_16 v x1 y2_16) id (lpRs n16 d16 (bX2_leastDarkSetting_16 v x1 y2_16) z))) e_3)
          exact eP_i hC (congrArg Value.int hg) dX2_leastDarkSetting_64
  have e_4 : fX2_leastDarkSetting v x1 = Sum.elim (tX2_leastDarkSetting_16 v x1 (nI 300)) id (lpR (301 - 50) 50 (bX2_leastDarkSetting_16 v x1 (nI 300)) ()) := by exact rfl
  have hg : fX2_leastDarkSetting v x1 = (Sum.elim (tX2_leastDarkSetting_16 v x1 (nI 300)) id (lpR (301 - 50) 50 (bX2_leastDarkSetting_16 v x1 (nI 300)) ())) := hg.trans (congrArg (fun z => z) e_4)
  exact L16 (nI 300) (301 - 50) 50  (by omega) hg _ (lv_sub hl [2, 3, 1, 0] rfl)
