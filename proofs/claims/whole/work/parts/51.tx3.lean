def tX5_print_65 (x : HV) (y1_65 : Int32) (s : HV) : (HV × Int32) ⊕ (Nat × HV) := let v_65 := s; let r_11 := fX5_printPartOfText v_65
  Sum.inl (mkH (r_11 0) (r_11 1) (r_11 2) (r_11 3) (r_11 4) (r_11 5) (r_11 6) (r_11 7) (r_11 8) (r_11 9 0) (r_11 9 1) (r_11 9 2 0) (r_11 9 2 1) 0 , ((r_11 0) 8 2) - y1_65)
def bX5_print_65 (x : HV) (y1_65 : Int32) (d65 : Nat) (s : HV) : HV := let v_65 := s; if (fX0_codeAt (mkB (v_65 9 0) (v_65 9 2 2)) (nI d65)) = 59 then (let r_19 := fX5_printPartOfText v_65
  let r_21 := fX1_take (r_19 9 1) (fX0_codeAt (mkB (v_65 9 0) (v_65 9 2 2)) (nI d65))
  mkH (r_19 0) (r_19 1) (r_19 2) (r_19 3) (r_19 4) (r_19 5) (r_19 6) (r_19 7) (r_19 8) (r_19 9 0) r_21.1 (r_19 9 2 0) (r_19 9 2 1) (r_19 9 2 2) ) else (let r_15 := fX1_take (v_65 9 1) (fX0_codeAt (mkB (v_65 9 0) (v_65 9 2 2)) (nI d65))
  mkH (v_65 0) (v_65 1) (v_65 2) (v_65 3) (v_65 4) (v_65 5) (v_65 6) (v_65 7) (v_65 8) (v_65 9 0) r_15.1 (v_65 9 2 0) (v_65 9 2 1) (v_65 9 2 2) )
def fX5_print (x : HV) : (HV × Int32) ⊕ (Nat × HV) := let r_2 := fX1_readUntilError (x 9 1) (mkB (x 9 0) (x 9 2 2))
  if r_2.2 < (x 9 2 2) then (Sum.inr (0, mkH (x 0) (x 1) (x 2) (x 3) (x 4) (x 5) (x 6) (x 7) (x 8) (x 9 0) r_2.1 (x 9 2 0) (x 9 2 1) (x 9 2 2) )) else (if (fX1_isComplete r_2.1) = 0 then (Sum.inr (0, mkH (x 0) (x 1) (x 2) (x 3) (x 4) (x 5) (x 6) (x 7) (x 8) (x 9 0) r_2.1 (x 9 2 0) (x 9 2 1) (x 9 2 2) )) else (let r_6 := fX5_saveState (mkH (x 0) (x 1) (x 2) (x 3) (x 4) (x 5) (x 6) (x 7) (x 8) (x 9 0) r_2.1 (x 9 2 0) (x 9 2 1) (x 9 2 2))
  let r_8 := fX1_beginPart (r_6 9 1)
  tX5_print_65 x ((r_6 0) 8 2) (lpF ((x 9 2 2).toNatClampNeg) 0 (bX5_print_65 x ((r_6 0) 8 2)) (mkH (r_6 0) (r_6 1) (r_6 2) (r_6 3) (r_6 4) (r_6 5) (r_6 6) (r_6 7) (r_6 8) (r_6 9 0) r_8 (r_6 9 2 0) (r_6 9 2 1) (r_6 9 2 2)))))
theorem W_rueL {r : Nat → Int32} (u : SV) (n : Nat) : ∀ (d : Nat) (s : Nat → Int32), (s 2).toNatClampNeg < 8 → ((Sum.elim (tX1_readUntilError_6 r u) id (lpR n d (bX1_readUntilError_6 r u) s)).1 2).toNatClampNeg < 8 := by
  induction n with
  | zero => intro d s h; exact h
  | succ n ih =>
    intro d s h
    show ((Sum.elim (tX1_readUntilError_6 r u) id (lpRs n d (bX1_readUntilError_6 r u) (bX1_readUntilError_6 r u d s))).1 2).toNatClampNeg < 8
    have w := W_take (fX0_codeAt u (nI d)) h
    unfold bX1_readUntilError_6
    dsimp only
    split
    · exact w
    · exact ih (d + 1) _ w
theorem W_rue {r : Nat → Int32} (u : SV) (h : (r 2).toNatClampNeg < 8) : ((fX1_readUntilError r u).1 2).toNatClampNeg < 8 := W_rueL u _ _ _ (W_beginPart h)
theorem SV_9 (x : HV) : fX5_saveState x 9 1 = x 9 1 ∧ fX5_saveState x 9 2 2 = x 9 2 2 := by
  unfold fX5_saveState
  dsimp only
  split
  · exact ⟨rfl, rfl⟩
  · exact ⟨rfl, rfl⟩
theorem SV_w {x : HV} (h : (x 9 1 2).toNatClampNeg < 8) : (fX5_saveState x 9 1 2).toNatClampNeg < 8 := by rw [(SV_9 x).1]; exact h
theorem SV_l (x : HV) : fX5_saveState x 9 2 2 = x 9 2 2 := (SV_9 x).2
theorem PP_9 (x : HV) : fX5_printPartOfText x 9 1 = x 9 1 ∧ fX5_printPartOfText x 9 2 2 = x 9 2 2 := by
  unfold fX5_printPartOfText
  dsimp only
  repeat' split
  all_goals exact ⟨rfl, rfl⟩
theorem PP_w {x : HV} (h : (x 9 1 2).toNatClampNeg < 8) : (fX5_printPartOfText x 9 1 2).toNatClampNeg < 8 := by rw [(PP_9 x).1]; exact h
theorem PP_l {x : HV} {w : Int32} (h : x 9 2 2 = w) : fX5_printPartOfText x 9 2 2 = w := (PP_9 x).2.trans h
theorem dX5_print_0 : decode cX5_print 0 = .ok (.aload_n 0, 1) := by decide +kernel
theorem dX5_print_1 : decode cX5_print 1 = .ok (.getfield 36, 3) := by decide +kernel
theorem dX5_print_4 : decode cX5_print 4 = .ok (.aload_n 0, 1) := by decide +kernel
theorem dX5_print_5 : decode cX5_print 5 = .ok (.getfield 29, 3) := by decide +kernel
theorem dX5_print_8 : decode cX5_print 8 = .ok (.invokevirtual 149, 3) := by decide +kernel
theorem dX5_print_11 : decode cX5_print 11 = .ok (.aload_n 0, 1) := by decide +kernel
theorem dX5_print_12 : decode cX5_print 12 = .ok (.getfield 29, 3) := by decide +kernel
theorem dX5_print_15 : decode cX5_print 15 = .ok (.getfield 146, 3) := by decide +kernel
theorem dX5_print_18 : decode cX5_print 18 = .ok (.if_icmp .lt 13, 3) := by decide +kernel
theorem dX5_print_21 : decode cX5_print 21 = .ok (.aload_n 0, 1) := by decide +kernel
theorem dX5_print_22 : decode cX5_print 22 = .ok (.getfield 36, 3) := by decide +kernel
theorem dX5_print_25 : decode cX5_print 25 = .ok (.invokevirtual 153, 3) := by decide +kernel
theorem dX5_print_28 : decode cX5_print 28 = .ok (.ifCond .ne 13, 3) := by decide +kernel
theorem dX5_print_31 : decode cX5_print 31 = .ok (.new 52, 3) := by decide +kernel
theorem dX5_print_34 : decode cX5_print 34 = .ok (.dup, 1) := by decide +kernel
theorem dX5_print_35 : decode cX5_print 35 = .ok (.ldc 156, 2) := by decide +kernel
theorem dX5_print_37 : decode cX5_print 37 = .ok (.invokespecial 56, 3) := by decide +kernel
theorem dX5_print_40 : decode cX5_print 40 = .ok (.athrow, 1) := by decide +kernel
theorem dX5_print_41 : decode cX5_print 41 = .ok (.aload_n 0, 1) := by decide +kernel
theorem dX5_print_42 : decode cX5_print 42 = .ok (.invokevirtual 59, 3) := by decide +kernel
theorem dX5_print_45 : decode cX5_print 45 = .ok (.aload_n 0, 1) := by decide +kernel
theorem dX5_print_46 : decode cX5_print 46 = .ok (.getfield 10, 3) := by decide +kernel
theorem dX5_print_49 : decode cX5_print 49 = .ok (.getfield 72, 3) := by decide +kernel
theorem dX5_print_52 : decode cX5_print 52 = .ok (.getfield 158, 3) := by decide +kernel
theorem dX5_print_55 : decode cX5_print 55 = .ok (.istore_n 1, 1) := by decide +kernel
theorem dX5_print_56 : decode cX5_print 56 = .ok (.aload_n 0, 1) := by decide +kernel
theorem dX5_print_57 : decode cX5_print 57 = .ok (.getfield 36, 3) := by decide +kernel
theorem dX5_print_60 : decode cX5_print 60 = .ok (.invokevirtual 161, 3) := by decide +kernel
theorem dX5_print_63 : decode cX5_print 63 = .ok (.iconst 0, 1) := by decide +kernel
theorem dX5_print_64 : decode cX5_print 64 = .ok (.istore_n 2, 1) := by decide +kernel
theorem dX5_print_65 : decode cX5_print 65 = .ok (.iload_n 2, 1) := by decide +kernel
theorem dX5_print_66 : decode cX5_print 66 = .ok (.aload_n 0, 1) := by decide +kernel
theorem dX5_print_67 : decode cX5_print 67 = .ok (.getfield 29, 3) := by decide +kernel
theorem dX5_print_70 : decode cX5_print 70 = .ok (.getfield 146, 3) := by decide +kernel
theorem dX5_print_73 : decode cX5_print 73 = .ok (.if_icmp .ge 37, 3) := by decide +kernel
theorem dX5_print_76 : decode cX5_print 76 = .ok (.aload_n 0, 1) := by decide +kernel
theorem dX5_print_77 : decode cX5_print 77 = .ok (.getfield 29, 3) := by decide +kernel
theorem dX5_print_80 : decode cX5_print 80 = .ok (.iload_n 2, 1) := by decide +kernel
theorem dX5_print_81 : decode cX5_print 81 = .ok (.invokevirtual 164, 3) := by decide +kernel
theorem dX5_print_84 : decode cX5_print 84 = .ok (.istore_n 3, 1) := by decide +kernel
theorem dX5_print_85 : decode cX5_print 85 = .ok (.iload_n 3, 1) := by decide +kernel
theorem dX5_print_86 : decode cX5_print 86 = .ok (.bipush 59, 2) := by decide +kernel
theorem dX5_print_88 : decode cX5_print 88 = .ok (.if_icmp .ne 7, 3) := by decide +kernel
theorem dX5_print_91 : decode cX5_print 91 = .ok (.aload_n 0, 1) := by decide +kernel
theorem dX5_print_92 : decode cX5_print 92 = .ok (.invokevirtual 167, 3) := by decide +kernel
theorem dX5_print_95 : decode cX5_print 95 = .ok (.aload_n 0, 1) := by decide +kernel
theorem dX5_print_96 : decode cX5_print 96 = .ok (.getfield 36, 3) := by decide +kernel
theorem dX5_print_99 : decode cX5_print 99 = .ok (.iload_n 3, 1) := by decide +kernel
theorem dX5_print_100 : decode cX5_print 100 = .ok (.invokevirtual 170, 3) := by decide +kernel
theorem dX5_print_103 : decode cX5_print 103 = .ok (.pop, 1) := by decide +kernel
theorem dX5_print_104 : decode cX5_print 104 = .ok (.iinc 2 1, 3) := by decide +kernel
theorem dX5_print_107 : decode cX5_print 107 = .ok (.goto (-42), 3) := by decide +kernel
theorem dX5_print_110 : decode cX5_print 110 = .ok (.aload_n 0, 1) := by decide +kernel
theorem dX5_print_111 : decode cX5_print 111 = .ok (.invokevirtual 167, 3) := by decide +kernel
theorem dX5_print_114 : decode cX5_print 114 = .ok (.aload_n 0, 1) := by decide +kernel
theorem dX5_print_115 : decode cX5_print 115 = .ok (.getfield 29, 3) := by decide +kernel
theorem dX5_print_118 : decode cX5_print 118 = .ok (.iconst 0, 1) := by decide +kernel
theorem dX5_print_119 : decode cX5_print 119 = .ok (.putfield 146, 3) := by decide +kernel
theorem dX5_print_122 : decode cX5_print 122 = .ok (.aload_n 0, 1) := by decide +kernel
theorem dX5_print_123 : decode cX5_print 123 = .ok (.getfield 10, 3) := by decide +kernel
theorem dX5_print_126 : decode cX5_print 126 = .ok (.getfield 72, 3) := by decide +kernel
theorem dX5_print_129 : decode cX5_print 129 = .ok (.getfield 158, 3) := by decide +kernel
theorem dX5_print_132 : decode cX5_print 132 = .ok (.iload_n 1, 1) := by decide +kernel
theorem dX5_print_133 : decode cX5_print 133 = .ok (.isub, 1) := by decide +kernel
theorem dX5_print_134 : decode cX5_print 134 = .ok (.ireturn, 1) := by decide +kernel
set_option maxHeartbeats 1000000 in
set_option maxRecDepth 100000 in
theorem c_X5_print (l : Launch) (hL : l.stackTraces = false) (G : GT) (a : Nat → Nat) (b0 : Nat → Nat) (x : HV) (hq : hdD G a b0) (hI : le_n (x 9 2 0) 6 ∧ (x 9 1 2).toNatClampNeg < 8) : vx_Met l yX5_print (Cond.code yX5_print cX5_print 4 (some .int) :: bigW) ({ frames := 7, cells := 1, slots := 6, locals := 149 }) (BP G [.ref (a 0)] (fun U H => PW G (hdW G a b0 x) H)) (QT (fX5_print x) (fun x' H => ∃ b', hdR G a b0 b' ∧ PW G (hdW G a b' x') H) (hdA a b0)) (XT (fX5_print x) (fun x' H => ∃ b', hdR G a b0 b' ∧ PW G (hdW G a b' x') H) (hdA a b0)) 1 6 (hdA a b0) := by
  refine met_ofX (by decide) (Nat.le_of_ble_eq_true rfl) ?_
  intro p e s m below meth c ls hC hX hKN hB0 hl
  have hP := hB0
  have hl : lv_has ls 4 [(0, .ref (a 0))] := hl
  have hS : va_S (hdA a b0) s.heap s.heap [] := va_S.rf
  have hAL : ∀ z, (hdA a b0) z → gL G ≤ z := hdD_low hq
  obtain ⟨b, hbe⟩ : ∃ b, b = b0 := ⟨_, rfl⟩
  rw [← hbe] at hP
  have hq0 := hq
  rw [← hbe] at hq
  have hAb : ∀ z, hdA a b z → hdA a b0 z := by rw [hbe]; exact fun _ h => h
  have hg : fX5_print x = fX5_print x := rfl
  refine lv_aload_n hC.1 hC.2.1 dX5_print_0 rfl (lv_at hl 0 rfl) ?_
  refine gf (v := .ref (a 4)) hC fwX5 hKN hP 0 rfl rfl 5 (by decide) rfl wd_208 rfl dX5_print_1 ?_
  refine lv_aload_n hC.1 hC.2.1 dX5_print_4 rfl (lv_at hl 0 rfl) ?_
  refine gf (v := .ref (a 2)) hC fwX5 hKN hP 0 rfl rfl 4 (by decide) rfl wd_207 rfl dX5_print_5 ?_
  refine runE (rV (B := fun U H => PW G (rrW G (a 4) (x 9 1)) H ∧ PW G (bfW G (bA a) (mkB (x 9 0) (x 9 2 2))) H) (As := [.ref (a 2)]) (rest := []) hC mwX1_readUntilError (c_X1_readUntilError l G (a 4) (x 9 1) (bA a) (mkB (x 9 0) (x 9 2 2)) (hdD_rr hq) (hdD_rb hq) hI.2) iwX1_readUntilError wd_236 ⟨rfl, rfl⟩ ⟨Nat.le_of_ble_eq_true rfl, Nat.le_of_ble_eq_true rfl⟩ (stb_and (stb_h (fun H => PW G (rrW G (a 4) (x 9 1)) H)) (stb_h (fun H => PW G (bfW G (bA a) (mkB (x 9 0) (x 9 2 2))) H))) hKN ⟨(hd_rr (x := x) hP), (hd_bf (x := x) hP)⟩ (va_recv hKN.k (hd_rr (x := x) hP) (ci := 1) (q0 := 0) rfl rfl) rfl hl.1 rfl (Nat.le_of_ble_eq_true rfl) dX5_print_8 ⟨Nat.zero_le _, Nat.zero_le _⟩) hS (fun _ h => hAb _ (hdA_rr h)) (fun _ h => hAb _ (hdA_rr h)) (fun H locs hq_1 _ hk_3 hS => ?_)
  have hP : PW G (hdW G a b (mkH (x 0) (x 1) (x 2) (x 3) (x 4) (x 5) (x 6) (x 7) (x 8) (x 9 0) ((fX1_readUntilError (x 9 1) (mkB (x 9 0) (x 9 2 2))).1) (x 9 2 0) (x 9 2 1) (x 9 2 2))) H := hd_setRr (x := x) hq hP hq_1 hk_3
  obtain ⟨r_2, er_2⟩ : ∃ z, z = fX1_readUntilError (x 9 1) (mkB (x 9 0) (x 9 2 2)) := ⟨_, rfl⟩
  rw [← er_2] at hP
  show W p l e ({ frames := 7, cells := 1, slots := 6, locals := 149 }) s m ([.ref (a 0)] : List Value).toArray below meth c H locs (0 + 0) (0 + 0) _ (F0 m (8 + 3) ls [.int ((fX1_readUntilError (x 9 1) (mkB (x 9 0) (x 9 2 2))).2)])
  rw [← er_2]
  have hI : le_n ((mkH (x 0) (x 1) (x 2) (x 3) (x 4) (x 5) (x 6) (x 7) (x 8) (x 9 0) r_2.1 (x 9 2 0) (x 9 2 1) (x 9 2 2)) 9 2 0) 6 ∧ ((mkH (x 0) (x 1) (x 2) (x 3) (x 4) (x 5) (x 6) (x 7) (x 8) (x 9 0) r_2.1 (x 9 2 0) (x 9 2 1) (x 9 2 2)) 9 1 2).toNatClampNeg < 8 := by rw [er_2]; exact ⟨hI.1, W_rue _ hI.2⟩
  refine lv_aload_n hC.1 hC.2.1 dX5_print_11 rfl (lv_at hl 0 rfl) ?_
  refine gf (v := .ref (a 2)) hC fwX5 (hKN.go hAL hS) hP 0 rfl rfl 4 (by decide) rfl wd_207 rfl dX5_print_12 ?_
  refine gfN (v := .int (x 9 2 2)) hC fwX0 (hKN.go hAL hS) hP 2 rfl rfl 1 (by decide) rfl (nf_19 (hKN.go hAL hS)) rfl dX5_print_15 ?_
  refine lv_icmp_lt (tgt := 31) hC.1 hC.2.1 dX5_print_18 (by decide) (fun k18 => ?_) (fun k18 => ?_)
  · have e_4 : fX5_print x = Sum.inr (0, mkH (x 0) (x 1) (x 2) (x 3) (x 4) (x 5) (x 6) (x 7) (x 8) (x 9 0) r_2.1 (x 9 2 0) (x 9 2 1) (x 9 2 2) ) := by
      delta fX5_print
      try dsimp only
      rw [← er_2]
      exact Eq.trans (if_pos k18) rfl
    have hg : fX5_print x = Sum.inr (0, mkH (x 0) (x 1) (x 2) (x 3) (x 4) (x 5) (x 6) (x 7) (x 8) (x 9 0) r_2.1 (x 9 2 0) (x 9 2 1) (x 9 2 2) ) := by have e2 := congrArg (fun z => z) e_4; exact hg.trans e2
    exact eT_x hC rfl hX hKN hL 0 (by decide) 8 (by decide) hl.1 hg (fun H2 _ h => ⟨b, ⟨hq, hAb⟩, PW_same hP h⟩) hS hAL dX5_print_31 dX5_print_34 dX5_print_35 dX5_print_37 dX5_print_40 (by decide) (by decide) (Nat.le_refl _) (Nat.le_refl _) (Nat.le_refl _) (Nat.le_refl _)
  · refine lv_aload_n hC.1 hC.2.1 dX5_print_21 rfl (lv_at hl 0 rfl) ?_
    refine gf (v := .ref (a 4)) hC fwX5 (hKN.go hAL hS) hP 0 rfl rfl 5 (by decide) rfl wd_208 rfl dX5_print_22 ?_
    refine runP (rV (B := fun U H => PW G (rrW G (a 4) r_2.1) H) (As := []) (rest := []) hC mwX1_isComplete (c_X1_isComplete l G (a 4) r_2.1) iwX1_isComplete wd_791 ⟨rfl, rfl⟩ ⟨Nat.le_of_ble_eq_true rfl, Nat.le_of_ble_eq_true rfl⟩ (stb_h (fun H => PW G (rrW G (a 4) r_2.1) H)) (hKN.go hAL hS) (hd_rr (x := mkH (x 0) (x 1) (x 2) (x 3) (x 4) (x 5) (x 6) (x 7) (x 8) (x 9 0) r_2.1 (x 9 2 0) (x 9 2 1) (x 9 2 2)) hP) (va_recv (hKN.go hAL hS).k (hd_rr (x := mkH (x 0) (x 1) (x 2) (x 3) (x 4) (x 5) (x 6) (x 7) (x 8) (x 9 0) r_2.1 (x 9 2 0) (x 9 2 1) (x 9 2 2)) hP) (ci := 1) (q0 := 0) rfl rfl) rfl hl.1 rfl (Nat.le_of_ble_eq_true rfl) dX5_print_25 ⟨Nat.zero_le _, Nat.zero_le _⟩) ?_
    refine lv_if_ne (tgt := 41) hC.1 hC.2.1 dX5_print_28 (by decide) (fun k28 => ?_) (fun k28 => ?_)
    · refine lv_aload_n hC.1 hC.2.1 dX5_print_41 rfl (lv_at hl 0 rfl) ?_
      refine runE (rV (B := fun U H => PW G (hdW G a b (mkH (x 0) (x 1) (x 2) (x 3) (x 4) (x 5) (x 6) (x 7) (x 8) (x 9 0) r_2.1 (x 9 2 0) (x 9 2 1) (x 9 2 2))) H) (As := []) (rest := []) hC mwX5_saveState (c_X5_saveState l G a b (mkH (x 0) (x 1) (x 2) (x 3) (x 4) (x 5) (x 6) (x 7) (x 8) (x 9 0) r_2.1 (x 9 2 0) (x 9 2 1) (x 9 2 2)) hq hI.1) iwX5_saveState wd_676 ⟨rfl, rfl⟩ ⟨Nat.le_of_ble_eq_true rfl, Nat.le_of_ble_eq_true rfl⟩ (stb_h (fun H => PW G (hdW G a b (mkH (x 0) (x 1) (x 2) (x 3) (x 4) (x 5) (x 6) (x 7) (x 8) (x 9 0) r_2.1 (x 9 2 0) (x 9 2 1) (x 9 2 2))) H)) (hKN.go hAL hS) hP (va_recv (hKN.go hAL hS).k hP (ci := 5) (q0 := 0) rfl rfl) rfl hl.1 rfl (Nat.le_of_ble_eq_true rfl) dX5_print_42 ⟨Nat.zero_le _, Nat.zero_le _⟩) hS (fun _ h => hAb _ h) (fun _ h => hAb _ h) (fun H locs hq_5 _ _ hS => ?_)
      obtain ⟨b, ⟨hq, hR⟩, hP⟩ := hq_5
      have hAb := fun z h => hAb z (hR z h)
      obtain ⟨r_6, er_6⟩ : ∃ z, z = fX5_saveState (mkH (x 0) (x 1) (x 2) (x 3) (x 4) (x 5) (x 6) (x 7) (x 8) (x 9 0) r_2.1 (x 9 2 0) (x 9 2 1) (x 9 2 2)) := ⟨_, rfl⟩
      rw [← er_6] at hP
      have hI : (r_6 9 1 2).toNatClampNeg < 8 ∧ r_6 9 2 2 = x 9 2 2 := by rw [er_6]; exact ⟨SV_w hI.2, SV_l _⟩
      refine lv_aload_n hC.1 hC.2.1 dX5_print_45 rfl (lv_at hl 0 rfl) ?_
      refine gf (v := .ref (a 5)) hC fwX5 (hKN.go hAL hS) hP 0 rfl rfl 0 (by decide) rfl wd_203 rfl dX5_print_46 ?_
      refine gfN (v := .ref (sA a 0 8)) hC fwX2 (hKN.go hAL hS) hP 5 rfl rfl 4 (by decide) rfl (nf_16 (hKN.go hAL hS)) rfl dX5_print_49 ?_
      refine gfN (v := .int ((r_6 0) 8 2)) hC fwX4 (hKN.go hAL hS) hP 13 rfl rfl 3 (by decide) rfl (nf_7 (hKN.go hAL hS)) rfl dX5_print_52 ?_
      refine lv_istore_n (lv' := [(1, .int ((r_6 0) 8 2)), (0, .ref (a 0))]) hC.1 hC.2.1 dX5_print_55 rfl hl (by decide) rfl (fun ls hl => ?_)
      refine lv_aload_n hC.1 hC.2.1 dX5_print_56 rfl (lv_at hl 1 rfl) ?_
      refine gf (v := .ref (a 4)) hC fwX5 (hKN.go hAL hS) hP 0 rfl rfl 5 (by decide) rfl wd_208 rfl dX5_print_57 ?_
      refine runE (rV (B := fun U H => PW G (rrW G (a 4) (r_6 9 1)) H) (As := []) (rest := []) hC mwX1_beginPart (c_X1_beginPart l G (a 4) (r_6 9 1) (hdD_rr hq)) iwX1_beginPart wd_793 ⟨rfl, rfl⟩ ⟨Nat.le_of_ble_eq_true rfl, Nat.le_of_ble_eq_true rfl⟩ (stb_h (fun H => PW G (rrW G (a 4) (r_6 9 1)) H)) (hKN.go hAL hS) (hd_rr (x := r_6) hP) (va_recv (hKN.go hAL hS).k (hd_rr (x := r_6) hP) (ci := 1) (q0 := 0) rfl rfl) rfl hl.1 rfl (Nat.le_of_ble_eq_true rfl) dX5_print_60 ⟨Nat.zero_le _, Nat.zero_le _⟩) hS (fun _ h => hAb _ (hdA_rr h)) (fun _ h => hAb _ (hdA_rr h)) (fun H locs hq_7 _ hk_9 hS => ?_)
      have hP : PW G (hdW G a b (mkH (r_6 0) (r_6 1) (r_6 2) (r_6 3) (r_6 4) (r_6 5) (r_6 6) (r_6 7) (r_6 8) (r_6 9 0) (fX1_beginPart (r_6 9 1)) (r_6 9 2 0) (r_6 9 2 1) (r_6 9 2 2))) H := hd_setRr (x := r_6) hq hP hq_7 hk_9
      obtain ⟨r_8, er_8⟩ : ∃ z, z = fX1_beginPart (r_6 9 1) := ⟨_, rfl⟩
      rw [← er_8] at hP
      have hI : ((mkH (r_6 0) (r_6 1) (r_6 2) (r_6 3) (r_6 4) (r_6 5) (r_6 6) (r_6 7) (r_6 8) (r_6 9 0) r_8 (r_6 9 2 0) (r_6 9 2 1) (r_6 9 2 2)) 9 1 2).toNatClampNeg < 8 ∧ (mkH (r_6 0) (r_6 1) (r_6 2) (r_6 3) (r_6 4) (r_6 5) (r_6 6) (r_6 7) (r_6 8) (r_6 9 0) r_8 (r_6 9 2 0) (r_6 9 2 1) (r_6 9 2 2)) 9 2 2 = x 9 2 2 := by rw [er_8]; exact ⟨W_beginPart hI.1, hI.2⟩
      refine lv_iconst (v := 0) hC.1 hC.2.1 dX5_print_63 (by decide) ?_
      refine lv_istore_n (lv' := [(2, .int 0), (1, .int ((r_6 0) 8 2)), (0, .ref (a 0))]) hC.1 hC.2.1 dX5_print_64 rfl hl (by decide) rfl (fun ls hl => ?_)
      have A65 : ∀ (y1_65 : Int32), ∀ (v_65 : HV), fX5_print x = (tX5_print_65 x y1_65 v_65) → (v_65 9 1 2).toNatClampNeg < 8 ∧ v_65 9 2 2 = x 9 2 2 → ∀ (H : Heap) (locs : List Loc), PW G (hdW G a b v_65) H → va_S (hdA a b0) s.heap H locs → ∀ (ls : Array Slot), lv_has ls 4 [(0, .ref (a 0)), (1, .int y1_65)] → W p l e ({ frames := 7, cells := 1, slots := 6, locals := 149 }) s m ([.ref (a 0)] : List Value).toArray below meth c H locs 0 0 (vx_MQ below (QT (fX5_print x) (fun x' H => ∃ b', hdR G a b0 b' ∧ PW G (hdW G a b' x') H) (hdA a b0)) (XT (fX5_print x) (fun x' H => ∃ b', hdR G a b0 b' ∧ PW G (hdW G a b' x') H) (hdA a b0)) ([.ref (a 0)] : List Value).toArray s 1 6 (hdA a b0)) (F0 m 110 ls []) := by
        intro y1_65 v_65 hg hI H locs hP hS ls hl
        refine lv_aload_n hC.1 hC.2.1 dX5_print_110 rfl (lv_at hl 0 rfl) ?_
        refine runE (rV (B := fun U H => PW G (hdW G a b v_65) H) (As := []) (rest := []) hC mwX5_printPartOfText (c_X5_printPartOfText l G a b v_65 hq) iwX5_printPartOfText wd_794 ⟨rfl, rfl⟩ ⟨Nat.le_of_ble_eq_true rfl, Nat.le_of_ble_eq_true rfl⟩ (stb_h (fun H => PW G (hdW G a b v_65) H)) (hKN.go hAL hS) hP (va_recv (hKN.go hAL hS).k hP (ci := 5) (q0 := 0) rfl rfl) rfl hl.1 rfl (Nat.le_of_ble_eq_true rfl) dX5_print_111 ⟨Nat.zero_le _, Nat.zero_le _⟩) hS (fun _ h => hAb _ h) (fun _ h => hAb _ h) (fun H locs hq_10 _ _ hS => ?_)
        have hP : PW G (hdW G a b (fX5_printPartOfText v_65)) H := hq_10
        obtain ⟨r_11, er_11⟩ : ∃ z, z = fX5_printPartOfText v_65 := ⟨_, rfl⟩
        rw [← er_11] at hP
        have hI : True := trivial
        refine lv_aload_n hC.1 hC.2.1 dX5_print_114 rfl (lv_at hl 0 rfl) ?_
        refine gf (v := .ref (a 2)) hC fwX5 (hKN.go hAL hS) hP 0 rfl rfl 4 (by decide) rfl wd_207 rfl dX5_print_115 ?_
        refine lv_iconst (v := 0) hC.1 hC.2.1 dX5_print_118 (by decide) ?_
        refine pfON (x := r_11) (v := .int 0) (tv := .int) (x' := mkH (r_11 0) (r_11 1) (r_11 2) (r_11 3) (r_11 4) (r_11 5) (r_11 6) (r_11 7) (r_11 8) (r_11 9 0) (r_11 9 1) (r_11 9 2 0) (r_11 9 2 1) 0) hC fwX0 (hKN.go hAL hS) hP hq hAb hS 2 (by decide) rfl rfl 1 (by decide) rfl (nf_19 (hKN.go hAL hS)) rfl rfl rfl (Nat.le_of_ble_eq_true rfl) rfl ⟨rfl, rfl, rfl, rfl, rfl, rfl, rfl, rfl, rfl⟩ dX5_print_119 (fun H locs hP hS => ?_)
        have hI : True := trivial
        refine lv_aload_n hC.1 hC.2.1 dX5_print_122 rfl (lv_at hl 0 rfl) ?_
        refine gf (v := .ref (a 5)) hC fwX5 (hKN.go hAL hS) hP 0 rfl rfl 0 (by decide) rfl wd_203 rfl dX5_print_123 ?_
        refine gfN (v := .ref (sA a 0 8)) hC fwX2 (hKN.go hAL hS) hP 5 rfl rfl 4 (by decide) rfl (nf_16 (hKN.go hAL hS)) rfl dX5_print_126 ?_
        refine gfN (v := .int ((r_11 0) 8 2)) hC fwX4 (hKN.go hAL hS) hP 13 rfl rfl 3 (by decide) rfl (nf_7 (hKN.go hAL hS)) rfl dX5_print_129 ?_
        refine lv_iload_n hC.1 hC.2.1 dX5_print_132 rfl (lv_at hl 1 rfl) ?_
        refine lv_isub hC.1 hC.2.1 dX5_print_133 ?_
        have e_13 : tX5_print_65 x y1_65 v_65 = Sum.inl (mkH (r_11 0) (r_11 1) (r_11 2) (r_11 3) (r_11 4) (r_11 5) (r_11 6) (r_11 7) (r_11 8) (r_11 9 0) (r_11 9 1) (r_11 9 2 0) (r_11 9 2 1) 0 , ((r_11 0) 8 2) - y1_65) := by
          delta tX5_print_65
          try dsimp only
          rw [← er_11]
        have hg : fX5_print x = Sum.inl (mkH (r_11 0) (r_11 1) (r_11 2) (r_11 3) (r_11 4) (r_11 5) (r_11 6) (r_11 7) (r_11 8) (r_11 9 0) (r_11 9 1) (r_11 9 2 0) (r_11 9 2 1) 0 , ((r_11 0) 8 2) - y1_65) := by have e2 := congrArg (fun z => z) e_13; exact hg.trans e2
        exact eT_i hC hg ⟨b, ⟨hq, hAb⟩, hP⟩ hS (Nat.zero_le _) (Nat.zero_le _) dX5_print_134
      have L65 : ∀ (y1_65 : Int32), ∀ (n65 d65 : Nat), ∀ (v_65 : HV), d65 + n65 = ((x 9 2 2).toNatClampNeg) → fX5_print x = (tX5_print_65 x y1_65 (lpF n65 d65 (bX5_print_65 x y1_65) v_65)) → (v_65 9 1 2).toNatClampNeg < 8 ∧ v_65 9 2 2 = x 9 2 2 → ∀ (H : Heap) (locs : List Loc), PW G (hdW G a b v_65) H → va_S (hdA a b0) s.heap H locs → ∀ (ls : Array Slot), lv_has ls 4 [(0, .ref (a 0)), (1, .int y1_65), (2, .int (nI d65))] → W p l e ({ frames := 7, cells := 1, slots := 6, locals := 149 }) s m ([.ref (a 0)] : List Value).toArray below meth c H locs 0 0 (vx_MQ below (QT (fX5_print x) (fun x' H => ∃ b', hdR G a b0 b' ∧ PW G (hdW G a b' x') H) (hdA a b0)) (XT (fX5_print x) (fun x' H => ∃ b', hdR G a b0 b' ∧ PW G (hdW G a b' x') H) (hdA a b0)) ([.ref (a 0)] : List Value).toArray s 1 6 (hdA a b0)) (F0 m 65 ls []) := by
        intro y1_65
        intro n65
        induction n65 with
        | zero =>
          intro d65 v_65 hd hg hI H locs hP hS ls hl
          refine lv_iload_n hC.1 hC.2.1 dX5_print_65 rfl (lv_at hl 2 rfl) ?_
          refine lv_aload_n hC.1 hC.2.1 dX5_print_66 rfl (lv_at hl 0 rfl) ?_
          refine gf (v := .ref (a 2)) hC fwX5 (hKN.go hAL hS) hP 0 rfl rfl 4 (by decide) rfl wd_207 rfl dX5_print_67 ?_
          refine gfN (v := .int (v_65 9 2 2)) hC fwX0 (hKN.go hAL hS) hP 2 rfl rfl 1 (by decide) rfl (nf_19 (hKN.go hAL hS)) rfl dX5_print_70 ?_
          refine lv_icmp_ge (tgt := 110) hC.1 hC.2.1 dX5_print_73 (by decide) (fun k73 => ?_) (fun k73 => ?_)
          · exact A65 y1_65 v_65 hg hI _ _ hP hS _ (lv_sub hl [0, 1] rfl)
          · exact absurd (by rw [hI.2]; exact cl_le (by omega) (by have := cl_lt (x 9 2 2); omega)) k73
        | succ n65 ih =>
          intro d65 v_65 hd hg hI H locs hP hS ls hl
          have hg : fX5_print x = (tX5_print_65 x y1_65 (lpF n65 (d65 + 1) (bX5_print_65 x y1_65) (bX5_print_65 x y1_65 d65 v_65))) := hg
          refine lv_iload_n hC.1 hC.2.1 dX5_print_65 rfl (lv_at hl 2 rfl) ?_
          refine lv_aload_n hC.1 hC.2.1 dX5_print_66 rfl (lv_at hl 0 rfl) ?_
          refine gf (v := .ref (a 2)) hC fwX5 (hKN.go hAL hS) hP 0 rfl rfl 4 (by decide) rfl wd_207 rfl dX5_print_67 ?_
          refine gfN (v := .int (v_65 9 2 2)) hC fwX0 (hKN.go hAL hS) hP 2 rfl rfl 1 (by decide) rfl (nf_19 (hKN.go hAL hS)) rfl dX5_print_70 ?_
          refine lv_icmp_ge (tgt := 110) hC.1 hC.2.1 dX5_print_73 (by decide) (fun k73 => ?_) (fun k73 => ?_)
          · exact absurd k73 (by rw [hI.2]; exact cl_nle (by omega))
          · refine lv_aload_n hC.1 hC.2.1 dX5_print_76 rfl (lv_at hl 0 rfl) ?_
            refine gf (v := .ref (a 2)) hC fwX5 (hKN.go hAL hS) hP 0 rfl rfl 4 (by decide) rfl wd_207 rfl dX5_print_77 ?_
            refine lv_iload_n hC.1 hC.2.1 dX5_print_80 rfl (lv_at hl 2 rfl) ?_
            refine runP (rV (B := fun U H => PW G (bfW G (bA a) (mkB (v_65 9 0) (v_65 9 2 2))) H) (As := [.int (nI d65)]) (rest := []) hC mwX0_codeAt (c_X0_codeAt l G (bA a) (mkB (v_65 9 0) (v_65 9 2 2)) (nI d65)) iwX0_codeAt wd_596 ⟨rfl, rfl⟩ ⟨Nat.le_of_ble_eq_true rfl, Nat.le_of_ble_eq_true rfl⟩ (stb_h (fun H => PW G (bfW G (bA a) (mkB (v_65 9 0) (v_65 9 2 2))) H)) (hKN.go hAL hS) (hd_bf (x := v_65) hP) (va_recv (hKN.go hAL hS).k (hd_bf (x := v_65) hP) (ci := 0) (q0 := 0) rfl rfl) rfl hl.1 rfl (Nat.le_of_ble_eq_true rfl) dX5_print_81 ⟨Nat.zero_le _, Nat.zero_le _⟩) ?_
            refine lv_istore_n (lv' := [(3, .int (fX0_codeAt (mkB (v_65 9 0) (v_65 9 2 2)) (nI d65))), (0, .ref (a 0)), (1, .int y1_65), (2, .int (nI d65))]) hC.1 hC.2.1 dX5_print_84 rfl hl (by decide) rfl (fun ls hl => ?_)
            refine lv_iload_n hC.1 hC.2.1 dX5_print_85 rfl (lv_at hl 0 rfl) ?_
            refine lv_bipush (v := 59) hC.1 hC.2.1 dX5_print_86 (by decide +kernel) ?_
            refine lv_icmp_ne (tgt := 95) hC.1 hC.2.1 dX5_print_88 (by decide) (fun k88 => ?_) (fun k88 => ?_)
            · refine lv_aload_n hC.1 hC.2.1 dX5_print_95 rfl (lv_at hl 1 rfl) ?_
              refine gf (v := .ref (a 4)) hC fwX5 (hKN.go hAL hS) hP 0 rfl rfl 5 (by decide) rfl wd_208 rfl dX5_print_96 ?_
              refine lv_iload_n hC.1 hC.2.1 dX5_print_99 rfl (lv_at hl 0 rfl) ?_
              refine runE (rV (B := fun U H => PW G (rrW G (a 4) (v_65 9 1)) H) (As := [.int (fX0_codeAt (mkB (v_65 9 0) (v_65 9 2 2)) (nI d65))]) (rest := []) hC mwX1_take (c_X1_take l G (a 4) (v_65 9 1) (fX0_codeAt (mkB (v_65 9 0) (v_65 9 2 2)) (nI d65)) (hdD_rr hq) hI.1) iwX1_take wd_799 ⟨rfl, rfl⟩ ⟨Nat.le_of_ble_eq_true rfl, Nat.le_of_ble_eq_true rfl⟩ (stb_h (fun H => PW G (rrW G (a 4) (v_65 9 1)) H)) (hKN.go hAL hS) (hd_rr (x := v_65) hP) (va_recv (hKN.go hAL hS).k (hd_rr (x := v_65) hP) (ci := 1) (q0 := 0) rfl rfl) rfl hl.1 rfl (Nat.le_of_ble_eq_true rfl) dX5_print_100 ⟨Nat.zero_le _, Nat.zero_le _⟩) hS (fun _ h => hAb _ (hdA_rr h)) (fun _ h => hAb _ (hdA_rr h)) (fun H locs hq_14 _ hk_16 hS => ?_)
              have hP : PW G (hdW G a b (mkH (v_65 0) (v_65 1) (v_65 2) (v_65 3) (v_65 4) (v_65 5) (v_65 6) (v_65 7) (v_65 8) (v_65 9 0) ((fX1_take (v_65 9 1) (fX0_codeAt (mkB (v_65 9 0) (v_65 9 2 2)) (nI d65))).1) (v_65 9 2 0) (v_65 9 2 1) (v_65 9 2 2))) H := hd_setRr (x := v_65) hq hP hq_14 hk_16
              obtain ⟨r_15, er_15⟩ : ∃ z, z = fX1_take (v_65 9 1) (fX0_codeAt (mkB (v_65 9 0) (v_65 9 2 2)) (nI d65)) := ⟨_, rfl⟩
              rw [← er_15] at hP
              show W p l e ({ frames := 7, cells := 1, slots := 6, locals := 149 }) s m ([.ref (a 0)] : List Value).toArray below meth c H locs (0 + 0) (0 + 0) _ (F0 m (100 + 3) ls [.int ((fX1_take (v_65 9 1) (fX0_codeAt (mkB (v_65 9 0) (v_65 9 2 2)) (nI d65))).2)])
              rw [← er_15]
              have hI : ((mkH (v_65 0) (v_65 1) (v_65 2) (v_65 3) (v_65 4) (v_65 5) (v_65 6) (v_65 7) (v_65 8) (v_65 9 0) r_15.1 (v_65 9 2 0) (v_65 9 2 1) (v_65 9 2 2)) 9 1 2).toNatClampNeg < 8 ∧ (mkH (v_65 0) (v_65 1) (v_65 2) (v_65 3) (v_65 4) (v_65 5) (v_65 6) (v_65 7) (v_65 8) (v_65 9 0) r_15.1 (v_65 9 2 0) (v_65 9 2 1) (v_65 9 2 2)) 9 2 2 = x 9 2 2 := by rw [er_15]; exact ⟨W_take _ hI.1, hI.2⟩
              refine lv_pop hC.1 hC.2.1 dX5_print_103 rfl ?_
              refine lv_iinc (v := nI (d65 + 1)) (lv' := [(2, .int (nI (d65 + 1))), (3, .int (fX0_codeAt (mkB (v_65 9 0) (v_65 9 2 2)) (nI d65))), (0, .ref (a 0)), (1, .int y1_65)]) hC.1 hC.2.1 dX5_print_104 hl (k := 3) rfl (nI_1 _) (by decide) rfl (fun ls hl => ?_)
              refine lv_goto (tgt := 65) hC.1 hC.2.1 dX5_print_107 (by decide) ?_
              have e_17 : bX5_print_65 x y1_65 d65 v_65 = mkH (v_65 0) (v_65 1) (v_65 2) (v_65 3) (v_65 4) (v_65 5) (v_65 6) (v_65 7) (v_65 8) (v_65 9 0) r_15.1 (v_65 9 2 0) (v_65 9 2 1) (v_65 9 2 2)  := by
                delta bX5_print_65
                try dsimp only
                rw [← er_15]
                exact Eq.trans (if_neg k88) rfl
              have hg : fX5_print x = (tX5_print_65 x y1_65 (lpF n65 (d65 + 1) (bX5_print_65 x y1_65) (mkH (v_65 0) (v_65 1) (v_65 2) (v_65 3) (v_65 4) (v_65 5) (v_65 6) (v_65 7) (v_65 8) (v_65 9 0) r_15.1 (v_65 9 2 0) (v_65 9 2 1) (v_65 9 2 2)))) := by have e2 := congrArg (fun z => (tX5_print_65 x y1_65 (lpF n65 (d65 + 1) (bX5_print_65 x y1_65) z))) e_17; exact hg.trans e2
              exact ih (d65 + 1) (mkH (v_65 0) (v_65 1) (v_65 2) (v_65 3) (v_65 4) (v_65 5) (v_65 6) (v_65 7) (v_65 8) (v_65 9 0) r_15.1 (v_65 9 2 0) (v_65 9 2 1) (v_65 9 2 2)) (by omega) hg hI _ _ hP hS _ (lv_sub hl [2, 3, 0] rfl)
            · refine lv_aload_n hC.1 hC.2.1 dX5_print_91 rfl (lv_at hl 1 rfl) ?_
              refine runE (rV (B := fun U H => PW G (hdW G a b v_65) H) (As := []) (rest := []) hC mwX5_printPartOfText (c_X5_printPartOfText l G a b v_65 hq) iwX5_printPartOfText wd_794 ⟨rfl, rfl⟩ ⟨Nat.le_of_ble_eq_true rfl, Nat.le_of_ble_eq_true rfl⟩ (stb_h (fun H => PW G (hdW G a b v_65) H)) (hKN.go hAL hS) hP (va_recv (hKN.go hAL hS).k hP (ci := 5) (q0 := 0) rfl rfl) rfl hl.1 rfl (Nat.le_of_ble_eq_true rfl) dX5_print_92 ⟨Nat.zero_le _, Nat.zero_le _⟩) hS (fun _ h => hAb _ h) (fun _ h => hAb _ h) (fun H locs hq_18 _ _ hS => ?_)
              have hP : PW G (hdW G a b (fX5_printPartOfText v_65)) H := hq_18
              obtain ⟨r_19, er_19⟩ : ∃ z, z = fX5_printPartOfText v_65 := ⟨_, rfl⟩
              rw [← er_19] at hP
              have hI : (r_19 9 1 2).toNatClampNeg < 8 ∧ r_19 9 2 2 = x 9 2 2 := by rw [er_19]; exact ⟨PP_w hI.1, PP_l hI.2⟩
              refine lv_aload_n hC.1 hC.2.1 dX5_print_95 rfl (lv_at hl 1 rfl) ?_
              refine gf (v := .ref (a 4)) hC fwX5 (hKN.go hAL hS) hP 0 rfl rfl 5 (by decide) rfl wd_208 rfl dX5_print_96 ?_
              refine lv_iload_n hC.1 hC.2.1 dX5_print_99 rfl (lv_at hl 0 rfl) ?_
              refine runE (rV (B := fun U H => PW G (rrW G (a 4) (r_19 9 1)) H) (As := [.int (fX0_codeAt (mkB (v_65 9 0) (v_65 9 2 2)) (nI d65))]) (rest := []) hC mwX1_take (c_X1_take l G (a 4) (r_19 9 1) (fX0_codeAt (mkB (v_65 9 0) (v_65 9 2 2)) (nI d65)) (hdD_rr hq) hI.1) iwX1_take wd_799 ⟨rfl, rfl⟩ ⟨Nat.le_of_ble_eq_true rfl, Nat.le_of_ble_eq_true rfl⟩ (stb_h (fun H => PW G (rrW G (a 4) (r_19 9 1)) H)) (hKN.go hAL hS) (hd_rr (x := r_19) hP) (va_recv (hKN.go hAL hS).k (hd_rr (x := r_19) hP) (ci := 1) (q0 := 0) rfl rfl) rfl hl.1 rfl (Nat.le_of_ble_eq_true rfl) dX5_print_100 ⟨Nat.zero_le _, Nat.zero_le _⟩) hS (fun _ h => hAb _ (hdA_rr h)) (fun _ h => hAb _ (hdA_rr h)) (fun H locs hq_20 _ hk_22 hS => ?_)
              have hP : PW G (hdW G a b (mkH (r_19 0) (r_19 1) (r_19 2) (r_19 3) (r_19 4) (r_19 5) (r_19 6) (r_19 7) (r_19 8) (r_19 9 0) ((fX1_take (r_19 9 1) (fX0_codeAt (mkB (v_65 9 0) (v_65 9 2 2)) (nI d65))).1) (r_19 9 2 0) (r_19 9 2 1) (r_19 9 2 2))) H := hd_setRr (x := r_19) hq hP hq_20 hk_22
              obtain ⟨r_21, er_21⟩ : ∃ z, z = fX1_take (r_19 9 1) (fX0_codeAt (mkB (v_65 9 0) (v_65 9 2 2)) (nI d65)) := ⟨_, rfl⟩
              rw [← er_21] at hP
              show W p l e ({ frames := 7, cells := 1, slots := 6, locals := 149 }) s m ([.ref (a 0)] : List Value).toArray below meth c H locs (0 + 0) (0 + 0) _ (F0 m (100 + 3) ls [.int ((fX1_take (r_19 9 1) (fX0_codeAt (mkB (v_65 9 0) (v_65 9 2 2)) (nI d65))).2)])
              rw [← er_21]
              have hI : ((mkH (r_19 0) (r_19 1) (r_19 2) (r_19 3) (r_19 4) (r_19 5) (r_19 6) (r_19 7) (r_19 8) (r_19 9 0) r_21.1 (r_19 9 2 0) (r_19 9 2 1) (r_19 9 2 2)) 9 1 2).toNatClampNeg < 8 ∧ (mkH (r_19 0) (r_19 1) (r_19 2) (r_19 3) (r_19 4) (r_19 5) (r_19 6) (r_19 7) (r_19 8) (r_19 9 0) r_21.1 (r_19 9 2 0) (r_19 9 2 1) (r_19 9 2 2)) 9 2 2 = x 9 2 2 := by rw [er_21]; exact ⟨W_take _ hI.1, hI.2⟩
              refine lv_pop hC.1 hC.2.1 dX5_print_103 rfl ?_
              refine lv_iinc (v := nI (d65 + 1)) (lv' := [(2, .int (nI (d65 + 1))), (3, .int (fX0_codeAt (mkB (v_65 9 0) (v_65 9 2 2)) (nI d65))), (0, .ref (a 0)), (1, .int y1_65)]) hC.1 hC.2.1 dX5_print_104 hl (k := 3) rfl (nI_1 _) (by decide) rfl (fun ls hl => ?_)
              refine lv_goto (tgt := 65) hC.1 hC.2.1 dX5_print_107 (by decide) ?_
              have e_23 : bX5_print_65 x y1_65 d65 v_65 = mkH (r_19 0) (r_19 1) (r_19 2) (r_19 3) (r_19 4) (r_19 5) (r_19 6) (r_19 7) (r_19 8) (r_19 9 0) r_21.1 (r_19 9 2 0) (r_19 9 2 1) (r_19 9 2 2)  := by
                delta bX5_print_65
                try dsimp only
                rw [← er_19]
                rw [← er_21]
                exact Eq.trans (if_pos k88) rfl
              have hg : fX5_print x = (tX5_print_65 x y1_65 (lpF n65 (d65 + 1) (bX5_print_65 x y1_65) (mkH (r_19 0) (r_19 1) (r_19 2) (r_19 3) (r_19 4) (r_19 5) (r_19 6) (r_19 7) (r_19 8) (r_19 9 0) r_21.1 (r_19 9 2 0) (r_19 9 2 1) (r_19 9 2 2)))) := by have e2 := congrArg (fun z => (tX5_print_65 x y1_65 (lpF n65 (d65 + 1) (bX5_print_65 x y1_65) z))) e_23; exact hg.trans e2
              exact ih (d65 + 1) (mkH (r_19 0) (r_19 1) (r_19 2) (r_19 3) (r_19 4) (r_19 5) (r_19 6) (r_19 7) (r_19 8) (r_19 9 0) r_21.1 (r_19 9 2 0) (r_19 9 2 1) (r_19 9 2 2)) (by omega) hg hI _ _ hP hS _ (lv_sub hl [2, 3, 0] rfl)
      have e_24 : fX5_print x = tX5_print_65 x ((r_6 0) 8 2) (lpF ((x 9 2 2).toNatClampNeg) 0 (bX5_print_65 x ((r_6 0) 8 2)) (mkH (r_6 0) (r_6 1) (r_6 2) (r_6 3) (r_6 4) (r_6 5) (r_6 6) (r_6 7) (r_6 8) (r_6 9 0) r_8 (r_6 9 2 0) (r_6 9 2 1) (r_6 9 2 2))) := by
        delta fX5_print
        try dsimp only
        rw [← er_2]
        rw [← er_6]
        rw [← er_8]
        exact Eq.trans (if_neg k18) (Eq.trans (if_neg k28) rfl)
      have hg : fX5_print x = (tX5_print_65 x ((r_6 0) 8 2) (lpF ((x 9 2 2).toNatClampNeg) 0 (bX5_print_65 x ((r_6 0) 8 2)) (mkH (r_6 0) (r_6 1) (r_6 2) (r_6 3) (r_6 4) (r_6 5) (r_6 6) (r_6 7) (r_6 8) (r_6 9 0) r_8 (r_6 9 2 0) (r_6 9 2 1) (r_6 9 2 2)))) := by have e2 := congrArg (fun z => z) e_24; exact hg.trans e2
      exact L65 ((r_6 0) 8 2) ((x 9 2 2).toNatClampNeg) 0 (mkH (r_6 0) (r_6 1) (r_6 2) (r_6 3) (r_6 4) (r_6 5) (r_6 6) (r_6 7) (r_6 8) (r_6 9 0) r_8 (r_6 9 2 0) (r_6 9 2 1) (r_6 9 2 2)) (by omega) hg hI _ _ hP hS _ (lv_sub hl [2, 1, 0] rfl)
    · have e_25 : fX5_print x = Sum.inr (0, mkH (x 0) (x 1) (x 2) (x 3) (x 4) (x 5) (x 6) (x 7) (x 8) (x 9 0) r_2.1 (x 9 2 0) (x 9 2 1) (x 9 2 2) ) := by
        delta fX5_print
        try dsimp only
        rw [← er_2]
        exact Eq.trans (if_neg k18) (Eq.trans (if_pos k28) rfl)
      have hg : fX5_print x = Sum.inr (0, mkH (x 0) (x 1) (x 2) (x 3) (x 4) (x 5) (x 6) (x 7) (x 8) (x 9 0) r_2.1 (x 9 2 0) (x 9 2 1) (x 9 2 2) ) := by have e2 := congrArg (fun z => z) e_25; exact hg.trans e2
      exact eT_x hC rfl hX hKN hL 0 (by decide) 8 (by decide) hl.1 hg (fun H2 _ h => ⟨b, ⟨hq, hAb⟩, PW_same hP h⟩) hS hAL dX5_print_31 dX5_print_34 dX5_print_35 dX5_print_37 dX5_print_40 (by decide) (by decide) (Nat.le_refl _) (Nat.le_refl _) (Nat.le_refl _) (Nat.le_refl _)
