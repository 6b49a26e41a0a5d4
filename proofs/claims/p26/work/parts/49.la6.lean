def fL_sets (x : HV) (v : SV) (x3 : Int32) : (SV × HV) × Int32 := if (nI ((fL_low x3 7).toNatClampNeg)) = 0 then (let w_44 : Int32 := (50 : Int32) + (fL_low (x3 >>> (3 &&& 31)) 251); let r_47 := fX5_set x (nI ((fL_low x3 7).toNatClampNeg)) ((upd (v 4) ((fL_low x3 7).toNatClampNeg) w_44) ((fL_low x3 7).toNatClampNeg))
  if r_47.2 = ((v 4) ((fL_low x3 7).toNatClampNeg)) then (((mkL (v 0) (v 1) (v 2) (v 3) (upd (v 4) ((fL_low x3 7).toNatClampNeg) w_44), r_47.1), 1)) else (((mkL (v 0) (v 1) (v 2) (v 3) (upd (v 4) ((fL_low x3 7).toNatClampNeg) w_44), r_47.1), 0))) else (if (nI ((fL_low x3 7).toNatClampNeg)) = 1 then (let w_37 : Int32 := (5 : Int32) + (fL_low (x3 >>> (3 &&& 31)) 196); let r_40 := fX5_set x (nI ((fL_low x3 7).toNatClampNeg)) ((upd (v 4) ((fL_low x3 7).toNatClampNeg) w_37) ((fL_low x3 7).toNatClampNeg))
  if r_40.2 = ((v 4) ((fL_low x3 7).toNatClampNeg)) then (((mkL (v 0) (v 1) (v 2) (v 3) (upd (v 4) ((fL_low x3 7).toNatClampNeg) w_37), r_40.1), 1)) else (((mkL (v 0) (v 1) (v 2) (v 3) (upd (v 4) ((fL_low x3 7).toNatClampNeg) w_37), r_40.1), 0))) else (if (nI ((fL_low x3 7).toNatClampNeg)) = 2 then (let w_30 : Int32 := (330 : Int32) + (fL_low (x3 >>> (3 &&& 31)) 571); let r_33 := fX5_set x (nI ((fL_low x3 7).toNatClampNeg)) ((upd (v 4) ((fL_low x3 7).toNatClampNeg) w_30) ((fL_low x3 7).toNatClampNeg))
  if r_33.2 = ((v 4) ((fL_low x3 7).toNatClampNeg)) then (((mkL (v 0) (v 1) (v 2) (v 3) (upd (v 4) ((fL_low x3 7).toNatClampNeg) w_30), r_33.1), 1)) else (((mkL (v 0) (v 1) (v 2) (v 3) (upd (v 4) ((fL_low x3 7).toNatClampNeg) w_30), r_33.1), 0))) else (if (nI ((fL_low x3 7).toNatClampNeg)) = 3 then (let w_23 : Int32 := (1 : Int32) + (fL_low (x3 >>> (3 &&& 31)) 20); let r_26 := fX5_set x (nI ((fL_low x3 7).toNatClampNeg)) ((upd (v 4) ((fL_low x3 7).toNatClampNeg) w_23) ((fL_low x3 7).toNatClampNeg))
  if r_26.2 = ((v 4) ((fL_low x3 7).toNatClampNeg)) then (((mkL (v 0) (v 1) (v 2) (v 3) (upd (v 4) ((fL_low x3 7).toNatClampNeg) w_23), r_26.1), 1)) else (((mkL (v 0) (v 1) (v 2) (v 3) (upd (v 4) ((fL_low x3 7).toNatClampNeg) w_23), r_26.1), 0))) else (if (nI ((fL_low x3 7).toNatClampNeg)) = 4 then (let w_16 : Int32 := (1 : Int32) + (fL_low (x3 >>> (3 &&& 31)) 200); let r_19 := fX5_set x (nI ((fL_low x3 7).toNatClampNeg)) ((upd (v 4) ((fL_low x3 7).toNatClampNeg) w_16) ((fL_low x3 7).toNatClampNeg))
  if r_19.2 = ((v 4) ((fL_low x3 7).toNatClampNeg)) then (((mkL (v 0) (v 1) (v 2) (v 3) (upd (v 4) ((fL_low x3 7).toNatClampNeg) w_16), r_19.1), 1)) else (((mkL (v 0) (v 1) (v 2) (v 3) (upd (v 4) ((fL_low x3 7).toNatClampNeg) w_16), r_19.1), 0))) else (if (nI ((fL_low x3 7).toNatClampNeg)) = 5 then (let w_9 : Int32 := fL_low (x3 >>> (3 &&& 31)) 2; let r_12 := fX5_set x (nI ((fL_low x3 7).toNatClampNeg)) ((upd (v 4) ((fL_low x3 7).toNatClampNeg) w_9) ((fL_low x3 7).toNatClampNeg))
  if r_12.2 = ((v 4) ((fL_low x3 7).toNatClampNeg)) then (((mkL (v 0) (v 1) (v 2) (v 3) (upd (v 4) ((fL_low x3 7).toNatClampNeg) w_9), r_12.1), 1)) else (((mkL (v 0) (v 1) (v 2) (v 3) (upd (v 4) ((fL_low x3 7).toNatClampNeg) w_9), r_12.1), 0))) else (let w_2 : Int32 := fL_low (x3 >>> (3 &&& 31)) 51; let r_5 := fX5_set x (nI ((fL_low x3 7).toNatClampNeg)) ((upd (v 4) ((fL_low x3 7).toNatClampNeg) w_2) ((fL_low x3 7).toNatClampNeg))
  if r_5.2 = ((v 4) ((fL_low x3 7).toNatClampNeg)) then (((mkL (v 0) (v 1) (v 2) (v 3) (upd (v 4) ((fL_low x3 7).toNatClampNeg) w_2), r_5.1), 1)) else (((mkL (v 0) (v 1) (v 2) (v 3) (upd (v 4) ((fL_low x3 7).toNatClampNeg) w_2), r_5.1), 0))))))))
theorem dL_sets_0 : decode cL_sets 0 = .ok (.iload_n 2, 1) := by decide +kernel
theorem dL_sets_1 : decode cL_sets 1 = .ok (.bipush 7, 2) := by decide +kernel
theorem dL_sets_3 : decode cL_sets 3 = .ok (.invokestatic 78, 3) := by decide +kernel
theorem dL_sets_6 : decode cL_sets 6 = .ok (.istore_n 3, 1) := by decide +kernel
theorem dL_sets_7 : decode cL_sets 7 = .ok (.iload_n 2, 1) := by decide +kernel
theorem dL_sets_8 : decode cL_sets 8 = .ok (.iconst 3, 1) := by decide +kernel
theorem dL_sets_9 : decode cL_sets 9 = .ok (.ishr, 1) := by decide +kernel
theorem dL_sets_10 : decode cL_sets 10 = .ok (.istore 4, 2) := by decide +kernel
theorem dL_sets_12 : decode cL_sets 12 = .ok (.aload_n 1, 1) := by decide +kernel
theorem dL_sets_13 : decode cL_sets 13 = .ok (.iload_n 3, 1) := by decide +kernel
theorem dL_sets_14 : decode cL_sets 14 = .ok (.iaload, 1) := by decide +kernel
theorem dL_sets_15 : decode cL_sets 15 = .ok (.istore 5, 2) := by decide +kernel
theorem dL_sets_17 : decode cL_sets 17 = .ok (.aload_n 1, 1) := by decide +kernel
theorem dL_sets_18 : decode cL_sets 18 = .ok (.iload_n 3, 1) := by decide +kernel
theorem dL_sets_19 : decode cL_sets 19 = .ok (.iload_n 3, 1) := by decide +kernel
theorem dL_sets_20 : decode cL_sets 20 = .ok (.ifCond .ne 17, 3) := by decide +kernel
theorem dL_sets_23 : decode cL_sets 23 = .ok (.bipush 50, 2) := by decide +kernel
theorem dL_sets_25 : decode cL_sets 25 = .ok (.iload 4, 2) := by decide +kernel
theorem dL_sets_27 : decode cL_sets 27 = .ok (.sipush 251, 3) := by decide +kernel
theorem dL_sets_30 : decode cL_sets 30 = .ok (.invokestatic 78, 3) := by decide +kernel
theorem dL_sets_33 : decode cL_sets 33 = .ok (.iadd, 1) := by decide +kernel
theorem dL_sets_34 : decode cL_sets 34 = .ok (.goto 97, 3) := by decide +kernel
theorem dL_sets_37 : decode cL_sets 37 = .ok (.iload_n 3, 1) := by decide +kernel
theorem dL_sets_38 : decode cL_sets 38 = .ok (.iconst 1, 1) := by decide +kernel
theorem dL_sets_39 : decode cL_sets 39 = .ok (.if_icmp .ne 16, 3) := by decide +kernel
theorem dL_sets_42 : decode cL_sets 42 = .ok (.iconst 5, 1) := by decide +kernel
theorem dL_sets_43 : decode cL_sets 43 = .ok (.iload 4, 2) := by decide +kernel
theorem dL_sets_45 : decode cL_sets 45 = .ok (.sipush 196, 3) := by decide +kernel
theorem dL_sets_48 : decode cL_sets 48 = .ok (.invokestatic 78, 3) := by decide +kernel
theorem dL_sets_51 : decode cL_sets 51 = .ok (.iadd, 1) := by decide +kernel
theorem dL_sets_52 : decode cL_sets 52 = .ok (.goto 79, 3) := by decide +kernel
theorem dL_sets_55 : decode cL_sets 55 = .ok (.iload_n 3, 1) := by decide +kernel
theorem dL_sets_56 : decode cL_sets 56 = .ok (.iconst 2, 1) := by decide +kernel
theorem dL_sets_57 : decode cL_sets 57 = .ok (.if_icmp .ne 18, 3) := by decide +kernel
theorem dL_sets_60 : decode cL_sets 60 = .ok (.sipush 330, 3) := by decide +kernel
theorem dL_sets_63 : decode cL_sets 63 = .ok (.iload 4, 2) := by decide +kernel
theorem dL_sets_65 : decode cL_sets 65 = .ok (.sipush 571, 3) := by decide +kernel
theorem dL_sets_68 : decode cL_sets 68 = .ok (.invokestatic 78, 3) := by decide +kernel
theorem dL_sets_71 : decode cL_sets 71 = .ok (.iadd, 1) := by decide +kernel
theorem dL_sets_72 : decode cL_sets 72 = .ok (.goto 59, 3) := by decide +kernel
theorem dL_sets_75 : decode cL_sets 75 = .ok (.iload_n 3, 1) := by decide +kernel
theorem dL_sets_76 : decode cL_sets 76 = .ok (.iconst 3, 1) := by decide +kernel
theorem dL_sets_77 : decode cL_sets 77 = .ok (.if_icmp .ne 15, 3) := by decide +kernel
theorem dL_sets_80 : decode cL_sets 80 = .ok (.iconst 1, 1) := by decide +kernel
theorem dL_sets_81 : decode cL_sets 81 = .ok (.iload 4, 2) := by decide +kernel
theorem dL_sets_83 : decode cL_sets 83 = .ok (.bipush 20, 2) := by decide +kernel
theorem dL_sets_85 : decode cL_sets 85 = .ok (.invokestatic 78, 3) := by decide +kernel
theorem dL_sets_88 : decode cL_sets 88 = .ok (.iadd, 1) := by decide +kernel
theorem dL_sets_89 : decode cL_sets 89 = .ok (.goto 42, 3) := by decide +kernel
theorem dL_sets_92 : decode cL_sets 92 = .ok (.iload_n 3, 1) := by decide +kernel
theorem dL_sets_93 : decode cL_sets 93 = .ok (.iconst 4, 1) := by decide +kernel
theorem dL_sets_94 : decode cL_sets 94 = .ok (.if_icmp .ne 16, 3) := by decide +kernel
theorem dL_sets_97 : decode cL_sets 97 = .ok (.iconst 1, 1) := by decide +kernel
theorem dL_sets_98 : decode cL_sets 98 = .ok (.iload 4, 2) := by decide +kernel
theorem dL_sets_100 : decode cL_sets 100 = .ok (.sipush 200, 3) := by decide +kernel
theorem dL_sets_103 : decode cL_sets 103 = .ok (.invokestatic 78, 3) := by decide +kernel
theorem dL_sets_106 : decode cL_sets 106 = .ok (.iadd, 1) := by decide +kernel
theorem dL_sets_107 : decode cL_sets 107 = .ok (.goto 24, 3) := by decide +kernel
theorem dL_sets_110 : decode cL_sets 110 = .ok (.iload_n 3, 1) := by decide +kernel
theorem dL_sets_111 : decode cL_sets 111 = .ok (.iconst 5, 1) := by decide +kernel
theorem dL_sets_112 : decode cL_sets 112 = .ok (.if_icmp .ne 12, 3) := by decide +kernel
theorem dL_sets_115 : decode cL_sets 115 = .ok (.iload 4, 2) := by decide +kernel
theorem dL_sets_117 : decode cL_sets 117 = .ok (.iconst 2, 1) := by decide +kernel
theorem dL_sets_118 : decode cL_sets 118 = .ok (.invokestatic 78, 3) := by decide +kernel
theorem dL_sets_121 : decode cL_sets 121 = .ok (.goto 10, 3) := by decide +kernel
theorem dL_sets_124 : decode cL_sets 124 = .ok (.iload 4, 2) := by decide +kernel
theorem dL_sets_126 : decode cL_sets 126 = .ok (.bipush 51, 2) := by decide +kernel
theorem dL_sets_128 : decode cL_sets 128 = .ok (.invokestatic 78, 3) := by decide +kernel
theorem dL_sets_131 : decode cL_sets 131 = .ok (.iastore, 1) := by decide +kernel
theorem dL_sets_132 : decode cL_sets 132 = .ok (.aload_n 0, 1) := by decide +kernel
theorem dL_sets_133 : decode cL_sets 133 = .ok (.iload_n 3, 1) := by decide +kernel
theorem dL_sets_134 : decode cL_sets 134 = .ok (.aload_n 1, 1) := by decide +kernel
theorem dL_sets_135 : decode cL_sets 135 = .ok (.iload_n 3, 1) := by decide +kernel
theorem dL_sets_136 : decode cL_sets 136 = .ok (.iaload, 1) := by decide +kernel
theorem dL_sets_137 : decode cL_sets 137 = .ok (.invokevirtual 82, 3) := by decide +kernel
theorem dL_sets_140 : decode cL_sets 140 = .ok (.iload 5, 2) := by decide +kernel
theorem dL_sets_142 : decode cL_sets 142 = .ok (.if_icmp .ne 7, 3) := by decide +kernel
theorem dL_sets_145 : decode cL_sets 145 = .ok (.iconst 1, 1) := by decide +kernel
theorem dL_sets_146 : decode cL_sets 146 = .ok (.goto 4, 3) := by decide +kernel
theorem dL_sets_149 : decode cL_sets 149 = .ok (.iconst 0, 1) := by decide +kernel
theorem dL_sets_150 : decode cL_sets 150 = .ok (.ireturn, 1) := by decide +kernel
set_option maxHeartbeats 4000000 in
set_option maxRecDepth 100000 in
theorem c_L_sets (l : Launch) (G : GT) (a : Nat → Nat) (b0 : Nat → Nat) (x : HV) (q : Nat → Nat) (v : SV) (x3 : Int32) (hql : lwD G q) (hq : hdD G a b0) (hN : ∀ z, lwA q z → ¬ hdA a b0 z) (hI : le_n (((v, x)).2 9 2 0) 6) : Met l yL_sets (Cond.code yL_sets cL_sets 6 (some .boolean) :: bigW) ({ frames := 6, cells := 0, slots := 0, locals := 137 }) (BP G [.ref (a 0), .ref (q 4), .int x3] (fun U H => PW G (lwW G q v ++ hdW G a b0 x) H)) (QE (some (.int (fL_sets x v x3).2)) (fun H => ∃ b', hdR G a b0 b' ∧ PW G (lwW G q (fL_sets x v x3).1.1 ++ hdW G a b' (fL_sets x v x3).1.2) H) (jnA q a b0)) 0 0 (jnA q a b0) := by
  refine met_of (by decide) (Nat.le_of_ble_eq_true rfl) ?_
  intro p e s m below meth c ls hC hKN hB0 hl
  have hP := hB0
  have hl : lv_has ls 6 [(0, .ref (a 0)), (1, .ref (q 4)), (2, .int x3)] := hl
  have hS : va_S (jnA q a b0) s.heap s.heap [] := va_S.rf
  have hAL : ∀ z, (jnA q a b0) z → gL G ≤ z := jnA_low hql hq
  obtain ⟨b, hbe⟩ : ∃ b, b = b0 := ⟨_, rfl⟩
  have hRb : hdR G a b0 b := by rw [hbe]; exact hdR.rf hq
  rw [← hbe] at hP hN hq
  have hAj : ∀ z, jnA q a b z → (jnA q a b0) z := by rw [hbe]; exact fun _ h => h
  have hAq : ∀ z, lwA q z → (jnA q a b0) z := fun _ h => Or.inl h
  have hAb : ∀ z, hdA a b z → (jnA q a b0) z := fun z h => hAj z (Or.inr h)
  have hg : fL_sets x v x3 = fL_sets x v x3 := rfl
  refine lv_iload_n hC.1 hC.2.1 dL_sets_0 rfl (lv_at hl 2 rfl) ?_
  refine lv_bipush (v := 7) hC.1 hC.2.1 dL_sets_1 (by decide +kernel) ?_
  refine runP (rS (B := fun U H => True) (As := [.int x3, .int 7]) (rest := []) hC mwL_low (c_L_low l G x3 7 (by decide)) wd_219 wd_218 ⟨rfl, rfl⟩ ⟨Nat.le_of_ble_eq_true rfl, Nat.le_of_ble_eq_true rfl⟩ (fun _ _ _ _ h => h) hKN trivial rfl hl.1 rfl (Nat.le_of_ble_eq_true rfl) dL_sets_3 ⟨Nat.zero_le _, Nat.zero_le _⟩) ?_
  refine lv_topi (fun w_1 ew_1 => ?_)
  rw [show w_1 = nI ((fL_low x3 7).toNatClampNeg) from ew_1.trans (lq (low_7 _))]
  refine lv_istore_n (lv' := [(3, .int (nI ((fL_low x3 7).toNatClampNeg))), (0, .ref (a 0)), (1, .ref (q 4)), (2, .int x3)]) hC.1 hC.2.1 dL_sets_6 rfl hl (by decide) rfl (fun ls hl => ?_)
  refine lv_iload_n hC.1 hC.2.1 dL_sets_7 rfl (lv_at hl 3 rfl) ?_
  refine lv_iconst (v := 3) hC.1 hC.2.1 dL_sets_8 (by decide) ?_
  refine lv_ishr hC.1 hC.2.1 dL_sets_9 ?_
  refine lv_istore (lv' := [(4, .int (x3 >>> (3 &&& 31))), (3, .int (nI ((fL_low x3 7).toNatClampNeg))), (0, .ref (a 0)), (1, .ref (q 4)), (2, .int x3)]) hC.1 hC.2.1 dL_sets_10 hl (by decide) rfl (fun ls hl => ?_)
  refine lv_aload_n hC.1 hC.2.1 dL_sets_12 rfl (lv_at hl 3 rfl) ?_
  refine lv_iload_n hC.1 hC.2.1 dL_sets_13 rfl (lv_at hl 1 rfl) ?_
  refine iald_k hC hKN hP 4 rfl (n := 21) (f := (v 4)) ((fL_low x3 7).toNatClampNeg) (rfl) (Nat.lt_trans (low7 _) (by decide)) (by first | decide | omega) dL_sets_14 ?_
  refine lv_istore (lv' := [(5, .int ((v 4) ((fL_low x3 7).toNatClampNeg))), (4, .int (x3 >>> (3 &&& 31))), (3, .int (nI ((fL_low x3 7).toNatClampNeg))), (0, .ref (a 0)), (1, .ref (q 4)), (2, .int x3)]) hC.1 hC.2.1 dL_sets_15 hl (by decide) rfl (fun ls hl => ?_)
  refine lv_aload_n hC.1 hC.2.1 dL_sets_17 rfl (lv_at hl 4 rfl) ?_
  refine lv_iload_n hC.1 hC.2.1 dL_sets_18 rfl (lv_at hl 2 rfl) ?_
  refine lv_iload_n hC.1 hC.2.1 dL_sets_19 rfl (lv_at hl 2 rfl) ?_
  refine lv_if_ne (tgt := 37) hC.1 hC.2.1 dL_sets_20 (by decide) (fun k20 => ?_) (fun k20 => ?_)
  · refine lv_iload_n hC.1 hC.2.1 dL_sets_37 rfl (lv_at hl 2 rfl) ?_
    refine lv_iconst (v := 1) hC.1 hC.2.1 dL_sets_38 (by decide) ?_
    refine lv_icmp_ne (tgt := 55) hC.1 hC.2.1 dL_sets_39 (by decide) (fun k39 => ?_) (fun k39 => ?_)
    · refine lv_iload_n hC.1 hC.2.1 dL_sets_55 rfl (lv_at hl 2 rfl) ?_
      refine lv_iconst (v := 2) hC.1 hC.2.1 dL_sets_56 (by decide) ?_
      refine lv_icmp_ne (tgt := 75) hC.1 hC.2.1 dL_sets_57 (by decide) (fun k57 => ?_) (fun k57 => ?_)
      · refine lv_iload_n hC.1 hC.2.1 dL_sets_75 rfl (lv_at hl 2 rfl) ?_
        refine lv_iconst (v := 3) hC.1 hC.2.1 dL_sets_76 (by decide) ?_
        refine lv_icmp_ne (tgt := 92) hC.1 hC.2.1 dL_sets_77 (by decide) (fun k77 => ?_) (fun k77 => ?_)
        · refine lv_iload_n hC.1 hC.2.1 dL_sets_92 rfl (lv_at hl 2 rfl) ?_
          refine lv_iconst (v := 4) hC.1 hC.2.1 dL_sets_93 (by decide) ?_
          refine lv_icmp_ne (tgt := 110) hC.1 hC.2.1 dL_sets_94 (by decide) (fun k94 => ?_) (fun k94 => ?_)
          · refine lv_iload_n hC.1 hC.2.1 dL_sets_110 rfl (lv_at hl 2 rfl) ?_
            refine lv_iconst (v := 5) hC.1 hC.2.1 dL_sets_111 (by decide) ?_
            refine lv_icmp_ne (tgt := 124) hC.1 hC.2.1 dL_sets_112 (by decide) (fun k112 => ?_) (fun k112 => ?_)
            · refine lv_iload hC.1 hC.2.1 dL_sets_124 (lv_at hl 1 rfl) ?_
              refine lv_bipush (v := 51) hC.1 hC.2.1 dL_sets_126 (by decide +kernel) ?_
              refine runP (rS (B := fun U H => True) (As := [.int (x3 >>> (3 &&& 31)), .int 51]) (rest := [.int (nI ((fL_low x3 7).toNatClampNeg)), .ref (q 4)]) hC mwL_low (c_L_low l G (x3 >>> (3 &&& 31)) 51 (by decide)) wd_219 wd_218 ⟨rfl, rfl⟩ ⟨Nat.le_of_ble_eq_true rfl, Nat.le_of_ble_eq_true rfl⟩ (fun _ _ _ _ h => h) hKN trivial rfl hl.1 rfl (Nat.le_of_ble_eq_true rfl) dL_sets_128 ⟨Nat.zero_le _, Nat.zero_le _⟩) ?_
              refine lv_topi (fun w_2 ew_2 => ?_)
              refine iast_k hC hKN hP (jn_D hql hq hN hAq hAb v x) hS 4 rfl (n := 21) (f := (v 4)) ((fL_low x3 7).toNatClampNeg) (rfl) (Nat.lt_trans (low7 _) (by decide)) (by first | decide | omega) dL_sets_131 (fun H locs hq_3 hS => ?_)
              have hP : PW G (lwW G q (mkL (v 0) (v 1) (v 2) (v 3) (upd (v 4) ((fL_low x3 7).toNatClampNeg) w_2)) ++ hdW G a b x) H := hq_3
              have hI : le_n (((mkL (v 0) (v 1) (v 2) (v 3) (upd (v 4) ((fL_low x3 7).toNatClampNeg) w_2), x)).2 9 2 0) 6 := hI
              refine lv_aload_n hC.1 hC.2.1 dL_sets_132 rfl (lv_at hl 3 rfl) ?_
              refine lv_iload_n hC.1 hC.2.1 dL_sets_133 rfl (lv_at hl 2 rfl) ?_
              refine lv_aload_n hC.1 hC.2.1 dL_sets_134 rfl (lv_at hl 4 rfl) ?_
              refine lv_iload_n hC.1 hC.2.1 dL_sets_135 rfl (lv_at hl 2 rfl) ?_
              refine iald_k hC (hKN.go hAL hS) hP 4 rfl (n := 21) (f := (upd (v 4) ((fL_low x3 7).toNatClampNeg) w_2)) ((fL_low x3 7).toNatClampNeg) (rfl) (Nat.lt_trans (low7 _) (by decide)) (by first | decide | omega) dL_sets_136 ?_
              refine runE (rV (B := fun U H => PW G (hdW G a b x) H) (As := [.int (nI ((fL_low x3 7).toNatClampNeg)), .int ((upd (v 4) ((fL_low x3 7).toNatClampNeg) w_2) ((fL_low x3 7).toNatClampNeg))]) (rest := []) hC mwX5_set (c_X5_set l G a b x (nI ((fL_low x3 7).toNatClampNeg)) ((upd (v 4) ((fL_low x3 7).toNatClampNeg) w_2) ((fL_low x3 7).toNatClampNeg)) hq hI (iw06 (low7 _)) (by first | exact set_0 k20 (pk_us.trans ew_2) | exact set_1 k39 (pk_us.trans ew_2) | exact set_2 k57 (pk_us.trans ew_2) | exact set_3 k77 (pk_us.trans ew_2) | exact set_4 k94 (pk_us.trans ew_2) | exact set_5 k112 (pk_us.trans ew_2) | exact set_6 (low7 _) k20 k39 k57 k77 k94 k112 (pk_us.trans ew_2))) iwX5_set wd_593 ⟨rfl, rfl⟩ ⟨Nat.le_of_ble_eq_true rfl, Nat.le_of_ble_eq_true rfl⟩ (stb_h (fun H => PW G (hdW G a b x) H)) (hKN.go hAL hS) (PW_app.mp hP).2 (va_recv (hKN.go hAL hS).k (PW_app.mp hP).2 (ci := 5) (q0 := 0) rfl rfl) rfl hl.1 rfl (Nat.le_of_ble_eq_true rfl) dL_sets_137 ⟨Nat.zero_le _, Nat.zero_le _⟩) hS (fun _ h => hAb _ h) (fun _ h => hAb _ h) (fun H locs hq_4 _ hk_6 hS => ?_)
              obtain ⟨b, hR, hP⟩ := jn_hdN hql hN hP hk_6 hq_4
              have hN : ∀ z, lwA q z → ¬ hdA a b z := fun z h k => hN z h (hR.2 z k)
              have hAj : ∀ z, jnA q a b z → (jnA q a b0) z := fun z h => hAj z (jnA_R hR h)
              have hAb : ∀ z, hdA a b z → (jnA q a b0) z := fun z h => hAb z (hR.2 z h)
              have hRb := hRb.tr hR
              have hq := hR.1
              obtain ⟨r_5, er_5⟩ : ∃ z, z = fX5_set x (nI ((fL_low x3 7).toNatClampNeg)) ((upd (v 4) ((fL_low x3 7).toNatClampNeg) w_2) ((fL_low x3 7).toNatClampNeg)) := ⟨_, rfl⟩
              rw [← er_5] at hP
              show W p l e ({ frames := 6, cells := 0, slots := 0, locals := 137 }) s m ([.ref (a 0), .ref (q 4), .int x3] : List Value).toArray below meth c H locs (0 + 0) (0 + 0) _ (F0 m (137 + 3) ls [.int ((fX5_set x (nI ((fL_low x3 7).toNatClampNeg)) ((upd (v 4) ((fL_low x3 7).toNatClampNeg) w_2) ((fL_low x3 7).toNatClampNeg))).2)])
              rw [← er_5]
              have hI : True := trivial
              refine lv_iload hC.1 hC.2.1 dL_sets_140 (lv_at hl 0 rfl) ?_
              refine lv_icmp_ne (tgt := 149) hC.1 hC.2.1 dL_sets_142 (by decide) (fun k142 => ?_) (fun k142 => ?_)
              · refine lv_iconst (v := 0) hC.1 hC.2.1 dL_sets_149 (by decide) ?_
                have e_7 : fL_sets x v x3 = ((mkL (v 0) (v 1) (v 2) (v 3) (upd (v 4) ((fL_low x3 7).toNatClampNeg) w_2), r_5.1), 0) := by
                  have q_ := ew_2.symm; subst q_; delta fL_sets
                  try dsimp only
                  rw [← er_5]
                  exact Eq.trans (if_neg k20) (Eq.trans (if_neg k39) (Eq.trans (if_neg k57) (Eq.trans (if_neg k77) (Eq.trans (if_neg k94) (Eq.trans (if_neg k112) (Eq.trans (if_neg k142) rfl))))))
                have hg : fL_sets x v x3 = ((mkL (v 0) (v 1) (v 2) (v 3) (upd (v 4) ((fL_low x3 7).toNatClampNeg) w_2), r_5.1), 0) := by have e2 := congrArg (fun z => z) e_7; exact hg.trans e2
                exact eE_z hC (by rw [hg]) rfl ⟨b, hRb, by rw [hg]; exact hP⟩ hS dL_sets_150
              · refine lv_iconst (v := 1) hC.1 hC.2.1 dL_sets_145 (by decide) ?_
                refine lv_goto (tgt := 150) hC.1 hC.2.1 dL_sets_146 (by decide) ?_
                have e_8 : fL_sets x v x3 = ((mkL (v 0) (v 1) (v 2) (v 3) (upd (v 4) ((fL_low x3 7).toNatClampNeg) w_2), r_5.1), 1) := by
                  have q_ := ew_2.symm; subst q_; delta fL_sets
                  try dsimp only
                  rw [← er_5]
                  exact Eq.trans (if_neg k20) (Eq.trans (if_neg k39) (Eq.trans (if_neg k57) (Eq.trans (if_neg k77) (Eq.trans (if_neg k94) (Eq.trans (if_neg k112) (Eq.trans (if_pos k142) rfl))))))
                have hg : fL_sets x v x3 = ((mkL (v 0) (v 1) (v 2) (v 3) (upd (v 4) ((fL_low x3 7).toNatClampNeg) w_2), r_5.1), 1) := by have e2 := congrArg (fun z => z) e_8; exact hg.trans e2
                exact eE_z hC (by rw [hg]) rfl ⟨b, hRb, by rw [hg]; exact hP⟩ hS dL_sets_150
            · refine lv_iload hC.1 hC.2.1 dL_sets_115 (lv_at hl 1 rfl) ?_
              refine lv_iconst (v := 2) hC.1 hC.2.1 dL_sets_117 (by decide) ?_
              refine runP (rS (B := fun U H => True) (As := [.int (x3 >>> (3 &&& 31)), .int 2]) (rest := [.int (nI ((fL_low x3 7).toNatClampNeg)), .ref (q 4)]) hC mwL_low (c_L_low l G (x3 >>> (3 &&& 31)) 2 (by decide)) wd_219 wd_218 ⟨rfl, rfl⟩ ⟨Nat.le_of_ble_eq_true rfl, Nat.le_of_ble_eq_true rfl⟩ (fun _ _ _ _ h => h) hKN trivial rfl hl.1 rfl (Nat.le_of_ble_eq_true rfl) dL_sets_118 ⟨Nat.zero_le _, Nat.zero_le _⟩) ?_
              refine lv_goto (tgt := 131) hC.1 hC.2.1 dL_sets_121 (by decide) ?_
              refine lv_topi (fun w_9 ew_9 => ?_)
              refine iast_k hC hKN hP (jn_D hql hq hN hAq hAb v x) hS 4 rfl (n := 21) (f := (v 4)) ((fL_low x3 7).toNatClampNeg) (rfl) (Nat.lt_trans (low7 _) (by decide)) (by first | decide | omega) dL_sets_131 (fun H locs hq_10 hS => ?_)
              have hP : PW G (lwW G q (mkL (v 0) (v 1) (v 2) (v 3) (upd (v 4) ((fL_low x3 7).toNatClampNeg) w_9)) ++ hdW G a b x) H := hq_10
              have hI : le_n (((mkL (v 0) (v 1) (v 2) (v 3) (upd (v 4) ((fL_low x3 7).toNatClampNeg) w_9), x)).2 9 2 0) 6 := hI
              refine lv_aload_n hC.1 hC.2.1 dL_sets_132 rfl (lv_at hl 3 rfl) ?_
              refine lv_iload_n hC.1 hC.2.1 dL_sets_133 rfl (lv_at hl 2 rfl) ?_
              refine lv_aload_n hC.1 hC.2.1 dL_sets_134 rfl (lv_at hl 4 rfl) ?_
              refine lv_iload_n hC.1 hC.2.1 dL_sets_135 rfl (lv_at hl 2 rfl) ?_
              refine iald_k hC (hKN.go hAL hS) hP 4 rfl (n := 21) (f := (upd (v 4) ((fL_low x3 7).toNatClampNeg) w_9)) ((fL_low x3 7).toNatClampNeg) (rfl) (Nat.lt_trans (low7 _) (by decide)) (by first | decide | omega) dL_sets_136 ?_
              refine runE (rV (B := fun U H => PW G (hdW G a b x) H) (As := [.int (nI ((fL_low x3 7).toNatClampNeg)), .int ((upd (v 4) ((fL_low x3 7).toNatClampNeg) w_9) ((fL_low x3 7).toNatClampNeg))]) (rest := []) hC mwX5_set (c_X5_set l G a b x (nI ((fL_low x3 7).toNatClampNeg)) ((upd (v 4) ((fL_low x3 7).toNatClampNeg) w_9) ((fL_low x3 7).toNatClampNeg)) hq hI (iw06 (low7 _)) (by first | exact set_0 k20 (pk_us.trans ew_9) | exact set_1 k39 (pk_us.trans ew_9) | exact set_2 k57 (pk_us.trans ew_9) | exact set_3 k77 (pk_us.trans ew_9) | exact set_4 k94 (pk_us.trans ew_9) | exact set_5 k112 (pk_us.trans ew_9) | exact set_6 (low7 _) k20 k39 k57 k77 k94 k112 (pk_us.trans ew_9))) iwX5_set wd_593 ⟨rfl, rfl⟩ ⟨Nat.le_of_ble_eq_true rfl, Nat.le_of_ble_eq_true rfl⟩ (stb_h (fun H => PW G (hdW G a b x) H)) (hKN.go hAL hS) (PW_app.mp hP).2 (va_recv (hKN.go hAL hS).k (PW_app.mp hP).2 (ci := 5) (q0 := 0) rfl rfl) rfl hl.1 rfl (Nat.le_of_ble_eq_true rfl) dL_sets_137 ⟨Nat.zero_le _, Nat.zero_le _⟩) hS (fun _ h => hAb _ h) (fun _ h => hAb _ h) (fun H locs hq_11 _ hk_13 hS => ?_)
              obtain ⟨b, hR, hP⟩ := jn_hdN hql hN hP hk_13 hq_11
              have hN : ∀ z, lwA q z → ¬ hdA a b z := fun z h k => hN z h (hR.2 z k)
              have hAj : ∀ z, jnA q a b z → (jnA q a b0) z := fun z h => hAj z (jnA_R hR h)
              have hAb : ∀ z, hdA a b z → (jnA q a b0) z := fun z h => hAb z (hR.2 z h)
              have hRb := hRb.tr hR
              have hq := hR.1
              obtain ⟨r_12, er_12⟩ : ∃ z, z = fX5_set x (nI ((fL_low x3 7).toNatClampNeg)) ((upd (v 4) ((fL_low x3 7).toNatClampNeg) w_9) ((fL_low x3 7).toNatClampNeg)) := ⟨_, rfl⟩
              rw [← er_12] at hP
              show W p l e ({ frames := 6, cells := 0, slots := 0, locals := 137 }) s m ([.ref (a 0), .ref (q 4), .int x3] : List Value).toArray below meth c H locs (0 + 0) (0 + 0) _ (F0 m (137 + 3) ls [.int ((fX5_set x (nI ((fL_low x3 7).toNatClampNeg)) ((upd (v 4) ((fL_low x3 7).toNatClampNeg) w_9) ((fL_low x3 7).toNatClampNeg))).2)])
              rw [← er_12]
              have hI : True := trivial
              refine lv_iload hC.1 hC.2.1 dL_sets_140 (lv_at hl 0 rfl) ?_
              refine lv_icmp_ne (tgt := 149) hC.1 hC.2.1 dL_sets_142 (by decide) (fun k142 => ?_) (fun k142 => ?_)
              · refine lv_iconst (v := 0) hC.1 hC.2.1 dL_sets_149 (by decide) ?_
                have e_14 : fL_sets x v x3 = ((mkL (v 0) (v 1) (v 2) (v 3) (upd (v 4) ((fL_low x3 7).toNatClampNeg) w_9), r_12.1), 0) := by
                  have q_ := ew_9.symm; subst q_; delta fL_sets
                  try dsimp only
                  rw [← er_12]
                  exact Eq.trans (if_neg k20) (Eq.trans (if_neg k39) (Eq.trans (if_neg k57) (Eq.trans (if_neg k77) (Eq.trans (if_neg k94) (Eq.trans (if_pos k112) (Eq.trans (if_neg k142) rfl))))))
                have hg : fL_sets x v x3 = ((mkL (v 0) (v 1) (v 2) (v 3) (upd (v 4) ((fL_low x3 7).toNatClampNeg) w_9), r_12.1), 0) := by have e2 := congrArg (fun z => z) e_14; exact hg.trans e2
                exact eE_z hC (by rw [hg]) rfl ⟨b, hRb, by rw [hg]; exact hP⟩ hS dL_sets_150
              · refine lv_iconst (v := 1) hC.1 hC.2.1 dL_sets_145 (by decide) ?_
                refine lv_goto (tgt := 150) hC.1 hC.2.1 dL_sets_146 (by decide) ?_
                have e_15 : fL_sets x v x3 = ((mkL (v 0) (v 1) (v 2) (v 3) (upd (v 4) ((fL_low x3 7).toNatClampNeg) w_9), r_12.1), 1) := by
                  have q_ := ew_9.symm; subst q_; delta fL_sets
                  try dsimp only
                  rw [← er_12]
                  exact Eq.trans (if_neg k20) (Eq.trans (if_neg k39) (Eq.trans (if_neg k57) (Eq.trans (if_neg k77) (Eq.trans (if_neg k94) (Eq.trans (if_pos k112) (Eq.trans (if_pos k142) rfl))))))
                have hg : fL_sets x v x3 = ((mkL (v 0) (v 1) (v 2) (v 3) (upd (v 4) ((fL_low x3 7).toNatClampNeg) w_9), r_12.1), 1) := by have e2 := congrArg (fun z => z) e_15; exact hg.trans e2
                exact eE_z hC (by rw [hg]) rfl ⟨b, hRb, by rw [hg]; exact hP⟩ hS dL_sets_150
          · refine lv_iconst (v := 1) hC.1 hC.2.1 dL_sets_97 (by decide) ?_
            refine lv_iload hC.1 hC.2.1 dL_sets_98 (lv_at hl 1 rfl) ?_
            refine lv_sipush (v := 200) hC.1 hC.2.1 dL_sets_100 (by decide +kernel) ?_
            refine runP (rS (B := fun U H => True) (As := [.int (x3 >>> (3 &&& 31)), .int 200]) (rest := [.int 1, .int (nI ((fL_low x3 7).toNatClampNeg)), .ref (q 4)]) hC mwL_low (c_L_low l G (x3 >>> (3 &&& 31)) 200 (by decide)) wd_219 wd_218 ⟨rfl, rfl⟩ ⟨Nat.le_of_ble_eq_true rfl, Nat.le_of_ble_eq_true rfl⟩ (fun _ _ _ _ h => h) hKN trivial rfl hl.1 rfl (Nat.le_of_ble_eq_true rfl) dL_sets_103 ⟨Nat.zero_le _, Nat.zero_le _⟩) ?_
            refine lv_iadd hC.1 hC.2.1 dL_sets_106 ?_
            refine lv_goto (tgt := 131) hC.1 hC.2.1 dL_sets_107 (by decide) ?_
            refine lv_topi (fun w_16 ew_16 => ?_)
            refine iast_k hC hKN hP (jn_D hql hq hN hAq hAb v x) hS 4 rfl (n := 21) (f := (v 4)) ((fL_low x3 7).toNatClampNeg) (rfl) (Nat.lt_trans (low7 _) (by decide)) (by first | decide | omega) dL_sets_131 (fun H locs hq_17 hS => ?_)
            have hP : PW G (lwW G q (mkL (v 0) (v 1) (v 2) (v 3) (upd (v 4) ((fL_low x3 7).toNatClampNeg) w_16)) ++ hdW G a b x) H := hq_17
            have hI : le_n (((mkL (v 0) (v 1) (v 2) (v 3) (upd (v 4) ((fL_low x3 7).toNatClampNeg) w_16), x)).2 9 2 0) 6 := hI
            refine lv_aload_n hC.1 hC.2.1 dL_sets_132 rfl (lv_at hl 3 rfl) ?_
            refine lv_iload_n hC.1 hC.2.1 dL_sets_133 rfl (lv_at hl 2 rfl) ?_
            refine lv_aload_n hC.1 hC.2.1 dL_sets_134 rfl (lv_at hl 4 rfl) ?_
            refine lv_iload_n hC.1 hC.2.1 dL_sets_135 rfl (lv_at hl 2 rfl) ?_
            refine iald_k hC (hKN.go hAL hS) hP 4 rfl (n := 21) (f := (upd (v 4) ((fL_low x3 7).toNatClampNeg) w_16)) ((fL_low x3 7).toNatClampNeg) (rfl) (Nat.lt_trans (low7 _) (by decide)) (by first | decide | omega) dL_sets_136 ?_
            refine runE (rV (B := fun U H => PW G (hdW G a b x) H) (As := [.int (nI ((fL_low x3 7).toNatClampNeg)), .int ((upd (v 4) ((fL_low x3 7).toNatClampNeg) w_16) ((fL_low x3 7).toNatClampNeg))]) (rest := []) hC mwX5_set (c_X5_set l G a b x (nI ((fL_low x3 7).toNatClampNeg)) ((upd (v 4) ((fL_low x3 7).toNatClampNeg) w_16) ((fL_low x3 7).toNatClampNeg)) hq hI (iw06 (low7 _)) (by first | exact set_0 k20 (pk_us.trans ew_16) | exact set_1 k39 (pk_us.trans ew_16) | exact set_2 k57 (pk_us.trans ew_16) | exact set_3 k77 (pk_us.trans ew_16) | exact set_4 k94 (pk_us.trans ew_16) | exact set_5 k112 (pk_us.trans ew_16) | exact set_6 (low7 _) k20 k39 k57 k77 k94 k112 (pk_us.trans ew_16))) iwX5_set wd_593 ⟨rfl, rfl⟩ ⟨Nat.le_of_ble_eq_true rfl, Nat.le_of_ble_eq_true rfl⟩ (stb_h (fun H => PW G (hdW G a b x) H)) (hKN.go hAL hS) (PW_app.mp hP).2 (va_recv (hKN.go hAL hS).k (PW_app.mp hP).2 (ci := 5) (q0 := 0) rfl rfl) rfl hl.1 rfl (Nat.le_of_ble_eq_true rfl) dL_sets_137 ⟨Nat.zero_le _, Nat.zero_le _⟩) hS (fun _ h => hAb _ h) (fun _ h => hAb _ h) (fun H locs hq_18 _ hk_20 hS => ?_)
            obtain ⟨b, hR, hP⟩ := jn_hdN hql hN hP hk_20 hq_18
            have hN : ∀ z, lwA q z → ¬ hdA a b z := fun z h k => hN z h (hR.2 z k)
            have hAj : ∀ z, jnA q a b z → (jnA q a b0) z := fun z h => hAj z (jnA_R hR h)
            have hAb : ∀ z, hdA a b z → (jnA q a b0) z := fun z h => hAb z (hR.2 z h)
            have hRb := hRb.tr hR
            have hq := hR.1
            obtain ⟨r_19, er_19⟩ : ∃ z, z = fX5_set x (nI ((fL_low x3 7).toNatClampNeg)) ((upd (v 4) ((fL_low x3 7).toNatClampNeg) w_16) ((fL_low x3 7).toNatClampNeg)) := ⟨_, rfl⟩
            rw [← er_19] at hP
            show W p l e ({ frames := 6, cells := 0, slots := 0, locals := 137 }) s m ([.ref (a 0), .ref (q 4), .int x3] : List Value).toArray below meth c H locs (0 + 0) (0 + 0) _ (F0 m (137 + 3) ls [.int ((fX5_set x (nI ((fL_low x3 7).toNatClampNeg)) ((upd (v 4) ((fL_low x3 7).toNatClampNeg) w_16) ((fL_low x3 7).toNatClampNeg))).2)])
            rw [← er_19]
            have hI : True := trivial
            refine lv_iload hC.1 hC.2.1 dL_sets_140 (lv_at hl 0 rfl) ?_
            refine lv_icmp_ne (tgt := 149) hC.1 hC.2.1 dL_sets_142 (by decide) (fun k142 => ?_) (fun k142 => ?_)
            · refine lv_iconst (v := 0) hC.1 hC.2.1 dL_sets_149 (by decide) ?_
              have e_21 : fL_sets x v x3 = ((mkL (v 0) (v 1) (v 2) (v 3) (upd (v 4) ((fL_low x3 7).toNatClampNeg) w_16), r_19.1), 0) := by
                have q_ := ew_16.symm; subst q_; delta fL_sets
                try dsimp only
                rw [← er_19]
                exact Eq.trans (if_neg k20) (Eq.trans (if_neg k39) (Eq.trans (if_neg k57) (Eq.trans (if_neg k77) (Eq.trans (if_pos k94) (Eq.trans (if_neg k142) rfl)))))
              have hg : fL_sets x v x3 = ((mkL (v 0) (v 1) (v 2) (v 3) (upd (v 4) ((fL_low x3 7).toNatClampNeg) w_16), r_19.1), 0) := by have e2 := congrArg (fun z => z) e_21; exact hg.trans e2
              exact eE_z hC (by rw [hg]) rfl ⟨b, hRb, by rw [hg]; exact hP⟩ hS dL_sets_150
            · refine lv_iconst (v := 1) hC.1 hC.2.1 dL_sets_145 (by decide) ?_
              refine lv_goto (tgt := 150) hC.1 hC.2.1 dL_sets_146 (by decide) ?_
              have e_22 : fL_sets x v x3 = ((mkL (v 0) (v 1) (v 2) (v 3) (upd (v 4) ((fL_low x3 7).toNatClampNeg) w_16), r_19.1), 1) := by
                have q_ := ew_16.symm; subst q_; delta fL_sets
                try dsimp only
                rw [← er_19]
                exact Eq.trans (if_neg k20) (Eq.trans (if_neg k39) (Eq.trans (if_neg k57) (Eq.trans (if_neg k77) (Eq.trans (if_pos k94) (Eq.trans (if_pos k142) rfl)))))
              have hg : fL_sets x v x3 = ((mkL (v 0) (v 1) (v 2) (v 3) (upd (v 4) ((fL_low x3 7).toNatClampNeg) w_16), r_19.1), 1) := by have e2 := congrArg (fun z => z) e_22; exact hg.trans e2
              exact eE_z hC (by rw [hg]) rfl ⟨b, hRb, by rw [hg]; exact hP⟩ hS dL_sets_150
        · refine lv_iconst (v := 1) hC.1 hC.2.1 dL_sets_80 (by decide) ?_
          refine lv_iload hC.1 hC.2.1 dL_sets_81 (lv_at hl 1 rfl) ?_
          refine lv_bipush (v := 20) hC.1 hC.2.1 dL_sets_83 (by decide +kernel) ?_
          refine runP (rS (B := fun U H => True) (As := [.int (x3 >>> (3 &&& 31)), .int 20]) (rest := [.int 1, .int (nI ((fL_low x3 7).toNatClampNeg)), .ref (q 4)]) hC mwL_low (c_L_low l G (x3 >>> (3 &&& 31)) 20 (by decide)) wd_219 wd_218 ⟨rfl, rfl⟩ ⟨Nat.le_of_ble_eq_true rfl, Nat.le_of_ble_eq_true rfl⟩ (fun _ _ _ _ h => h) hKN trivial rfl hl.1 rfl (Nat.le_of_ble_eq_true rfl) dL_sets_85 ⟨Nat.zero_le _, Nat.zero_le _⟩) ?_
          refine lv_iadd hC.1 hC.2.1 dL_sets_88 ?_
          refine lv_goto (tgt := 131) hC.1 hC.2.1 dL_sets_89 (by decide) ?_
          refine lv_topi (fun w_23 ew_23 => ?_)
          refine iast_k hC hKN hP (jn_D hql hq hN hAq hAb v x) hS 4 rfl (n := 21) (f := (v 4)) ((fL_low x3 7).toNatClampNeg) (rfl) (Nat.lt_trans (low7 _) (by decide)) (by first | decide | omega) dL_sets_131 (fun H locs hq_24 hS => ?_)
          have hP : PW G (lwW G q (mkL (v 0) (v 1) (v 2) (v 3) (upd (v 4) ((fL_low x3 7).toNatClampNeg) w_23)) ++ hdW G a b x) H := hq_24
          have hI : le_n (((mkL (v 0) (v 1) (v 2) (v 3) (upd (v 4) ((fL_low x3 7).toNatClampNeg) w_23), x)).2 9 2 0) 6 := hI
          refine lv_aload_n hC.1 hC.2.1 dL_sets_132 rfl (lv_at hl 3 rfl) ?_
          refine lv_iload_n hC.1 hC.2.1 dL_sets_133 rfl (lv_at hl 2 rfl) ?_
          refine lv_aload_n hC.1 hC.2.1 dL_sets_134 rfl (lv_at hl 4 rfl) ?_
          refine lv_iload_n hC.1 hC.2.1 dL_sets_135 rfl (lv_at hl 2 rfl) ?_
          refine iald_k hC (hKN.go hAL hS) hP 4 rfl (n := 21) (f := (upd (v 4) ((fL_low x3 7).toNatClampNeg) w_23)) ((fL_low x3 7).toNatClampNeg) (rfl) (Nat.lt_trans (low7 _) (by decide)) (by first | decide | omega) dL_sets_136 ?_
          refine runE (rV (B := fun U H => PW G (hdW G a b x) H) (As := [.int (nI ((fL_low x3 7).toNatClampNeg)), .int ((upd (v 4) ((fL_low x3 7).toNatClampNeg) w_23) ((fL_low x3 7).toNatClampNeg))]) (rest := []) hC mwX5_set (c_X5_set l G a b x (nI ((fL_low x3 7).toNatClampNeg)) ((upd (v 4) ((fL_low x3 7).toNatClampNeg) w_23) ((fL_low x3 7).toNatClampNeg)) hq hI (iw06 (low7 _)) (by first | exact set_0 k20 (pk_us.trans ew_23) | exact set_1 k39 (pk_us.trans ew_23) | exact set_2 k57 (pk_us.trans ew_23) | exact set_3 k77 (pk_us.trans ew_23) | exact set_4 k94 (pk_us.trans ew_23) | exact set_5 k112 (pk_us.trans ew_23) | exact set_6 (low7 _) k20 k39 k57 k77 k94 k112 (pk_us.trans ew_23))) iwX5_set wd_593 ⟨rfl, rfl⟩ ⟨Nat.le_of_ble_eq_true rfl, Nat.le_of_ble_eq_true rfl⟩ (stb_h (fun H => PW G (hdW G a b x) H)) (hKN.go hAL hS) (PW_app.mp hP).2 (va_recv (hKN.go hAL hS).k (PW_app.mp hP).2 (ci := 5) (q0 := 0) rfl rfl) rfl hl.1 rfl (Nat.le_of_ble_eq_true rfl) dL_sets_137 ⟨Nat.zero_le _, Nat.zero_le _⟩) hS (fun _ h => hAb _ h) (fun _ h => hAb _ h) (fun H locs hq_25 _ hk_27 hS => ?_)
          obtain ⟨b, hR, hP⟩ := jn_hdN hql hN hP hk_27 hq_25
          have hN : ∀ z, lwA q z → ¬ hdA a b z := fun z h k => hN z h (hR.2 z k)
          have hAj : ∀ z, jnA q a b z → (jnA q a b0) z := fun z h => hAj z (jnA_R hR h)
          have hAb : ∀ z, hdA a b z → (jnA q a b0) z := fun z h => hAb z (hR.2 z h)
          have hRb := hRb.tr hR
          have hq := hR.1
          obtain ⟨r_26, er_26⟩ : ∃ z, z = fX5_set x (nI ((fL_low x3 7).toNatClampNeg)) ((upd (v 4) ((fL_low x3 7).toNatClampNeg) w_23) ((fL_low x3 7).toNatClampNeg)) := ⟨_, rfl⟩
          rw [← er_26] at hP
          show W p l e ({ frames := 6, cells := 0, slots := 0, locals := 137 }) s m ([.ref (a 0), .ref (q 4), .int x3] : List Value).toArray below meth c H locs (0 + 0) (0 + 0) _ (F0 m (137 + 3) ls [.int ((fX5_set x (nI ((fL_low x3 7).toNatClampNeg)) ((upd (v 4) ((fL_low x3 7).toNatClampNeg) w_23) ((fL_low x3 7).toNatClampNeg))).2)])
          rw [← er_26]
          have hI : True := trivial
          refine lv_iload hC.1 hC.2.1 dL_sets_140 (lv_at hl 0 rfl) ?_
          refine lv_icmp_ne (tgt := 149) hC.1 hC.2.1 dL_sets_142 (by decide) (fun k142 => ?_) (fun k142 => ?_)
          · refine lv_iconst (v := 0) hC.1 hC.2.1 dL_sets_149 (by decide) ?_
            have e_28 : fL_sets x v x3 = ((mkL (v 0) (v 1) (v 2) (v 3) (upd (v 4) ((fL_low x3 7).toNatClampNeg) w_23), r_26.1), 0) := by
              have q_ := ew_23.symm; subst q_; delta fL_sets
              try dsimp only
              rw [← er_26]
              exact Eq.trans (if_neg k20) (Eq.trans (if_neg k39) (Eq.trans (if_neg k57) (Eq.trans (if_pos k77) (Eq.trans (if_neg k142) rfl))))
            have hg : fL_sets x v x3 = ((mkL (v 0) (v 1) (v 2) (v 3) (upd (v 4) ((fL_low x3 7).toNatClampNeg) w_23), r_26.1), 0) := by have e2 := congrArg (fun z => z) e_28; exact hg.trans e2
            exact eE_z hC (by rw [hg]) rfl ⟨b, hRb, by rw [hg]; exact hP⟩ hS dL_sets_150
          · refine lv_iconst (v := 1) hC.1 hC.2.1 dL_sets_145 (by decide) ?_
            refine lv_goto (tgt := 150) hC.1 hC.2.1 dL_sets_146 (by decide) ?_
            have e_29 : fL_sets x v x3 = ((mkL (v 0) (v 1) (v 2) (v 3) (upd (v 4) ((fL_low x3 7).toNatClampNeg) w_23), r_26.1), 1) := by
              have q_ := ew_23.symm; subst q_; delta fL_sets
              try dsimp only
              rw [← er_26]
              exact Eq.trans (if_neg k20) (Eq.trans (if_neg k39) (Eq.trans (if_neg k57) (Eq.trans (if_pos k77) (Eq.trans (if_pos k142) rfl))))
            have hg : fL_sets x v x3 = ((mkL (v 0) (v 1) (v 2) (v 3) (upd (v 4) ((fL_low x3 7).toNatClampNeg) w_23), r_26.1), 1) := by have e2 := congrArg (fun z => z) e_29; exact hg.trans e2
            exact eE_z hC (by rw [hg]) rfl ⟨b, hRb, by rw [hg]; exact hP⟩ hS dL_sets_150
      · refine lv_sipush (v := 330) hC.1 hC.2.1 dL_sets_60 (by decide +kernel) ?_
        refine lv_iload hC.1 hC.2.1 dL_sets_63 (lv_at hl 1 rfl) ?_
        refine lv_sipush (v := 571) hC.1 hC.2.1 dL_sets_65 (by decide +kernel) ?_
        refine runP (rS (B := fun U H => True) (As := [.int (x3 >>> (3 &&& 31)), .int 571]) (rest := [.int 330, .int (nI ((fL_low x3 7).toNatClampNeg)), .ref (q 4)]) hC mwL_low (c_L_low l G (x3 >>> (3 &&& 31)) 571 (by decide)) wd_219 wd_218 ⟨rfl, rfl⟩ ⟨Nat.le_of_ble_eq_true rfl, Nat.le_of_ble_eq_true rfl⟩ (fun _ _ _ _ h => h) hKN trivial rfl hl.1 rfl (Nat.le_of_ble_eq_true rfl) dL_sets_68 ⟨Nat.zero_le _, Nat.zero_le _⟩) ?_
        refine lv_iadd hC.1 hC.2.1 dL_sets_71 ?_
        refine lv_goto (tgt := 131) hC.1 hC.2.1 dL_sets_72 (by decide) ?_
        refine lv_topi (fun w_30 ew_30 => ?_)
        refine iast_k hC hKN hP (jn_D hql hq hN hAq hAb v x) hS 4 rfl (n := 21) (f := (v 4)) ((fL_low x3 7).toNatClampNeg) (rfl) (Nat.lt_trans (low7 _) (by decide)) (by first | decide | omega) dL_sets_131 (fun H locs hq_31 hS => ?_)
        have hP : PW G (lwW G q (mkL (v 0) (v 1) (v 2) (v 3) (upd (v 4) ((fL_low x3 7).toNatClampNeg) w_30)) ++ hdW G a b x) H := hq_31
        have hI : le_n (((mkL (v 0) (v 1) (v 2) (v 3) (upd (v 4) ((fL_low x3 7).toNatClampNeg) w_30), x)).2 9 2 0) 6 := hI
        refine lv_aload_n hC.1 hC.2.1 dL_sets_132 rfl (lv_at hl 3 rfl) ?_
        refine lv_iload_n hC.1 hC.2.1 dL_sets_133 rfl (lv_at hl 2 rfl) ?_
        refine lv_aload_n hC.1 hC.2.1 dL_sets_134 rfl (lv_at hl 4 rfl) ?_
        refine lv_iload_n hC.1 hC.2.1 dL_sets_135 rfl (lv_at hl 2 rfl) ?_
        refine iald_k hC (hKN.go hAL hS) hP 4 rfl (n := 21) (f := (upd (v 4) ((fL_low x3 7).toNatClampNeg) w_30)) ((fL_low x3 7).toNatClampNeg) (rfl) (Nat.lt_trans (low7 _) (by decide)) (by first | decide | omega) dL_sets_136 ?_
        refine runE (rV (B := fun U H => PW G (hdW G a b x) H) (As := [.int (nI ((fL_low x3 7).toNatClampNeg)), .int ((upd (v 4) ((fL_low x3 7).toNatClampNeg) w_30) ((fL_low x3 7).toNatClampNeg))]) (rest := []) hC mwX5_set (c_X5_set l G a b x (nI ((fL_low x3 7).toNatClampNeg)) ((upd (v 4) ((fL_low x3 7).toNatClampNeg) w_30) ((fL_low x3 7).toNatClampNeg)) hq hI (iw06 (low7 _)) (by first | exact set_0 k20 (pk_us.trans ew_30) | exact set_1 k39 (pk_us.trans ew_30) | exact set_2 k57 (pk_us.trans ew_30) | exact set_3 k77 (pk_us.trans ew_30) | exact set_4 k94 (pk_us.trans ew_30) | exact set_5 k112 (pk_us.trans ew_30) | exact set_6 (low7 _) k20 k39 k57 k77 k94 k112 (pk_us.trans ew_30))) iwX5_set wd_593 ⟨rfl, rfl⟩ ⟨Nat.le_of_ble_eq_true rfl, Nat.le_of_ble_eq_true rfl⟩ (stb_h (fun H => PW G (hdW G a b x) H)) (hKN.go hAL hS) (PW_app.mp hP).2 (va_recv (hKN.go hAL hS).k (PW_app.mp hP).2 (ci := 5) (q0 := 0) rfl rfl) rfl hl.1 rfl (Nat.le_of_ble_eq_true rfl) dL_sets_137 ⟨Nat.zero_le _, Nat.zero_le _⟩) hS (fun _ h => hAb _ h) (fun _ h => hAb _ h) (fun H locs hq_32 _ hk_34 hS => ?_)
        obtain ⟨b, hR, hP⟩ := jn_hdN hql hN hP hk_34 hq_32
        have hN : ∀ z, lwA q z → ¬ hdA a b z := fun z h k => hN z h (hR.2 z k)
        have hAj : ∀ z, jnA q a b z → (jnA q a b0) z := fun z h => hAj z (jnA_R hR h)
        have hAb : ∀ z, hdA a b z → (jnA q a b0) z := fun z h => hAb z (hR.2 z h)
        have hRb := hRb.tr hR
        have hq := hR.1
        obtain ⟨r_33, er_33⟩ : ∃ z, z = fX5_set x (nI ((fL_low x3 7).toNatClampNeg)) ((upd (v 4) ((fL_low x3 7).toNatClampNeg) w_30) ((fL_low x3 7).toNatClampNeg)) := ⟨_, rfl⟩
        rw [← er_33] at hP
        show W p l e ({ frames := 6, cells := 0, slots := 0, locals := 137 }) s m ([.ref (a 0), .ref (q 4), .int x3] : List Value).toArray below meth c H locs (0 + 0) (0 + 0) _ (F0 m (137 + 3) ls [.int ((fX5_set x (nI ((fL_low x3 7).toNatClampNeg)) ((upd (v 4) ((fL_low x3 7).toNatClampNeg) w_30) ((fL_low x3 7).toNatClampNeg))).2)])
        rw [← er_33]
        have hI : True := trivial
        refine lv_iload hC.1 hC.2.1 dL_sets_140 (lv_at hl 0 rfl) ?_
        refine lv_icmp_ne (tgt := 149) hC.1 hC.2.1 dL_sets_142 (by decide) (fun k142 => ?_) (fun k142 => ?_)
        · refine lv_iconst (v := 0) hC.1 hC.2.1 dL_sets_149 (by decide) ?_
          have e_35 : fL_sets x v x3 = ((mkL (v 0) (v 1) (v 2) (v 3) (upd (v 4) ((fL_low x3 7).toNatClampNeg) w_30), r_33.1), 0) := by
            have q_ := ew_30.symm; subst q_; delta fL_sets
            try dsimp only
            rw [← er_33]
            exact Eq.trans (if_neg k20) (Eq.trans (if_neg k39) (Eq.trans (if_pos k57) (Eq.trans (if_neg k142) rfl)))
          have hg : fL_sets x v x3 = ((mkL (v 0) (v 1) (v 2) (v 3) (upd (v 4) ((fL_low x3 7).toNatClampNeg) w_30), r_33.1), 0) := by have e2 := congrArg (fun z => z) e_35; exact hg.trans e2
          exact eE_z hC (by rw [hg]) rfl ⟨b, hRb, by rw [hg]; exact hP⟩ hS dL_sets_150
        · refine lv_iconst (v := 1) hC.1 hC.2.1 dL_sets_145 (by decide) ?_
          refine lv_goto (tgt := 150) hC.1 hC.2.1 dL_sets_146 (by decide) ?_
          have e_36 : fL_sets x v x3 = ((mkL (v 0) (v 1) (v 2) (v 3) (upd (v 4) ((fL_low x3 7).toNatClampNeg) w_30), r_33.1), 1) := by
            have q_ := ew_30.symm; subst q_; delta fL_sets
            try dsimp only
            rw [← er_33]
            exact Eq.trans (if_neg k20) (Eq.trans (if_neg k39) (Eq.trans (if_pos k57) (Eq.trans (if_pos k142) rfl)))
          have hg : fL_sets x v x3 = ((mkL (v 0) (v 1) (v 2) (v 3) (upd (v 4) ((fL_low x3 7).toNatClampNeg) w_30), r_33.1), 1) := by have e2 := congrArg (fun z => z) e_36; exact hg.trans e2
          exact eE_z hC (by rw [hg]) rfl ⟨b, hRb, by rw [hg]; exact hP⟩ hS dL_sets_150
    · refine lv_iconst (v := 5) hC.1 hC.2.1 dL_sets_42 (by decide) ?_
      refine lv_iload hC.1 hC.2.1 dL_sets_43 (lv_at hl 1 rfl) ?_
      refine lv_sipush (v := 196) hC.1 hC.2.1 dL_sets_45 (by decide +kernel) ?_
      refine runP (rS (B := fun U H => True) (As := [.int (x3 >>> (3 &&& 31)), .int 196]) (rest := [.int 5, .int (nI ((fL_low x3 7).toNatClampNeg)), .ref (q 4)]) hC mwL_low (c_L_low l G (x3 >>> (3 &&& 31)) 196 (by decide)) wd_219 wd_218 ⟨rfl, rfl⟩ ⟨Nat.le_of_ble_eq_true rfl, Nat.le_of_ble_eq_true rfl⟩ (fun _ _ _ _ h => h) hKN trivial rfl hl.1 rfl (Nat.le_of_ble_eq_true rfl) dL_sets_48 ⟨Nat.zero_le _, Nat.zero_le _⟩) ?_
      refine lv_iadd hC.1 hC.2.1 dL_sets_51 ?_
      refine lv_goto (tgt := 131) hC.1 hC.2.1 dL_sets_52 (by decide) ?_
      refine lv_topi (fun w_37 ew_37 => ?_)
      refine iast_k hC hKN hP (jn_D hql hq hN hAq hAb v x) hS 4 rfl (n := 21) (f := (v 4)) ((fL_low x3 7).toNatClampNeg) (rfl) (Nat.lt_trans (low7 _) (by decide)) (by first | decide | omega) dL_sets_131 (fun H locs hq_38 hS => ?_)
      have hP : PW G (lwW G q (mkL (v 0) (v 1) (v 2) (v 3) (upd (v 4) ((fL_low x3 7).toNatClampNeg) w_37)) ++ hdW G a b x) H := hq_38
      have hI : le_n (((mkL (v 0) (v 1) (v 2) (v 3) (upd (v 4) ((fL_low x3 7).toNatClampNeg) w_37), x)).2 9 2 0) 6 := hI
      refine lv_aload_n hC.1 hC.2.1 dL_sets_132 rfl (lv_at hl 3 rfl) ?_
      refine lv_iload_n hC.1 hC.2.1 dL_sets_133 rfl (lv_at hl 2 rfl) ?_
      refine lv_aload_n hC.1 hC.2.1 dL_sets_134 rfl (lv_at hl 4 rfl) ?_
      refine lv_iload_n hC.1 hC.2.1 dL_sets_135 rfl (lv_at hl 2 rfl) ?_
      refine iald_k hC (hKN.go hAL hS) hP 4 rfl (n := 21) (f := (upd (v 4) ((fL_low x3 7).toNatClampNeg) w_37)) ((fL_low x3 7).toNatClampNeg) (rfl) (Nat.lt_trans (low7 _) (by decide)) (by first | decide | omega) dL_sets_136 ?_
      refine runE (rV (B := fun U H => PW G (hdW G a b x) H) (As := [.int (nI ((fL_low x3 7).toNatClampNeg)), .int ((upd (v 4) ((fL_low x3 7).toNatClampNeg) w_37) ((fL_low x3 7).toNatClampNeg))]) (rest := []) hC mwX5_set (c_X5_set l G a b x (nI ((fL_low x3 7).toNatClampNeg)) ((upd (v 4) ((fL_low x3 7).toNatClampNeg) w_37) ((fL_low x3 7).toNatClampNeg)) hq hI (iw06 (low7 _)) (by first | exact set_0 k20 (pk_us.trans ew_37) | exact set_1 k39 (pk_us.trans ew_37) | exact set_2 k57 (pk_us.trans ew_37) | exact set_3 k77 (pk_us.trans ew_37) | exact set_4 k94 (pk_us.trans ew_37) | exact set_5 k112 (pk_us.trans ew_37) | exact set_6 (low7 _) k20 k39 k57 k77 k94 k112 (pk_us.trans ew_37))) iwX5_set wd_593 ⟨rfl, rfl⟩ ⟨Nat.le_of_ble_eq_true rfl, Nat.le_of_ble_eq_true rfl⟩ (stb_h (fun H => PW G (hdW G a b x) H)) (hKN.go hAL hS) (PW_app.mp hP).2 (va_recv (hKN.go hAL hS).k (PW_app.mp hP).2 (ci := 5) (q0 := 0) rfl rfl) rfl hl.1 rfl (Nat.le_of_ble_eq_true rfl) dL_sets_137 ⟨Nat.zero_le _, Nat.zero_le _⟩) hS (fun _ h => hAb _ h) (fun _ h => hAb _ h) (fun H locs hq_39 _ hk_41 hS => ?_)
      obtain ⟨b, hR, hP⟩ := jn_hdN hql hN hP hk_41 hq_39
      have hN : ∀ z, lwA q z → ¬ hdA a b z := fun z h k => hN z h (hR.2 z k)
      have hAj : ∀ z, jnA q a b z → (jnA q a b0) z := fun z h => hAj z (jnA_R hR h)
      have hAb : ∀ z, hdA a b z → (jnA q a b0) z := fun z h => hAb z (hR.2 z h)
      have hRb := hRb.tr hR
      have hq := hR.1
      obtain ⟨r_40, er_40⟩ : ∃ z, z = fX5_set x (nI ((fL_low x3 7).toNatClampNeg)) ((upd (v 4) ((fL_low x3 7).toNatClampNeg) w_37) ((fL_low x3 7).toNatClampNeg)) := ⟨_, rfl⟩
      rw [← er_40] at hP
      show W p l e ({ frames := 6, cells := 0, slots := 0, locals := 137 }) s m ([.ref (a 0), .ref (q 4), .int x3] : List Value).toArray below meth c H locs (0 + 0) (0 + 0) _ (F0 m (137 + 3) ls [.int ((fX5_set x (nI ((fL_low x3 7).toNatClampNeg)) ((upd (v 4) ((fL_low x3 7).toNatClampNeg) w_37) ((fL_low x3 7).toNatClampNeg))).2)])
      rw [← er_40]
      have hI : True := trivial
      refine lv_iload hC.1 hC.2.1 dL_sets_140 (lv_at hl 0 rfl) ?_
      refine lv_icmp_ne (tgt := 149) hC.1 hC.2.1 dL_sets_142 (by decide) (fun k142 => ?_) (fun k142 => ?_)
      · refine lv_iconst (v := 0) hC.1 hC.2.1 dL_sets_149 (by decide) ?_
        have e_42 : fL_sets x v x3 = ((mkL (v 0) (v 1) (v 2) (v 3) (upd (v 4) ((fL_low x3 7).toNatClampNeg) w_37), r_40.1), 0) := by
          have q_ := ew_37.symm; subst q_; delta fL_sets
          try dsimp only
          rw [← er_40]
          exact Eq.trans (if_neg k20) (Eq.trans (if_pos k39) (Eq.trans (if_neg k142) rfl))
        have hg : fL_sets x v x3 = ((mkL (v 0) (v 1) (v 2) (v 3) (upd (v 4) ((fL_low x3 7).toNatClampNeg) w_37), r_40.1), 0) := by have e2 := congrArg (fun z => z) e_42; exact hg.trans e2
        exact eE_z hC (by rw [hg]) rfl ⟨b, hRb, by rw [hg]; exact hP⟩ hS dL_sets_150
      · refine lv_iconst (v := 1) hC.1 hC.2.1 dL_sets_145 (by decide) ?_
        refine lv_goto (tgt := 150) hC.1 hC.2.1 dL_sets_146 (by decide) ?_
        have e_43 : fL_sets x v x3 = ((mkL (v 0) (v 1) (v 2) (v 3) (upd (v 4) ((fL_low x3 7).toNatClampNeg) w_37), r_40.1), 1) := by
          have q_ := ew_37.symm; subst q_; delta fL_sets
          try dsimp only
          rw [← er_40]
          exact Eq.trans (if_neg k20) (Eq.trans (if_pos k39) (Eq.trans (if_pos k142) rfl))
        have hg : fL_sets x v x3 = ((mkL (v 0) (v 1) (v 2) (v 3) (upd (v 4) ((fL_low x3 7).toNatClampNeg) w_37), r_40.1), 1) := by have e2 := congrArg (fun z => z) e_43; exact hg.trans e2
        exact eE_z hC (by rw [hg]) rfl ⟨b, hRb, by rw [hg]; exact hP⟩ hS dL_sets_150
  · refine lv_bipush (v := 50) hC.1 hC.2.1 dL_sets_23 (by decide +kernel) ?_
    refine lv_iload hC.1 hC.2.1 dL_sets_25 (lv_at hl 1 rfl) ?_
    refine lv_sipush (v := 251) hC.1 hC.2.1 dL_sets_27 (by decide +kernel) ?_
    refine runP (rS (B := fun U H => True) (As := [.int (x3 >>> (3 &&& 31)), .int 251]) (rest := [.int 50, .int (nI ((fL_low x3 7).toNatClampNeg)), .ref (q 4)]) hC mwL_low (c_L_low l G (x3 >>> (3 &&& 31)) 251 (by decide)) wd_219 wd_218 ⟨rfl, rfl⟩ ⟨Nat.le_of_ble_eq_true rfl, Nat.le_of_ble_eq_true rfl⟩ (fun _ _ _ _ h => h) hKN trivial rfl hl.1 rfl (Nat.le_of_ble_eq_true rfl) dL_sets_30 ⟨Nat.zero_le _, Nat.zero_le _⟩) ?_
    refine lv_iadd hC.1 hC.2.1 dL_sets_33 ?_
    refine lv_goto (tgt := 131) hC.1 hC.2.1 dL_sets_34 (by decide) ?_
    refine lv_topi (fun w_44 ew_44 => ?_)
    refine iast_k hC hKN hP (jn_D hql hq hN hAq hAb v x) hS 4 rfl (n := 21) (f := (v 4)) ((fL_low x3 7).toNatClampNeg) (rfl) (Nat.lt_trans (low7 _) (by decide)) (by first | decide | omega) dL_sets_131 (fun H locs hq_45 hS => ?_)
    have hP : PW G (lwW G q (mkL (v 0) (v 1) (v 2) (v 3) (upd (v 4) ((fL_low x3 7).toNatClampNeg) w_44)) ++ hdW G a b x) H := hq_45
    have hI : le_n (((mkL (v 0) (v 1) (v 2) (v 3) (upd (v 4) ((fL_low x3 7).toNatClampNeg) w_44), x)).2 9 2 0) 6 := hI
    refine lv_aload_n hC.1 hC.2.1 dL_sets_132 rfl (lv_at hl 3 rfl) ?_
    refine lv_iload_n hC.1 hC.2.1 dL_sets_133 rfl (lv_at hl 2 rfl) ?_
    refine lv_aload_n hC.1 hC.2.1 dL_sets_134 rfl (lv_at hl 4 rfl) ?_
    refine lv_iload_n hC.1 hC.2.1 dL_sets_135 rfl (lv_at hl 2 rfl) ?_
    refine iald_k hC (hKN.go hAL hS) hP 4 rfl (n := 21) (f := (upd (v 4) ((fL_low x3 7).toNatClampNeg) w_44)) ((fL_low x3 7).toNatClampNeg) (rfl) (Nat.lt_trans (low7 _) (by decide)) (by first | decide | omega) dL_sets_136 ?_
    refine runE (rV (B := fun U H => PW G (hdW G a b x) H) (As := [.int (nI ((fL_low x3 7).toNatClampNeg)), .int ((upd (v 4) ((fL_low x3 7).toNatClampNeg) w_44) ((fL_low x3 7).toNatClampNeg))]) (rest := []) hC mwX5_set (c_X5_set l G a b x (nI ((fL_low x3 7).toNatClampNeg)) ((upd (v 4) ((fL_low x3 7).toNatClampNeg) w_44) ((fL_low x3 7).toNatClampNeg)) hq hI (iw06 (low7 _)) (by first | exact set_0 k20 (pk_us.trans ew_44) | exact set_1 k39 (pk_us.trans ew_44) | exact set_2 k57 (pk_us.trans ew_44) | exact set_3 k77 (pk_us.trans ew_44) | exact set_4 k94 (pk_us.trans ew_44) | exact set_5 k112 (pk_us.trans ew_44) | exact set_6 (low7 _) k20 k39 k57 k77 k94 k112 (pk_us.trans ew_44))) iwX5_set wd_593 ⟨rfl, rfl⟩ ⟨Nat.le_of_ble_eq_true rfl, Nat.le_of_ble_eq_true rfl⟩ (stb_h (fun H => PW G (hdW G a b x) H)) (hKN.go hAL hS) (PW_app.mp hP).2 (va_recv (hKN.go hAL hS).k (PW_app.mp hP).2 (ci := 5) (q0 := 0) rfl rfl) rfl hl.1 rfl (Nat.le_of_ble_eq_true rfl) dL_sets_137 ⟨Nat.zero_le _, Nat.zero_le _⟩) hS (fun _ h => hAb _ h) (fun _ h => hAb _ h) (fun H locs hq_46 _ hk_48 hS => ?_)
    obtain ⟨b, hR, hP⟩ := jn_hdN hql hN hP hk_48 hq_46
    have hN : ∀ z, lwA q z → ¬ hdA a b z := fun z h k => hN z h (hR.2 z k)
    have hAj : ∀ z, jnA q a b z → (jnA q a b0) z := fun z h => hAj z (jnA_R hR h)
    have hAb : ∀ z, hdA a b z → (jnA q a b0) z := fun z h => hAb z (hR.2 z h)
    have hRb := hRb.tr hR
    have hq := hR.1
    obtain ⟨r_47, er_47⟩ : ∃ z, z = fX5_set x (nI ((fL_low x3 7).toNatClampNeg)) ((upd (v 4) ((fL_low x3 7).toNatClampNeg) w_44) ((fL_low x3 7).toNatClampNeg)) := ⟨_, rfl⟩
    rw [← er_47] at hP
    show W p l e ({ frames := 6, cells := 0, slots := 0, locals := 137 }) s m ([.ref (a 0), .ref (q 4), .int x3] : List Value).toArray below meth c H locs (0 + 0) (0 + 0) _ (F0 m (137 + 3) ls [.int ((fX5_set x (nI ((fL_low x3 7).toNatClampNeg)) ((upd (v 4) ((fL_low x3 7).toNatClampNeg) w_44) ((fL_low x3 7).toNatClampNeg))).2)])
    rw [← er_47]
    have hI : True := trivial
    refine lv_iload hC.1 hC.2.1 dL_sets_140 (lv_at hl 0 rfl) ?_
    refine lv_icmp_ne (tgt := 149) hC.1 hC.2.1 dL_sets_142 (by decide) (fun k142 => ?_) (fun k142 => ?_)
    · refine lv_iconst (v := 0) hC.1 hC.2.1 dL_sets_149 (by decide) ?_
      have e_49 : fL_sets x v x3 = ((mkL (v 0) (v 1) (v 2) (v 3) (upd (v 4) ((fL_low x3 7).toNatClampNeg) w_44), r_47.1), 0) := by
        have q_ := ew_44.symm; subst q_; delta fL_sets
        try dsimp only
        rw [← er_47]
        exact Eq.trans (if_pos k20) (Eq.trans (if_neg k142) rfl)
      have hg : fL_sets x v x3 = ((mkL (v 0) (v 1) (v 2) (v 3) (upd (v 4) ((fL_low x3 7).toNatClampNeg) w_44), r_47.1), 0) := by have e2 := congrArg (fun z => z) e_49; exact hg.trans e2
      exact eE_z hC (by rw [hg]) rfl ⟨b, hRb, by rw [hg]; exact hP⟩ hS dL_sets_150
    · refine lv_iconst (v := 1) hC.1 hC.2.1 dL_sets_145 (by decide) ?_
      refine lv_goto (tgt := 150) hC.1 hC.2.1 dL_sets_146 (by decide) ?_
      have e_50 : fL_sets x v x3 = ((mkL (v 0) (v 1) (v 2) (v 3) (upd (v 4) ((fL_low x3 7).toNatClampNeg) w_44), r_47.1), 1) := by
        have q_ := ew_44.symm; subst q_; delta fL_sets
        try dsimp only
        rw [← er_47]
        exact Eq.trans (if_pos k20) (Eq.trans (if_pos k142) rfl)
      have hg : fL_sets x v x3 = ((mkL (v 0) (v 1) (v 2) (v 3) (upd (v 4) ((fL_low x3 7).toNatClampNeg) w_44), r_47.1), 1) := by have e2 := congrArg (fun z => z) e_50; exact hg.trans e2
      exact eE_z hC (by rw [hg]) rfl ⟨b, hRb, by rw [hg]; exact hP⟩ hS dL_sets_150
