def fX1_takeOfWord (r : Nat → Int32) (x1 : Int32) : (Nat → Int32) × Int32 := if (r 3) < 0 then ((r, 0)) else (if (fJ0_length_8abf5 ((r 2).toNatClampNeg)) ≤ (r 3) then ((r, 0)) else (if (fJ0_charAt_5068e ((r 2).toNatClampNeg) (r 3)) = x1 then (let w_3 : Int32 := (r 3) + 1; if w_3 = (fJ0_length_8abf5 ((r 2).toNatClampNeg)) then (let w_6 : Int32 := r 1; (mkR w_6 (r 1) (r 2) w_3 (r 4) (r 5) (r 6) (r 7) (r 8) (r 9), 1)) else ((mkR (r 0) (r 1) (r 2) w_3 (r 4) (r 5) (r 6) (r 7) (r 8) (r 9), 1))) else ((r, 0))))
def fX1_hexDigit (x1 : Int32) : Int32 := if (fX5_isWithin x1 48 57) = 0 then (if (fX5_isWithin x1 97 102) = 0 then ((-1)) else ((x1 - 97) + 10)) else (x1 - 48)
def fX1_takeStar (r : Nat → Int32) (x1 : Int32) : (Nat → Int32) × Int32 := if x1 = 42 then ((mkR 4 (r 1) (r 2) (r 3) (r 4) (r 5) (r 6) (r 7) (r 8) 20, 1)) else ((r, 0))
def fX1_takeOfDots (r : Nat → Int32) (x1 : Int32) : (Nat → Int32) × Int32 := if (r 6) < 6 then (if 0 ≤ (fX1_hexDigit x1) then (let w_1 : Int32 := ((r 5) * 16) + (fX1_hexDigit x1); let w_3 : Int32 := (r 6) + 1; (mkR (r 0) (r 1) (r 2) (r 3) (r 4) w_1 w_3 (r 7) (r 8) (r 9), 1)) else ((r, 0))) else (let r_8 := fX1_takeStar r x1
  (r_8.1, r_8.2))
def fX1_takeDigit (r : Nat → Int32) (x1 : Int32) : (Nat → Int32) × Int32 := if (fX5_isWithin x1 48 57) = 0 then ((r, 0)) else (if (fX5_isWithin (((r 8) * 10) + (x1 - 48)) 1 (r 9)) = 0 then ((r, 0)) else (let w_1 : Int32 := ((r 8) * 10) + (x1 - 48); (mkR (r 0) (r 1) (r 2) (r 3) (r 4) (r 5) (r 6) (r 7) w_1 (r 9), 1)))
theorem len_eq (w : Nat) : fJ0_length_8abf5 w = nI (wLen.getD w 0) := by
  have h : ∀ x : Int32, x >>> ((0 : Int32) &&& 31) = x := fun x => Int32.toInt_inj.mp ((pk_shr x ((0 : Int32) &&& 31) 0 (by decide)).trans (Int.shiftRight_zero _))
  exact h _
theorem Z_X1_takeStar (r : Nat → Int32) (x : Int32) : (fX1_takeStar r x).2 = 0 ∨ (fX1_takeStar r x).2 = 1 := by
  unfold fX1_takeStar
  repeat' split
  all_goals first | exact Or.inl rfl | exact Or.inr rfl
theorem dX1_takeOfWord_0 : decode cX1_takeOfWord 0 = .ok (.aload_n 0, 1) := by decide +kernel
theorem dX1_takeOfWord_1 : decode cX1_takeOfWord 1 = .ok (.getfield 17, 3) := by decide +kernel
theorem dX1_takeOfWord_4 : decode cX1_takeOfWord 4 = .ok (.ifCond .lt 32, 3) := by decide +kernel
theorem dX1_takeOfWord_7 : decode cX1_takeOfWord 7 = .ok (.aload_n 0, 1) := by decide +kernel
theorem dX1_takeOfWord_8 : decode cX1_takeOfWord 8 = .ok (.getfield 17, 3) := by decide +kernel
theorem dX1_takeOfWord_11 : decode cX1_takeOfWord 11 = .ok (.aload_n 0, 1) := by decide +kernel
theorem dX1_takeOfWord_12 : decode cX1_takeOfWord 12 = .ok (.getfield 11, 3) := by decide +kernel
theorem dX1_takeOfWord_15 : decode cX1_takeOfWord 15 = .ok (.invokevirtual 109, 3) := by decide +kernel
theorem dX1_takeOfWord_18 : decode cX1_takeOfWord 18 = .ok (.if_icmp .ge 18, 3) := by decide +kernel
theorem dX1_takeOfWord_21 : decode cX1_takeOfWord 21 = .ok (.aload_n 0, 1) := by decide +kernel
theorem dX1_takeOfWord_22 : decode cX1_takeOfWord 22 = .ok (.getfield 11, 3) := by decide +kernel
theorem dX1_takeOfWord_25 : decode cX1_takeOfWord 25 = .ok (.aload_n 0, 1) := by decide +kernel
theorem dX1_takeOfWord_26 : decode cX1_takeOfWord 26 = .ok (.getfield 17, 3) := by decide +kernel
theorem dX1_takeOfWord_29 : decode cX1_takeOfWord 29 = .ok (.invokevirtual 114, 3) := by decide +kernel
theorem dX1_takeOfWord_32 : decode cX1_takeOfWord 32 = .ok (.iload_n 1, 1) := by decide +kernel
theorem dX1_takeOfWord_33 : decode cX1_takeOfWord 33 = .ok (.if_icmp .eq 5, 3) := by decide +kernel
theorem dX1_takeOfWord_36 : decode cX1_takeOfWord 36 = .ok (.iconst 0, 1) := by decide +kernel
theorem dX1_takeOfWord_37 : decode cX1_takeOfWord 37 = .ok (.ireturn, 1) := by decide +kernel
theorem dX1_takeOfWord_38 : decode cX1_takeOfWord 38 = .ok (.aload_n 0, 1) := by decide +kernel
theorem dX1_takeOfWord_39 : decode cX1_takeOfWord 39 = .ok (.dup, 1) := by decide +kernel
theorem dX1_takeOfWord_40 : decode cX1_takeOfWord 40 = .ok (.getfield 17, 3) := by decide +kernel
theorem dX1_takeOfWord_43 : decode cX1_takeOfWord 43 = .ok (.iconst 1, 1) := by decide +kernel
theorem dX1_takeOfWord_44 : decode cX1_takeOfWord 44 = .ok (.iadd, 1) := by decide +kernel
theorem dX1_takeOfWord_45 : decode cX1_takeOfWord 45 = .ok (.putfield 17, 3) := by decide +kernel
theorem dX1_takeOfWord_48 : decode cX1_takeOfWord 48 = .ok (.aload_n 0, 1) := by decide +kernel
theorem dX1_takeOfWord_49 : decode cX1_takeOfWord 49 = .ok (.getfield 17, 3) := by decide +kernel
theorem dX1_takeOfWord_52 : decode cX1_takeOfWord 52 = .ok (.aload_n 0, 1) := by decide +kernel
theorem dX1_takeOfWord_53 : decode cX1_takeOfWord 53 = .ok (.getfield 11, 3) := by decide +kernel
theorem dX1_takeOfWord_56 : decode cX1_takeOfWord 56 = .ok (.invokevirtual 109, 3) := by decide +kernel
theorem dX1_takeOfWord_59 : decode cX1_takeOfWord 59 = .ok (.if_icmp .ne 11, 3) := by decide +kernel
theorem dX1_takeOfWord_62 : decode cX1_takeOfWord 62 = .ok (.aload_n 0, 1) := by decide +kernel
theorem dX1_takeOfWord_63 : decode cX1_takeOfWord 63 = .ok (.aload_n 0, 1) := by decide +kernel
theorem dX1_takeOfWord_64 : decode cX1_takeOfWord 64 = .ok (.getfield 24, 3) := by decide +kernel
theorem dX1_takeOfWord_67 : decode cX1_takeOfWord 67 = .ok (.putfield 21, 3) := by decide +kernel
theorem dX1_takeOfWord_70 : decode cX1_takeOfWord 70 = .ok (.iconst 1, 1) := by decide +kernel
theorem dX1_takeOfWord_71 : decode cX1_takeOfWord 71 = .ok (.ireturn, 1) := by decide +kernel
set_option maxHeartbeats 1000000 in
set_option maxRecDepth 100000 in
theorem c_X1_takeOfWord (l : Launch) (G : GT) (a : Nat) (r : Nat → Int32) (x1 : Int32) (hlow : gL G ≤ a) (hI : (r 2).toNatClampNeg < 8) : Met l yX1_takeOfWord (Cond.code yX1_takeOfWord cX1_takeOfWord 2 (some .boolean) :: bigW) ({ frames := 4, cells := 0, slots := 0, locals := 85 }) (BP G [.ref a, .int x1] (fun U H => PW G (rrW G a r) H)) (QE (some (.int (fX1_takeOfWord r x1).2)) (fun H => PW G (rrW G a (fX1_takeOfWord r x1).1) H) (fun z => z = a)) 0 0 (fun z => z = a) := by
  refine met_of (by decide) (Nat.le_of_ble_eq_true rfl) ?_
  intro p e s m below meth c ls hC hKN hB0 hl
  have hP := hB0
  have hl : lv_has ls 2 [(0, .ref a), (1, .int x1)] := hl
  have hS : va_S (fun z => z = a) s.heap s.heap [] := va_S.rf
  have hAL : ∀ z, (fun z => z = a) z → gL G ≤ z := fun z h => by have h : z = a := h; rw [h]; exact hlow
  have hg : fX1_takeOfWord r x1 = fX1_takeOfWord r x1 := rfl
  refine lv_aload_n hC.1 hC.2.1 dX1_takeOfWord_0 rfl (lv_at hl 0 rfl) ?_
  refine gf (v := .int (r 3)) hC fwX1 hKN hP 0 rfl rfl 3 (by decide) rfl wd_170 rfl dX1_takeOfWord_1 ?_
  refine lv_if_lt (tgt := 36) hC.1 hC.2.1 dX1_takeOfWord_4 (by decide) (fun k4 => ?_) (fun k4 => ?_)
  · refine lv_iconst (v := 0) hC.1 hC.2.1 dX1_takeOfWord_36 (by decide) ?_
    have e_1 : fX1_takeOfWord r x1 = (r, 0) := by delta fX1_takeOfWord; exact Eq.trans (if_pos k4) rfl
    have hg : fX1_takeOfWord r x1 = (r, 0) := by have e2 := congrArg (fun z => z) e_1; exact hg.trans e2
    exact eE_z hC (by rw [hg]) rfl (by show PW G (rrW G a (fX1_takeOfWord r x1).1) s.heap; rw [hg]; exact hP) hS dX1_takeOfWord_37
  · refine lv_aload_n hC.1 hC.2.1 dX1_takeOfWord_7 rfl (lv_at hl 0 rfl) ?_
    refine gf (v := .int (r 3)) hC fwX1 hKN hP 0 rfl rfl 3 (by decide) rfl wd_170 rfl dX1_takeOfWord_8 ?_
    refine lv_aload_n hC.1 hC.2.1 dX1_takeOfWord_11 rfl (lv_at hl 0 rfl) ?_
    refine gf (v := .ref (gA G (10 + ((r 2).toNatClampNeg)))) hC fwX1 hKN hP 0 rfl rfl 2 (by decide) rfl wd_169 rfl dX1_takeOfWord_12 ?_
    refine runP (rV (B := fun U H => True) (As := []) (rest := [.int (r 3)]) hC mwJ0_length_8abf5 (c_J0_length_8abf5 l G ((r 2).toNatClampNeg) hI) iwJ0_length_8abf5 wd_283 ⟨rfl, rfl⟩ ⟨Nat.le_of_ble_eq_true rfl, Nat.le_of_ble_eq_true rfl⟩ (fun _ _ _ _ h => h) hKN trivial (hKN.strRecv hI) rfl hl.1 rfl (Nat.le_of_ble_eq_true rfl) dX1_takeOfWord_15 ⟨Nat.zero_le _, Nat.zero_le _⟩) ?_
    refine lv_icmp_ge (tgt := 36) hC.1 hC.2.1 dX1_takeOfWord_18 (by decide) (fun k18 => ?_) (fun k18 => ?_)
    · refine lv_iconst (v := 0) hC.1 hC.2.1 dX1_takeOfWord_36 (by decide) ?_
      have e_2 : fX1_takeOfWord r x1 = (r, 0) := by delta fX1_takeOfWord; exact Eq.trans (if_neg k4) (Eq.trans (if_pos k18) rfl)
      have hg : fX1_takeOfWord r x1 = (r, 0) := by have e2 := congrArg (fun z => z) e_2; exact hg.trans e2
      exact eE_z hC (by rw [hg]) rfl (by show PW G (rrW G a (fX1_takeOfWord r x1).1) s.heap; rw [hg]; exact hP) hS dX1_takeOfWord_37
    · refine lv_aload_n hC.1 hC.2.1 dX1_takeOfWord_21 rfl (lv_at hl 0 rfl) ?_
      refine gf (v := .ref (gA G (10 + ((r 2).toNatClampNeg)))) hC fwX1 hKN hP 0 rfl rfl 2 (by decide) rfl wd_169 rfl dX1_takeOfWord_22 ?_
      refine lv_aload_n hC.1 hC.2.1 dX1_takeOfWord_25 rfl (lv_at hl 0 rfl) ?_
      refine gf (v := .int (r 3)) hC fwX1 hKN hP 0 rfl rfl 3 (by decide) rfl wd_170 rfl dX1_takeOfWord_26 ?_
      refine runP (rV (B := fun U H => True) (As := [.int (r 3)]) (rest := []) hC mwJ0_charAt_5068e (c_J0_charAt_5068e l G ((r 2).toNatClampNeg) (r 3) hI k4 (by have q := Int32.not_le.mp k18; rw [len_eq] at q; exact q)) iwJ0_charAt_5068e wd_293 ⟨rfl, rfl⟩ ⟨Nat.le_of_ble_eq_true rfl, Nat.le_of_ble_eq_true rfl⟩ (fun _ _ _ _ h => h) hKN trivial (hKN.strRecv hI) rfl hl.1 rfl (Nat.le_of_ble_eq_true rfl) dX1_takeOfWord_29 ⟨Nat.zero_le _, Nat.zero_le _⟩) ?_
      refine lv_iload_n hC.1 hC.2.1 dX1_takeOfWord_32 rfl (lv_at hl 1 rfl) ?_
      refine lv_icmp_eq (tgt := 38) hC.1 hC.2.1 dX1_takeOfWord_33 (by decide) (fun k33 => ?_) (fun k33 => ?_)
      · refine lv_aload_n hC.1 hC.2.1 dX1_takeOfWord_38 rfl (lv_at hl 0 rfl) ?_
        refine lv_dup hC.1 hC.2.1 dX1_takeOfWord_39 rfl ?_
        refine gf (v := .int (r 3)) hC fwX1 hKN hP 0 rfl rfl 3 (by decide) rfl wd_170 rfl dX1_takeOfWord_40 ?_
        refine lv_iconst (v := 1) hC.1 hC.2.1 dX1_takeOfWord_43 (by decide) ?_
        refine lv_iadd hC.1 hC.2.1 dX1_takeOfWord_44 ?_
        refine lv_topi (fun w_3 ew_3 => ?_)
        refine pf (v := .int w_3) (tv := .int) hC fwX1 hKN hP (rrW_D r) hS 0 rfl rfl 3 (by decide) rfl wd_170 rfl rfl rfl (Nat.le_of_ble_eq_true rfl) dX1_takeOfWord_45 (fun H locs hq_4 hS => ?_)
        have hP : PW G (rrW G a (mkR (r 0) (r 1) (r 2) w_3 (r 4) (r 5) (r 6) (r 7) (r 8) (r 9))) H := hq_4
        have hI : ((mkR (r 0) (r 1) (r 2) w_3 (r 4) (r 5) (r 6) (r 7) (r 8) (r 9)) 2).toNatClampNeg < 8 := hI
        refine lv_aload_n hC.1 hC.2.1 dX1_takeOfWord_48 rfl (lv_at hl 0 rfl) ?_
        refine gf (v := .int w_3) hC fwX1 (hKN.go hAL hS) hP 0 rfl rfl 3 (by decide) rfl wd_170 rfl dX1_takeOfWord_49 ?_
        refine lv_aload_n hC.1 hC.2.1 dX1_takeOfWord_52 rfl (lv_at hl 0 rfl) ?_
        refine gf (v := .ref (gA G (10 + ((r 2).toNatClampNeg)))) hC fwX1 (hKN.go hAL hS) hP 0 rfl rfl 2 (by decide) rfl wd_169 rfl dX1_takeOfWord_53 ?_
        refine runP (rV (B := fun U H => True) (As := []) (rest := [.int w_3]) hC mwJ0_length_8abf5 (c_J0_length_8abf5 l G ((r 2).toNatClampNeg) hI) iwJ0_length_8abf5 wd_283 ⟨rfl, rfl⟩ ⟨Nat.le_of_ble_eq_true rfl, Nat.le_of_ble_eq_true rfl⟩ (fun _ _ _ _ h => h) (hKN.go hAL hS) trivial ((hKN.go hAL hS).strRecv hI) rfl hl.1 rfl (Nat.le_of_ble_eq_true rfl) dX1_takeOfWord_56 ⟨Nat.zero_le _, Nat.zero_le _⟩) ?_
        refine lv_icmp_ne (tgt := 70) hC.1 hC.2.1 dX1_takeOfWord_59 (by decide) (fun k59 => ?_) (fun k59 => ?_)
        · refine lv_iconst (v := 1) hC.1 hC.2.1 dX1_takeOfWord_70 (by decide) ?_
          have e_5 : fX1_takeOfWord r x1 = (mkR (r 0) (r 1) (r 2) w_3 (r 4) (r 5) (r 6) (r 7) (r 8) (r 9), 1) := by have q_ := ew_3.symm; subst q_; delta fX1_takeOfWord; exact Eq.trans (if_neg k4) (Eq.trans (if_neg k18) (Eq.trans (if_pos k33) (Eq.trans (if_neg k59) rfl)))
          have hg : fX1_takeOfWord r x1 = (mkR (r 0) (r 1) (r 2) w_3 (r 4) (r 5) (r 6) (r 7) (r 8) (r 9), 1) := by have e2 := congrArg (fun z => z) e_5; exact hg.trans e2
          exact eE_z hC (by rw [hg]) rfl (by show PW G (rrW G a (fX1_takeOfWord r x1).1) H; rw [hg]; exact hP) hS dX1_takeOfWord_71
        · refine lv_aload_n hC.1 hC.2.1 dX1_takeOfWord_62 rfl (lv_at hl 0 rfl) ?_
          refine lv_aload_n hC.1 hC.2.1 dX1_takeOfWord_63 rfl (lv_at hl 0 rfl) ?_
          refine gf (v := .int (r 1)) hC fwX1 (hKN.go hAL hS) hP 0 rfl rfl 1 (by decide) rfl wd_168 rfl dX1_takeOfWord_64 ?_
          refine lv_topi (fun w_6 ew_6 => ?_)
          refine pf (v := .int w_6) (tv := .int) hC fwX1 (hKN.go hAL hS) hP (rrW_D (mkR (r 0) (r 1) (r 2) w_3 (r 4) (r 5) (r 6) (r 7) (r 8) (r 9))) hS 0 rfl rfl 0 (by decide) rfl wd_167 rfl rfl rfl (Nat.le_of_ble_eq_true rfl) dX1_takeOfWord_67 (fun H locs hq_7 hS => ?_)
          have hP : PW G (rrW G a (mkR w_6 (r 1) (r 2) w_3 (r 4) (r 5) (r 6) (r 7) (r 8) (r 9))) H := hq_7
          have hI : ((mkR w_6 (r 1) (r 2) w_3 (r 4) (r 5) (r 6) (r 7) (r 8) (r 9)) 2).toNatClampNeg < 8 := hI
          refine lv_iconst (v := 1) hC.1 hC.2.1 dX1_takeOfWord_70 (by decide) ?_
          have e_8 : fX1_takeOfWord r x1 = (mkR w_6 (r 1) (r 2) w_3 (r 4) (r 5) (r 6) (r 7) (r 8) (r 9), 1) := by have q_ := ew_6.symm; subst q_; have q_ := ew_3.symm; subst q_; delta fX1_takeOfWord; exact Eq.trans (if_neg k4) (Eq.trans (if_neg k18) (Eq.trans (if_pos k33) (Eq.trans (if_pos k59) rfl)))
          have hg : fX1_takeOfWord r x1 = (mkR w_6 (r 1) (r 2) w_3 (r 4) (r 5) (r 6) (r 7) (r 8) (r 9), 1) := by have e2 := congrArg (fun z => z) e_8; exact hg.trans e2
          exact eE_z hC (by rw [hg]) rfl (by show PW G (rrW G a (fX1_takeOfWord r x1).1) H; rw [hg]; exact hP) hS dX1_takeOfWord_71
      · refine lv_iconst (v := 0) hC.1 hC.2.1 dX1_takeOfWord_36 (by decide) ?_
        have e_9 : fX1_takeOfWord r x1 = (r, 0) := by delta fX1_takeOfWord; exact Eq.trans (if_neg k4) (Eq.trans (if_neg k18) (Eq.trans (if_neg k33) rfl))
        have hg : fX1_takeOfWord r x1 = (r, 0) := by have e2 := congrArg (fun z => z) e_9; exact hg.trans e2
        exact eE_z hC (by rw [hg]) rfl (by show PW G (rrW G a (fX1_takeOfWord r x1).1) s.heap; rw [hg]; exact hP) hS dX1_takeOfWord_37

theorem dX1_hexDigit_0 : decode cX1_hexDigit 0 = .ok (.iload_n 0, 1) := by decide +kernel
theorem dX1_hexDigit_1 : decode cX1_hexDigit 1 = .ok (.bipush 48, 2) := by decide +kernel
theorem dX1_hexDigit_3 : decode cX1_hexDigit 3 = .ok (.bipush 57, 2) := by decide +kernel
theorem dX1_hexDigit_5 : decode cX1_hexDigit 5 = .ok (.invokestatic 124, 3) := by decide +kernel
theorem dX1_hexDigit_8 : decode cX1_hexDigit 8 = .ok (.ifCond .eq 8, 3) := by decide +kernel
theorem dX1_hexDigit_11 : decode cX1_hexDigit 11 = .ok (.iload_n 0, 1) := by decide +kernel
theorem dX1_hexDigit_12 : decode cX1_hexDigit 12 = .ok (.bipush 48, 2) := by decide +kernel
theorem dX1_hexDigit_14 : decode cX1_hexDigit 14 = .ok (.isub, 1) := by decide +kernel
theorem dX1_hexDigit_15 : decode cX1_hexDigit 15 = .ok (.ireturn, 1) := by decide +kernel
theorem dX1_hexDigit_16 : decode cX1_hexDigit 16 = .ok (.iload_n 0, 1) := by decide +kernel
theorem dX1_hexDigit_17 : decode cX1_hexDigit 17 = .ok (.bipush 97, 2) := by decide +kernel
theorem dX1_hexDigit_19 : decode cX1_hexDigit 19 = .ok (.bipush 102, 2) := by decide +kernel
theorem dX1_hexDigit_21 : decode cX1_hexDigit 21 = .ok (.invokestatic 124, 3) := by decide +kernel
theorem dX1_hexDigit_24 : decode cX1_hexDigit 24 = .ok (.ifCond .eq 13, 3) := by decide +kernel
theorem dX1_hexDigit_27 : decode cX1_hexDigit 27 = .ok (.iload_n 0, 1) := by decide +kernel
theorem dX1_hexDigit_28 : decode cX1_hexDigit 28 = .ok (.bipush 97, 2) := by decide +kernel
theorem dX1_hexDigit_30 : decode cX1_hexDigit 30 = .ok (.isub, 1) := by decide +kernel
theorem dX1_hexDigit_31 : decode cX1_hexDigit 31 = .ok (.bipush 10, 2) := by decide +kernel
theorem dX1_hexDigit_33 : decode cX1_hexDigit 33 = .ok (.iadd, 1) := by decide +kernel
theorem dX1_hexDigit_34 : decode cX1_hexDigit 34 = .ok (.goto 4, 3) := by decide +kernel
theorem dX1_hexDigit_37 : decode cX1_hexDigit 37 = .ok (.iconst (-1), 1) := by decide +kernel
theorem dX1_hexDigit_38 : decode cX1_hexDigit 38 = .ok (.ireturn, 1) := by decide +kernel
set_option maxHeartbeats 1000000 in
set_option maxRecDepth 100000 in
theorem c_X1_hexDigit (l : Launch) (G : GT) (x1 : Int32) : Met l yX1_hexDigit (Cond.code yX1_hexDigit cX1_hexDigit 1 (some .int) :: bigW) ({ frames := 1, cells := 0, slots := 0, locals := 22 }) (BP G [.int x1] (fun U H => True)) (QP (.int (fX1_hexDigit x1))) 0 0 (fun _ => False) := by
  refine met_of (by decide) (Nat.le_of_ble_eq_true rfl) ?_
  intro p e s m below meth c ls hC hKN hB0 hl
  have hl : lv_has ls 1 [(0, .int x1)] := hl
  have hg : fX1_hexDigit x1 = fX1_hexDigit x1 := rfl
  refine lv_iload_n hC.1 hC.2.1 dX1_hexDigit_0 rfl (lv_at hl 0 rfl) ?_
  refine lv_bipush (v := 48) hC.1 hC.2.1 dX1_hexDigit_1 (by decide +kernel) ?_
  refine lv_bipush (v := 57) hC.1 hC.2.1 dX1_hexDigit_3 (by decide +kernel) ?_
  refine runP (rSN (B := fun U H => True) (As := [.int x1, .int 48, .int 57]) (rest := []) hC mwX5_isWithin (c_X5_isWithin l G x1 48 57) wd_343 (nm_2 hKN) ⟨rfl, rfl⟩ ⟨Nat.le_of_ble_eq_true rfl, Nat.le_of_ble_eq_true rfl⟩ (fun _ _ _ _ h => h) hKN trivial rfl hl.1 rfl (Nat.le_of_ble_eq_true rfl) dX1_hexDigit_5 ⟨Nat.zero_le _, Nat.zero_le _⟩) ?_
  refine lv_if_eq (tgt := 16) hC.1 hC.2.1 dX1_hexDigit_8 (by decide) (fun k8 => ?_) (fun k8 => ?_)
  · refine lv_iload_n hC.1 hC.2.1 dX1_hexDigit_16 rfl (lv_at hl 0 rfl) ?_
    refine lv_bipush (v := 97) hC.1 hC.2.1 dX1_hexDigit_17 (by decide +kernel) ?_
    refine lv_bipush (v := 102) hC.1 hC.2.1 dX1_hexDigit_19 (by decide +kernel) ?_
    refine runP (rSN (B := fun U H => True) (As := [.int x1, .int 97, .int 102]) (rest := []) hC mwX5_isWithin (c_X5_isWithin l G x1 97 102) wd_343 (nm_2 hKN) ⟨rfl, rfl⟩ ⟨Nat.le_of_ble_eq_true rfl, Nat.le_of_ble_eq_true rfl⟩ (fun _ _ _ _ h => h) hKN trivial rfl hl.1 rfl (Nat.le_of_ble_eq_true rfl) dX1_hexDigit_21 ⟨Nat.zero_le _, Nat.zero_le _⟩) ?_
    refine lv_if_eq (tgt := 37) hC.1 hC.2.1 dX1_hexDigit_24 (by decide) (fun k24 => ?_) (fun k24 => ?_)
    · refine lv_iconst (v := (-1)) hC.1 hC.2.1 dX1_hexDigit_37 (by decide) ?_
      have e_1 : fX1_hexDigit x1 = (-1) := by delta fX1_hexDigit; exact Eq.trans (if_pos k8) (Eq.trans (if_pos k24) rfl)
      have hg : fX1_hexDigit x1 = (-1) := by have e2 := congrArg (fun z => z) e_1; exact hg.trans e2
      exact eP_i hC (congrArg Value.int hg) dX1_hexDigit_38
    · refine lv_iload_n hC.1 hC.2.1 dX1_hexDigit_27 rfl (lv_at hl 0 rfl) ?_
      refine lv_bipush (v := 97) hC.1 hC.2.1 dX1_hexDigit_28 (by decide +kernel) ?_
      refine lv_isub hC.1 hC.2.1 dX1_hexDigit_30 ?_
      refine lv_bipush (v := 10) hC.1 hC.2.1 dX1_hexDigit_31 (by decide +kernel) ?_
      refine lv_iadd hC.1 hC.2.1 dX1_hexDigit_33 ?_
      refine lv_goto (tgt := 38) hC.1 hC.2.1 dX1_hexDigit_34 (by decide) ?_
      have e_2 : fX1_hexDigit x1 = (x1 - 97) + 10 := by delta fX1_hexDigit; exact Eq.trans (if_pos k8) (Eq.trans (if_neg k24) rfl)
      have hg : fX1_hexDigit x1 = (x1 - 97) + 10 := by have e2 := congrArg (fun z => z) e_2; exact hg.trans e2
      exact eP_i hC (congrArg Value.int hg) dX1_hexDigit_38
  · refine lv_iload_n hC.1 hC.2.1 dX1_hexDigit_11 rfl (lv_at hl 0 rfl) ?_
    refine lv_bipush (v := 48) hC.1 hC.2.1 dX1_hexDigit_12 (by decide +kernel) ?_
    refine lv_isub hC.1 hC.2.1 dX1_hexDigit_14 ?_
    have e_3 : fX1_hexDigit x1 = x1 - 48 := by delta fX1_hexDigit; exact Eq.trans (if_neg k8) rfl
    have hg : fX1_hexDigit x1 = x1 - 48 := by have e2 := congrArg (fun z => z) e_3; exact hg.trans e2
    exact eP_i hC (congrArg Value.int hg) dX1_hexDigit_15

theorem dX1_takeStar_0 : decode cX1_takeStar 0 = .ok (.iload_n 1, 1) := by decide +kernel
theorem dX1_takeStar_1 : decode cX1_takeStar 1 = .ok (.bipush 42, 2) := by decide +kernel
theorem dX1_takeStar_3 : decode cX1_takeStar 3 = .ok (.if_icmp .eq 5, 3) := by decide +kernel
theorem dX1_takeStar_6 : decode cX1_takeStar 6 = .ok (.iconst 0, 1) := by decide +kernel
theorem dX1_takeStar_7 : decode cX1_takeStar 7 = .ok (.ireturn, 1) := by decide +kernel
theorem dX1_takeStar_8 : decode cX1_takeStar 8 = .ok (.aload_n 0, 1) := by decide +kernel
theorem dX1_takeStar_9 : decode cX1_takeStar 9 = .ok (.bipush 20, 2) := by decide +kernel
theorem dX1_takeStar_11 : decode cX1_takeStar 11 = .ok (.putfield 42, 3) := by decide +kernel
theorem dX1_takeStar_14 : decode cX1_takeStar 14 = .ok (.aload_n 0, 1) := by decide +kernel
theorem dX1_takeStar_15 : decode cX1_takeStar 15 = .ok (.iconst 4, 1) := by decide +kernel
theorem dX1_takeStar_16 : decode cX1_takeStar 16 = .ok (.putfield 21, 3) := by decide +kernel
theorem dX1_takeStar_19 : decode cX1_takeStar 19 = .ok (.iconst 1, 1) := by decide +kernel
theorem dX1_takeStar_20 : decode cX1_takeStar 20 = .ok (.ireturn, 1) := by decide +kernel
set_option maxHeartbeats 1000000 in
set_option maxRecDepth 100000 in
theorem c_X1_takeStar (l : Launch) (G : GT) (a : Nat) (r : Nat → Int32) (x1 : Int32) (hlow : gL G ≤ a) : Met l yX1_takeStar (Cond.code yX1_takeStar cX1_takeStar 2 (some .boolean) :: bigW) ({ frames := 0, cells := 0, slots := 0, locals := 0 }) (BP G [.ref a, .int x1] (fun U H => PW G (rrW G a r) H)) (QE (some (.int (fX1_takeStar r x1).2)) (fun H => PW G (rrW G a (fX1_takeStar r x1).1) H) (fun z => z = a)) 0 0 (fun z => z = a) := by
  refine met_of (by decide) (Nat.le_of_ble_eq_true rfl) ?_
  intro p e s m below meth c ls hC hKN hB0 hl
  have hP := hB0
  have hl : lv_has ls 2 [(0, .ref a), (1, .int x1)] := hl
  have hS : va_S (fun z => z = a) s.heap s.heap [] := va_S.rf
  have hAL : ∀ z, (fun z => z = a) z → gL G ≤ z := fun z h => by have h : z = a := h; rw [h]; exact hlow
  have hg : fX1_takeStar r x1 = fX1_takeStar r x1 := rfl
  refine lv_iload_n hC.1 hC.2.1 dX1_takeStar_0 rfl (lv_at hl 1 rfl) ?_
  refine lv_bipush (v := 42) hC.1 hC.2.1 dX1_takeStar_1 (by decide +kernel) ?_
  refine lv_icmp_eq (tgt := 8) hC.1 hC.2.1 dX1_takeStar_3 (by decide) (fun k3 => ?_) (fun k3 => ?_)
  · refine lv_aload_n hC.1 hC.2.1 dX1_takeStar_8 rfl (lv_at hl 0 rfl) ?_
    refine lv_bipush (v := 20) hC.1 hC.2.1 dX1_takeStar_9 (by decide +kernel) ?_
    refine pf (v := .int 20) (tv := .int) hC fwX1 hKN hP (rrW_D r) hS 0 rfl rfl 9 (by decide) rfl wd_180 rfl rfl rfl (Nat.le_of_ble_eq_true rfl) dX1_takeStar_11 (fun H locs hq_1 hS => ?_)
    have hP : PW G (rrW G a (mkR (r 0) (r 1) (r 2) (r 3) (r 4) (r 5) (r 6) (r 7) (r 8) 20)) H := hq_1
    refine lv_aload_n hC.1 hC.2.1 dX1_takeStar_14 rfl (lv_at hl 0 rfl) ?_
    refine lv_iconst (v := 4) hC.1 hC.2.1 dX1_takeStar_15 (by decide) ?_
    refine pf (v := .int 4) (tv := .int) hC fwX1 (hKN.go hAL hS) hP (rrW_D (mkR (r 0) (r 1) (r 2) (r 3) (r 4) (r 5) (r 6) (r 7) (r 8) 20)) hS 0 rfl rfl 0 (by decide) rfl wd_167 rfl rfl rfl (Nat.le_of_ble_eq_true rfl) dX1_takeStar_16 (fun H locs hq_2 hS => ?_)
    have hP : PW G (rrW G a (mkR 4 (r 1) (r 2) (r 3) (r 4) (r 5) (r 6) (r 7) (r 8) 20)) H := hq_2
    refine lv_iconst (v := 1) hC.1 hC.2.1 dX1_takeStar_19 (by decide) ?_
    have e_3 : fX1_takeStar r x1 = (mkR 4 (r 1) (r 2) (r 3) (r 4) (r 5) (r 6) (r 7) (r 8) 20, 1) := by delta fX1_takeStar; exact Eq.trans (if_pos k3) rfl
    have hg : fX1_takeStar r x1 = (mkR 4 (r 1) (r 2) (r 3) (r 4) (r 5) (r 6) (r 7) (r 8) 20, 1) := by have e2 := congrArg (fun z => z) e_3; exact hg.trans e2
    exact eE_z hC (by rw [hg]) rfl (by show PW G (rrW G a (fX1_takeStar r x1).1) H; rw [hg]; exact hP) hS dX1_takeStar_20
  · refine lv_iconst (v := 0) hC.1 hC.2.1 dX1_takeStar_6 (by decide) ?_
    have e_4 : fX1_takeStar r x1 = (r, 0) := by delta fX1_takeStar; exact Eq.trans (if_neg k3) rfl
    have hg : fX1_takeStar r x1 = (r, 0) := by have e2 := congrArg (fun z => z) e_4; exact hg.trans e2
    exact eE_z hC (by rw [hg]) rfl (by show PW G (rrW G a (fX1_takeStar r x1).1) s.heap; rw [hg]; exact hP) hS dX1_takeStar_7

theorem dX1_takeOfDots_0 : decode cX1_takeOfDots 0 = .ok (.aload_n 0, 1) := by decide +kernel
theorem dX1_takeOfDots_1 : decode cX1_takeOfDots 1 = .ok (.getfield 33, 3) := by decide +kernel
theorem dX1_takeOfDots_4 : decode cX1_takeOfDots 4 = .ok (.bipush 6, 2) := by decide +kernel
theorem dX1_takeOfDots_6 : decode cX1_takeOfDots 6 = .ok (.if_icmp .lt 9, 3) := by decide +kernel
theorem dX1_takeOfDots_9 : decode cX1_takeOfDots 9 = .ok (.aload_n 0, 1) := by decide +kernel
theorem dX1_takeOfDots_10 : decode cX1_takeOfDots 10 = .ok (.iload_n 1, 1) := by decide +kernel
theorem dX1_takeOfDots_11 : decode cX1_takeOfDots 11 = .ok (.invokevirtual 118, 3) := by decide +kernel
theorem dX1_takeOfDots_14 : decode cX1_takeOfDots 14 = .ok (.ireturn, 1) := by decide +kernel
theorem dX1_takeOfDots_15 : decode cX1_takeOfDots 15 = .ok (.iload_n 1, 1) := by decide +kernel
theorem dX1_takeOfDots_16 : decode cX1_takeOfDots 16 = .ok (.invokestatic 121, 3) := by decide +kernel
theorem dX1_takeOfDots_19 : decode cX1_takeOfDots 19 = .ok (.istore_n 2, 1) := by decide +kernel
theorem dX1_takeOfDots_20 : decode cX1_takeOfDots 20 = .ok (.iload_n 2, 1) := by decide +kernel
theorem dX1_takeOfDots_21 : decode cX1_takeOfDots 21 = .ok (.ifCond .ge 5, 3) := by decide +kernel
theorem dX1_takeOfDots_24 : decode cX1_takeOfDots 24 = .ok (.iconst 0, 1) := by decide +kernel
theorem dX1_takeOfDots_25 : decode cX1_takeOfDots 25 = .ok (.ireturn, 1) := by decide +kernel
theorem dX1_takeOfDots_26 : decode cX1_takeOfDots 26 = .ok (.aload_n 0, 1) := by decide +kernel
theorem dX1_takeOfDots_27 : decode cX1_takeOfDots 27 = .ok (.aload_n 0, 1) := by decide +kernel
theorem dX1_takeOfDots_28 : decode cX1_takeOfDots 28 = .ok (.getfield 30, 3) := by decide +kernel
theorem dX1_takeOfDots_31 : decode cX1_takeOfDots 31 = .ok (.bipush 16, 2) := by decide +kernel
theorem dX1_takeOfDots_33 : decode cX1_takeOfDots 33 = .ok (.imul, 1) := by decide +kernel
theorem dX1_takeOfDots_34 : decode cX1_takeOfDots 34 = .ok (.iload_n 2, 1) := by decide +kernel
theorem dX1_takeOfDots_35 : decode cX1_takeOfDots 35 = .ok (.iadd, 1) := by decide +kernel
theorem dX1_takeOfDots_36 : decode cX1_takeOfDots 36 = .ok (.putfield 30, 3) := by decide +kernel
theorem dX1_takeOfDots_39 : decode cX1_takeOfDots 39 = .ok (.aload_n 0, 1) := by decide +kernel
theorem dX1_takeOfDots_40 : decode cX1_takeOfDots 40 = .ok (.dup, 1) := by decide +kernel
theorem dX1_takeOfDots_41 : decode cX1_takeOfDots 41 = .ok (.getfield 33, 3) := by decide +kernel
theorem dX1_takeOfDots_44 : decode cX1_takeOfDots 44 = .ok (.iconst 1, 1) := by decide +kernel
theorem dX1_takeOfDots_45 : decode cX1_takeOfDots 45 = .ok (.iadd, 1) := by decide +kernel
theorem dX1_takeOfDots_46 : decode cX1_takeOfDots 46 = .ok (.putfield 33, 3) := by decide +kernel
theorem dX1_takeOfDots_49 : decode cX1_takeOfDots 49 = .ok (.iconst 1, 1) := by decide +kernel
theorem dX1_takeOfDots_50 : decode cX1_takeOfDots 50 = .ok (.ireturn, 1) := by decide +kernel
set_option maxHeartbeats 1000000 in
set_option maxRecDepth 100000 in
theorem c_X1_takeOfDots (l : Launch) (G : GT) (a : Nat) (r : Nat → Int32) (x1 : Int32) (hlow : gL G ≤ a) : Met l yX1_takeOfDots (Cond.code yX1_takeOfDots cX1_takeOfDots 3 (some .boolean) :: bigW) ({ frames := 2, cells := 0, slots := 0, locals := 42 }) (BP G [.ref a, .int x1] (fun U H => PW G (rrW G a r) H)) (QE (some (.int (fX1_takeOfDots r x1).2)) (fun H => PW G (rrW G a (fX1_takeOfDots r x1).1) H) (fun z => z = a)) 0 0 (fun z => z = a) := by
  refine met_of (by decide) (Nat.le_of_ble_eq_true rfl) ?_
  intro p e s m below meth c ls hC hKN hB0 hl
  have hP := hB0
  have hl : lv_has ls 3 [(0, .ref a), (1, .int x1)] := hl
  have hS : va_S (fun z => z = a) s.heap s.heap [] := va_S.rf
  have hAL : ∀ z, (fun z => z = a) z → gL G ≤ z := fun z h => by have h : z = a := h; rw [h]; exact hlow
  have hg : fX1_takeOfDots r x1 = fX1_takeOfDots r x1 := rfl
  refine lv_aload_n hC.1 hC.2.1 dX1_takeOfDots_0 rfl (lv_at hl 0 rfl) ?_
  refine gf (v := .int (r 6)) hC fwX1 hKN hP 0 rfl rfl 6 (by decide) rfl wd_175 rfl dX1_takeOfDots_1 ?_
  refine lv_bipush (v := 6) hC.1 hC.2.1 dX1_takeOfDots_4 (by decide +kernel) ?_
  refine lv_icmp_lt (tgt := 15) hC.1 hC.2.1 dX1_takeOfDots_6 (by decide) (fun k6 => ?_) (fun k6 => ?_)
  · refine lv_iload_n hC.1 hC.2.1 dX1_takeOfDots_15 rfl (lv_at hl 1 rfl) ?_
    refine runP (rS (B := fun U H => True) (As := [.int x1]) (rest := []) hC mwX1_hexDigit (c_X1_hexDigit l G x1) wd_340 wd_339 ⟨rfl, rfl⟩ ⟨Nat.le_of_ble_eq_true rfl, Nat.le_of_ble_eq_true rfl⟩ (fun _ _ _ _ h => h) hKN trivial rfl hl.1 rfl (Nat.le_of_ble_eq_true rfl) dX1_takeOfDots_16 ⟨Nat.zero_le _, Nat.zero_le _⟩) ?_
    refine lv_istore_n (lv' := [(2, .int (fX1_hexDigit x1)), (0, .ref a), (1, .int x1)]) hC.1 hC.2.1 dX1_takeOfDots_19 rfl hl (by decide) rfl (fun ls hl => ?_)
    refine lv_iload_n hC.1 hC.2.1 dX1_takeOfDots_20 rfl (lv_at hl 0 rfl) ?_
    refine lv_if_ge (tgt := 26) hC.1 hC.2.1 dX1_takeOfDots_21 (by decide) (fun k21 => ?_) (fun k21 => ?_)
    · refine lv_aload_n hC.1 hC.2.1 dX1_takeOfDots_26 rfl (lv_at hl 1 rfl) ?_
      refine lv_aload_n hC.1 hC.2.1 dX1_takeOfDots_27 rfl (lv_at hl 1 rfl) ?_
      refine gf (v := .int (r 5)) hC fwX1 hKN hP 0 rfl rfl 5 (by decide) rfl wd_173 rfl dX1_takeOfDots_28 ?_
      refine lv_bipush (v := 16) hC.1 hC.2.1 dX1_takeOfDots_31 (by decide +kernel) ?_
      refine lv_imul hC.1 hC.2.1 dX1_takeOfDots_33 ?_
      refine lv_iload_n hC.1 hC.2.1 dX1_takeOfDots_34 rfl (lv_at hl 0 rfl) ?_
      refine lv_iadd hC.1 hC.2.1 dX1_takeOfDots_35 ?_
      refine lv_topi (fun w_1 ew_1 => ?_)
      refine pf (v := .int w_1) (tv := .int) hC fwX1 hKN hP (rrW_D r) hS 0 rfl rfl 5 (by decide) rfl wd_173 rfl rfl rfl (Nat.le_of_ble_eq_true rfl) dX1_takeOfDots_36 (fun H locs hq_2 hS => ?_)
      have hP : PW G (rrW G a (mkR (r 0) (r 1) (r 2) (r 3) (r 4) w_1 (r 6) (r 7) (r 8) (r 9))) H := hq_2
      refine lv_aload_n hC.1 hC.2.1 dX1_takeOfDots_39 rfl (lv_at hl 1 rfl) ?_
      refine lv_dup hC.1 hC.2.1 dX1_takeOfDots_40 rfl ?_
      refine gf (v := .int (r 6)) hC fwX1 (hKN.go hAL hS) hP 0 rfl rfl 6 (by decide) rfl wd_175 rfl dX1_takeOfDots_41 ?_
      refine lv_iconst (v := 1) hC.1 hC.2.1 dX1_takeOfDots_44 (by decide) ?_
      refine lv_iadd hC.1 hC.2.1 dX1_takeOfDots_45 ?_
      refine lv_topi (fun w_3 ew_3 => ?_)
      refine pf (v := .int w_3) (tv := .int) hC fwX1 (hKN.go hAL hS) hP (rrW_D (mkR (r 0) (r 1) (r 2) (r 3) (r 4) w_1 (r 6) (r 7) (r 8) (r 9))) hS 0 rfl rfl 6 (by decide) rfl wd_175 rfl rfl rfl (Nat.le_of_ble_eq_true rfl) dX1_takeOfDots_46 (fun H locs hq_4 hS => ?_)
      have hP : PW G (rrW G a (mkR (r 0) (r 1) (r 2) (r 3) (r 4) w_1 w_3 (r 7) (r 8) (r 9))) H := hq_4
      refine lv_iconst (v := 1) hC.1 hC.2.1 dX1_takeOfDots_49 (by decide) ?_
      have e_5 : fX1_takeOfDots r x1 = (mkR (r 0) (r 1) (r 2) (r 3) (r 4) w_1 w_3 (r 7) (r 8) (r 9), 1) := by
        have q_ := ew_3.symm; subst q_; have q_ := ew_1.symm; subst q_; delta fX1_takeOfDots
        try dsimp only
        exact Eq.trans (if_pos k6) (Eq.trans (if_pos k21) rfl)
      have hg : fX1_takeOfDots r x1 = (mkR (r 0) (r 1) (r 2) (r 3) (r 4) w_1 w_3 (r 7) (r 8) (r 9), 1) := by have e2 := congrArg (fun z => z) e_5; exact hg.trans e2
      exact eE_z hC (by rw [hg]) rfl (by show PW G (rrW G a (fX1_takeOfDots r x1).1) H; rw [hg]; exact hP) hS dX1_takeOfDots_50
    · refine lv_iconst (v := 0) hC.1 hC.2.1 dX1_takeOfDots_24 (by decide) ?_
      have e_6 : fX1_takeOfDots r x1 = (r, 0) := by
        delta fX1_takeOfDots
        try dsimp only
        exact Eq.trans (if_pos k6) (Eq.trans (if_neg k21) rfl)
      have hg : fX1_takeOfDots r x1 = (r, 0) := by have e2 := congrArg (fun z => z) e_6; exact hg.trans e2
      exact eE_z hC (by rw [hg]) rfl (by show PW G (rrW G a (fX1_takeOfDots r x1).1) s.heap; rw [hg]; exact hP) hS dX1_takeOfDots_25
  · refine lv_aload_n hC.1 hC.2.1 dX1_takeOfDots_9 rfl (lv_at hl 0 rfl) ?_
    refine lv_iload_n hC.1 hC.2.1 dX1_takeOfDots_10 rfl (lv_at hl 1 rfl) ?_
    refine runE (rV (B := fun U H => PW G (rrW G a r) H) (As := [.int x1]) (rest := []) hC mwX1_takeStar (c_X1_takeStar l G a r x1 hlow) iwX1_takeStar wd_335 ⟨rfl, rfl⟩ ⟨Nat.le_of_ble_eq_true rfl, Nat.le_of_ble_eq_true rfl⟩ (stb_h (fun H => PW G (rrW G a r) H)) hKN hP (va_recv hKN.k hP (ci := 1) (q0 := 0) rfl rfl) rfl hl.1 rfl (Nat.le_of_ble_eq_true rfl) dX1_takeOfDots_11 ⟨Nat.zero_le _, Nat.zero_le _⟩) hS (fun _ h => h) (fun _ h => h) (fun H locs hq_7 _ _ hS => ?_)
    have hP : PW G (rrW G a ((fX1_takeStar r x1).1)) H := hq_7
    obtain ⟨r_8, er_8⟩ : ∃ z, z = fX1_takeStar r x1 := ⟨_, rfl⟩
    rw [← er_8] at hP
    show W p l e ({ frames := 2, cells := 0, slots := 0, locals := 42 }) s m ([.ref a, .int x1] : List Value).toArray below meth c H locs (0 + 0) (0 + 0) _ (F0 m (11 + 3) ls [.int ((fX1_takeStar r x1).2)])
    rw [← er_8]
    have e_9 : fX1_takeOfDots r x1 = (r_8.1, r_8.2) := by
      delta fX1_takeOfDots
      try dsimp only
      rw [← er_8]
      exact Eq.trans (if_neg k6) rfl
    have hg : fX1_takeOfDots r x1 = (r_8.1, r_8.2) := by have e2 := congrArg (fun z => z) e_9; exact hg.trans e2
    exact eE_z hC (by rw [hg]) (nb01 (by rw [er_8]; apply Z_X1_takeStar)) (by show PW G (rrW G a (fX1_takeOfDots r x1).1) H; rw [hg]; exact hP) hS dX1_takeOfDots_14

theorem dX1_takeDigit_0 : decode cX1_takeDigit 0 = .ok (.iload_n 1, 1) := by decide +kernel
theorem dX1_takeDigit_1 : decode cX1_takeDigit 1 = .ok (.bipush 48, 2) := by decide +kernel
theorem dX1_takeDigit_3 : decode cX1_takeDigit 3 = .ok (.bipush 57, 2) := by decide +kernel
theorem dX1_takeDigit_5 : decode cX1_takeDigit 5 = .ok (.invokestatic 124, 3) := by decide +kernel
theorem dX1_takeDigit_8 : decode cX1_takeDigit 8 = .ok (.ifCond .ne 5, 3) := by decide +kernel
theorem dX1_takeDigit_11 : decode cX1_takeDigit 11 = .ok (.iconst 0, 1) := by decide +kernel
theorem dX1_takeDigit_12 : decode cX1_takeDigit 12 = .ok (.ireturn, 1) := by decide +kernel
theorem dX1_takeDigit_13 : decode cX1_takeDigit 13 = .ok (.aload_n 0, 1) := by decide +kernel
theorem dX1_takeDigit_14 : decode cX1_takeDigit 14 = .ok (.getfield 39, 3) := by decide +kernel
theorem dX1_takeDigit_17 : decode cX1_takeDigit 17 = .ok (.bipush 10, 2) := by decide +kernel
theorem dX1_takeDigit_19 : decode cX1_takeDigit 19 = .ok (.imul, 1) := by decide +kernel
theorem dX1_takeDigit_20 : decode cX1_takeDigit 20 = .ok (.iload_n 1, 1) := by decide +kernel
theorem dX1_takeDigit_21 : decode cX1_takeDigit 21 = .ok (.bipush 48, 2) := by decide +kernel
theorem dX1_takeDigit_23 : decode cX1_takeDigit 23 = .ok (.isub, 1) := by decide +kernel
theorem dX1_takeDigit_24 : decode cX1_takeDigit 24 = .ok (.iadd, 1) := by decide +kernel
theorem dX1_takeDigit_25 : decode cX1_takeDigit 25 = .ok (.istore_n 2, 1) := by decide +kernel
theorem dX1_takeDigit_26 : decode cX1_takeDigit 26 = .ok (.iload_n 2, 1) := by decide +kernel
theorem dX1_takeDigit_27 : decode cX1_takeDigit 27 = .ok (.iconst 1, 1) := by decide +kernel
theorem dX1_takeDigit_28 : decode cX1_takeDigit 28 = .ok (.aload_n 0, 1) := by decide +kernel
theorem dX1_takeDigit_29 : decode cX1_takeDigit 29 = .ok (.getfield 42, 3) := by decide +kernel
theorem dX1_takeDigit_32 : decode cX1_takeDigit 32 = .ok (.invokestatic 124, 3) := by decide +kernel
theorem dX1_takeDigit_35 : decode cX1_takeDigit 35 = .ok (.ifCond .ne 5, 3) := by decide +kernel
theorem dX1_takeDigit_38 : decode cX1_takeDigit 38 = .ok (.iconst 0, 1) := by decide +kernel
theorem dX1_takeDigit_39 : decode cX1_takeDigit 39 = .ok (.ireturn, 1) := by decide +kernel
theorem dX1_takeDigit_40 : decode cX1_takeDigit 40 = .ok (.aload_n 0, 1) := by decide +kernel
theorem dX1_takeDigit_41 : decode cX1_takeDigit 41 = .ok (.iload_n 2, 1) := by decide +kernel
theorem dX1_takeDigit_42 : decode cX1_takeDigit 42 = .ok (.putfield 39, 3) := by decide +kernel
theorem dX1_takeDigit_45 : decode cX1_takeDigit 45 = .ok (.iconst 1, 1) := by decide +kernel
theorem dX1_takeDigit_46 : decode cX1_takeDigit 46 = .ok (.ireturn, 1) := by decide +kernel
set_option maxHeartbeats 1000000 in
set_option maxRecDepth 100000 in
theorem c_X1_takeDigit (l : Launch) (G : GT) (a : Nat) (r : Nat → Int32) (x1 : Int32) (hlow : gL G ≤ a) : Met l yX1_takeDigit (Cond.code yX1_takeDigit cX1_takeDigit 3 (some .boolean) :: bigW) ({ frames := 1, cells := 0, slots := 0, locals := 22 }) (BP G [.ref a, .int x1] (fun U H => PW G (rrW G a r) H)) (QE (some (.int (fX1_takeDigit r x1).2)) (fun H => PW G (rrW G a (fX1_takeDigit r x1).1) H) (fun z => z = a)) 0 0 (fun z => z = a) := by
  refine met_of (by decide) (Nat.le_of_ble_eq_true rfl) ?_
  intro p e s m below meth c ls hC hKN hB0 hl
  have hP := hB0
  have hl : lv_has ls 3 [(0, .ref a), (1, .int x1)] := hl
  have hS : va_S (fun z => z = a) s.heap s.heap [] := va_S.rf
  have hAL : ∀ z, (fun z => z = a) z → gL G ≤ z := fun z h => by have h : z = a := h; rw [h]; exact hlow
  have hg : fX1_takeDigit r x1 = fX1_takeDigit r x1 := rfl
  refine lv_iload_n hC.1 hC.2.1 dX1_takeDigit_0 rfl (lv_at hl 1 rfl) ?_
  refine lv_bipush (v := 48) hC.1 hC.2.1 dX1_takeDigit_1 (by decide +kernel) ?_
  refine lv_bipush (v := 57) hC.1 hC.2.1 dX1_takeDigit_3 (by decide +kernel) ?_
  refine runP (rSN (B := fun U H => True) (As := [.int x1, .int 48, .int 57]) (rest := []) hC mwX5_isWithin (c_X5_isWithin l G x1 48 57) wd_343 (nm_2 hKN) ⟨rfl, rfl⟩ ⟨Nat.le_of_ble_eq_true rfl, Nat.le_of_ble_eq_true rfl⟩ (fun _ _ _ _ h => h) hKN trivial rfl hl.1 rfl (Nat.le_of_ble_eq_true rfl) dX1_takeDigit_5 ⟨Nat.zero_le _, Nat.zero_le _⟩) ?_
  refine lv_if_ne (tgt := 13) hC.1 hC.2.1 dX1_takeDigit_8 (by decide) (fun k8 => ?_) (fun k8 => ?_)
  · refine lv_aload_n hC.1 hC.2.1 dX1_takeDigit_13 rfl (lv_at hl 0 rfl) ?_
    refine gf (v := .int (r 8)) hC fwX1 hKN hP 0 rfl rfl 8 (by decide) rfl wd_178 rfl dX1_takeDigit_14 ?_
    refine lv_bipush (v := 10) hC.1 hC.2.1 dX1_takeDigit_17 (by decide +kernel) ?_
    refine lv_imul hC.1 hC.2.1 dX1_takeDigit_19 ?_
    refine lv_iload_n hC.1 hC.2.1 dX1_takeDigit_20 rfl (lv_at hl 1 rfl) ?_
    refine lv_bipush (v := 48) hC.1 hC.2.1 dX1_takeDigit_21 (by decide +kernel) ?_
    refine lv_isub hC.1 hC.2.1 dX1_takeDigit_23 ?_
    refine lv_iadd hC.1 hC.2.1 dX1_takeDigit_24 ?_
    refine lv_istore_n (lv' := [(2, .int (((r 8) * 10) + (x1 - 48))), (0, .ref a), (1, .int x1)]) hC.1 hC.2.1 dX1_takeDigit_25 rfl hl (by decide) rfl (fun ls hl => ?_)
    refine lv_iload_n hC.1 hC.2.1 dX1_takeDigit_26 rfl (lv_at hl 0 rfl) ?_
    refine lv_iconst (v := 1) hC.1 hC.2.1 dX1_takeDigit_27 (by decide) ?_
    refine lv_aload_n hC.1 hC.2.1 dX1_takeDigit_28 rfl (lv_at hl 1 rfl) ?_
    refine gf (v := .int (r 9)) hC fwX1 hKN hP 0 rfl rfl 9 (by decide) rfl wd_180 rfl dX1_takeDigit_29 ?_
    refine runP (rSN (B := fun U H => True) (As := [.int (((r 8) * 10) + (x1 - 48)), .int 1, .int (r 9)]) (rest := []) hC mwX5_isWithin (c_X5_isWithin l G (((r 8) * 10) + (x1 - 48)) 1 (r 9)) wd_343 (nm_2 hKN) ⟨rfl, rfl⟩ ⟨Nat.le_of_ble_eq_true rfl, Nat.le_of_ble_eq_true rfl⟩ (fun _ _ _ _ h => h) hKN trivial rfl hl.1 rfl (Nat.le_of_ble_eq_true rfl) dX1_takeDigit_32 ⟨Nat.zero_le _, Nat.zero_le _⟩) ?_
    refine lv_if_ne (tgt := 40) hC.1 hC.2.1 dX1_takeDigit_35 (by decide) (fun k35 => ?_) (fun k35 => ?_)
    · refine lv_aload_n hC.1 hC.2.1 dX1_takeDigit_40 rfl (lv_at hl 1 rfl) ?_
      refine lv_iload_n hC.1 hC.2.1 dX1_takeDigit_41 rfl (lv_at hl 0 rfl) ?_
      refine lv_topi (fun w_1 ew_1 => ?_)
      refine pf (v := .int w_1) (tv := .int) hC fwX1 hKN hP (rrW_D r) hS 0 rfl rfl 8 (by decide) rfl wd_178 rfl rfl rfl (Nat.le_of_ble_eq_true rfl) dX1_takeDigit_42 (fun H locs hq_2 hS => ?_)
      have hP : PW G (rrW G a (mkR (r 0) (r 1) (r 2) (r 3) (r 4) (r 5) (r 6) (r 7) w_1 (r 9))) H := hq_2
      refine lv_iconst (v := 1) hC.1 hC.2.1 dX1_takeDigit_45 (by decide) ?_
      have e_3 : fX1_takeDigit r x1 = (mkR (r 0) (r 1) (r 2) (r 3) (r 4) (r 5) (r 6) (r 7) w_1 (r 9), 1) := by
        have q_ := ew_1.symm; subst q_; delta fX1_takeDigit
        try dsimp only
        exact Eq.trans (if_neg k8) (Eq.trans (if_neg k35) rfl)
      have hg : fX1_takeDigit r x1 = (mkR (r 0) (r 1) (r 2) (r 3) (r 4) (r 5) (r 6) (r 7) w_1 (r 9), 1) := by have e2 := congrArg (fun z => z) e_3; exact hg.trans e2
      exact eE_z hC (by rw [hg]) rfl (by show PW G (rrW G a (fX1_takeDigit r x1).1) H; rw [hg]; exact hP) hS dX1_takeDigit_46
    · refine lv_iconst (v := 0) hC.1 hC.2.1 dX1_takeDigit_38 (by decide) ?_
      have e_4 : fX1_takeDigit r x1 = (r, 0) := by
        delta fX1_takeDigit
        try dsimp only
        exact Eq.trans (if_neg k8) (Eq.trans (if_pos k35) rfl)
      have hg : fX1_takeDigit r x1 = (r, 0) := by have e2 := congrArg (fun z => z) e_4; exact hg.trans e2
      exact eE_z hC (by rw [hg]) rfl (by show PW G (rrW G a (fX1_takeDigit r x1).1) s.heap; rw [hg]; exact hP) hS dX1_takeDigit_39
  · refine lv_iconst (v := 0) hC.1 hC.2.1 dX1_takeDigit_11 (by decide) ?_
    have e_5 : fX1_takeDigit r x1 = (r, 0) := by
      delta fX1_takeDigit
      try dsimp only
      exact Eq.trans (if_pos k8) rfl
    have hg : fX1_takeDigit r x1 = (r, 0) := by have e2 := congrArg (fun z => z) e_5; exact hg.trans e2
    exact eE_z hC (by rw [hg]) rfl (by show PW G (rrW G a (fX1_takeDigit r x1).1) s.heap; rw [hg]; exact hP) hS dX1_takeDigit_12
